/-! rows of bytes -/
/-- nothing lies behind the next address -/
def Cln (h : Hp) : Prop := ∀ x, NX h ≤ x → KD h x = 0 ∧ LN h x = 0 ∧ (∀ f, FI h f x = 0 ∧ FL h f x = 0 ∧ FR h f x = none) ∧ ∀ j, AI h x j = 0 ∧ AL h x j = 0 ∧ AR h x j = none
def u8 (x : Int) : Nat := (x % 256).toNat
def rw0 (h : Hp) (a : Nat) : Nat := (FR h 640 a).getD 0
/-- a row's bytes -/
def rl (h : Hp) (a : Nat) : List Nat := (List.range (FI h 641 a).toNat).map fun j => u8 (AI h (rw0 h a) j)
def cap (h : Hp) (a : Nat) : Nat := LN h (rw0 h a)
def RowW (h : Hp) (a : Nat) : Prop := FR h 640 a = some (rw0 h a) ∧ KD h (rw0 h a) = 41 ∧ 0 ≤ FI h 641 a ∧ FI h 641 a ≤ (cap h a : Int)
def RowsOk (h : Hp) : Prop := (∀ a, KD h a = 6 → RowW h a) ∧ (∀ a a', KD h a = 6 → KD h a' = 6 → rw0 h a = rw0 h a' → a = a') ∧ Cln h ∧ (∀ b j, KD h b = 41 → -128 ≤ AI h b j ∧ AI h b j < 128) ∧ ∀ b, LN h b ≤ 60000000
/-- all but rows is as it was -/
def Rst (h h' : Hp) : Prop := NX h ≤ NX h' ∧ SL h ≤ SL h' ∧ (∀ x, KD h x ≠ 0 → KD h' x = KD h x ∧ LN h' x = LN h x) ∧ (∀ x, KD h' x = 6 → KD h x = 6) ∧ FL h' = FL h ∧ AL h' = AL h ∧ AR h' = AR h ∧ (∀ f, f ≠ 641 → FI h' f = FI h f) ∧ (∀ f, f ≠ 640 → FR h' f = FR h f) ∧ ∀ b, KD h b ≠ 0 → (∀ a, KD h a = 6 → rw0 h a ≠ b) → AI h' b = AI h b
def psum (g : Nat → Nat) (h : Hp) : Nat := ((List.range (NX h)).map fun x => if KD h x = 6 then g (cap h x) else 0).sum
def potS (c : Nat) : Nat := 2432 - 2 * c
def potC (c : Nat) : Nat := if c = 0 then 12 else 11 - Nat.log2 c
/-- the rows in P may have changed, all else is as it was; the room that rows may still take pays what is made -/
def Rw (P : Nat → Prop) (h h' : Hp) : Prop := RowsOk h' ∧ Rst h h' ∧ (∀ x, KD h x = 6 → ¬ P x → rl h' x = rl h x) ∧ (∀ x, KD h x = 6 → rw0 h' x = rw0 h x ∨ NX h ≤ rw0 h' x) ∧ (∀ x, KD h x = 6 → cap h x ≤ cap h' x ∧ (¬ P x → cap h' x = cap h x)) ∧ NX h' + psum potC h' ≤ NX h + psum potC h ∧ SL h' + psum potS h' ≤ SL h + psum potS h
/-- row a has come to hold l, no row has grown -/
def RSt (h h' : Hp) (a : Nat) (l : List Nat) : Prop := Rw (fun x => x = a) h h' ∧ rl h' a = l ∧ ∀ x, KD h x = 6 → cap h' x = cap h x
theorem psum_eq {g : Nat → Nat} {h h' : Hp} (hN : NX h' = NX h) (hK : ∀ x, KD h' x = KD h x) (hC : ∀ x, KD h x = 6 → cap h' x = cap h x) : psum g h' = psum g h := by
  unfold psum
  rw [hN]
  refine congrArg List.sum (List.map_congr_left fun x _ => ?_)
  rw [hK]
  split
  · rename_i q
    rw [hC x q]
  · rfl
theorem RSt.of {h h' : Hp} {a : Nat} {l : List Nat} (h1 : RowsOk h') (h2 : Rst h h') (h3 : ∀ x, KD h x = 6 → x ≠ a → rl h' x = rl h x) (h4 : ∀ x, KD h x = 6 → rw0 h' x = rw0 h x) (h5 : NX h' = NX h) (h6 : SL h' = SL h) (h7 : ∀ x, KD h' x = KD h x) (h8 : LN h' = LN h) (h9 : rl h' a = l) : RSt h h' a l := by
  have hc : ∀ x, KD h x = 6 → cap h' x = cap h x := fun x hx => by unfold cap; rw [h8, h4 x hx]
  refine ⟨⟨h1, h2, h3, fun x hx => Or.inl (h4 x hx), fun x hx => ⟨by rw [hc x hx]; exact Nat.le_refl _, fun _ => hc x hx⟩, ?_, ?_⟩, h9, hc⟩
  · rw [psum_eq h5 h7 hc, h5]
    exact Nat.le_refl _
  · rw [psum_eq h5 h7 hc, h6]
    exact Nat.le_refl _
def atv (l : List Nat) (i : Int) : Int := if 0 ≤ i ∧ i < (l.length : Int) then (l.getD i.toNat 0 : Nat) else -1
theorem rl_len {h : Hp} {a : Nat} (hw : RowW h a) : FI h 641 a = ((rl h a).length : Int) := by
  unfold rl
  rw [List.length_map, List.length_range]
  have := hw.2.2.1
  omega
theorem rl_eq {h : Hp} {a n : Nat} (hn : FI h 641 a = (n : Int)) : rl h a = (List.range n).map fun j => u8 (AI h (rw0 h a) j) := by
  unfold rl
  rw [hn]
  rfl
theorem rl_cap {h : Hp} {a : Nat} (hw : RowW h a) : (rl h a).length ≤ cap h a := by
  have := rl_len hw
  have := hw.2.2.2
  omega
theorem rl_at {h : Hp} {a j : Nat} (hj : j < (rl h a).length) : (rl h a).getD j 0 = u8 (AI h (rw0 h a) j) := by
  rw [List.getD_eq_getElem?_getD, List.getElem?_eq_getElem hj]
  simp [rl]
theorem u8_and {x : Int} (h : -128 ≤ x ∧ x < 128) : (i32 x &&& i32 255).toInt = (u8 x : Int) := by
  have key : ∀ n : Fin 256, (i32 ((n.val : Int) - 128) &&& i32 255).toInt = (u8 ((n.val : Int) - 128) : Int) := by decide +kernel
  have := key ⟨(x + 128).toNat, by omega⟩
  have e : (((x + 128).toNat : Nat) : Int) - 128 = x := by omega
  rw [e] at this
  exact this
theorem qI {Q : Option MV → Hp → Prop} {h : Hp} {x y : Int} (e : x = y) (k : Q (some (vI y)) h) : Q (some (vI x)) h := e ▸ k
theorem u8_lt (x : Int) : u8 x < 256 := by unfold u8; omega
theorem d13_0 : dc 13 0 = some (.aload_n 0, 1) := by decide +kernel
theorem d13_1 : dc 13 1 = some (.getfield 641, 4) := by decide +kernel
theorem d13_4 : dc 13 4 = some (.ireturn, 5) := by decide +kernel
theorem c_Row_size {G : Nat → Option Nat} {d : Nat} {h : Hp} {Q : Option MV → Hp → Prop} {a : Nat} (hR : RowsOk h) (ha : KD h a = 6) (kk : Q (some (vI ((rl h a).length : Int))) h) : Cl G d 13 [vR (some a)] h Q := by
  show Wp G d 13 0 [some (vR (some a))] [] h Q
  have hw := hR.1 a ha
  have hl := rl_len hw
  obtain ⟨w1, w2, w3, w4⟩ := hw
  refine w_aload_n d13_0 rfl ?_
  refine w_getI d13_1 ha hl ?_
  refine w_ireturn d13_4 ?_
  exact kk
theorem d23_0 : dc 23 0 = some (.iload_n 1, 1) := by decide +kernel
theorem d23_1 : dc 23 1 = some (.ifCond .lt ((25 : Nat) : Int), 4) := by decide +kernel
theorem d23_4 : dc 23 4 = some (.iload_n 1, 5) := by decide +kernel
theorem d23_5 : dc 23 5 = some (.aload_n 0, 6) := by decide +kernel
theorem d23_6 : dc 23 6 = some (.getfield 641, 9) := by decide +kernel
theorem d23_9 : dc 23 9 = some (.if_icmp .ge ((25 : Nat) : Int), 12) := by decide +kernel
theorem d23_12 : dc 23 12 = some (.aload_n 0, 13) := by decide +kernel
theorem d23_13 : dc 23 13 = some (.dload 640, 16) := by decide +kernel
theorem d23_16 : dc 23 16 = some (.iload_n 1, 17) := by decide +kernel
theorem d23_17 : dc 23 17 = some (.baload, 18) := by decide +kernel
theorem d23_18 : dc 23 18 = some (.sipush 255, 21) := by decide +kernel
theorem d23_21 : dc 23 21 = some (.iand, 22) := by decide +kernel
theorem d23_22 : dc 23 22 = some (.goto ((26 : Nat) : Int), 25) := by decide +kernel
theorem d23_25 : dc 23 25 = some (.iconst (-1), 26) := by decide +kernel
theorem d23_26 : dc 23 26 = some (.ireturn, 27) := by decide +kernel
theorem c_Row_at {G : Nat → Option Nat} {d : Nat} {h : Hp} {Q : Option MV → Hp → Prop} {a : Nat} {i : Int} (hR : RowsOk h) (ha : KD h a = 6) (kk : Q (some (vI (atv (rl h a) i))) h) : Cl G d 23 [vR (some a), vI i] h Q := by
  show Wp G d 23 0 [some (vR (some a)), some (vI i)] [] h Q
  have hw := hR.1 a ha
  have hl := rl_len hw
  obtain ⟨w1, w2, w3, w4⟩ := hw
  refine w_iload_n d23_0 rfl ?_
  refine w_iflt d23_1 (fun c1 => ?_) (fun c1 => ?_)
  · refine w_iconst d23_25 (by decide) ?_
    refine w_ireturn d23_26 ?_
    exact qI (by first | (unfold atv; rw [if_neg (by omega)]; done) | (unfold atv; rw [if_pos (by omega), rl_at (by omega)]; exact u8_and (hR.2.2.2.1 _ _ w2))) kk
  · refine w_iload_n d23_4 rfl ?_
    refine w_aload_n d23_5 rfl ?_
    refine w_getI d23_6 ha hl ?_
    refine w_icmpge d23_9 (fun c9 => ?_) (fun c9 => ?_)
    · refine w_iconst d23_25 (by decide) ?_
      refine w_ireturn d23_26 ?_
      exact qI (by first | (unfold atv; rw [if_neg (by omega)]; done) | (unfold atv; rw [if_pos (by omega), rl_at (by omega)]; exact u8_and (hR.2.2.2.1 _ _ w2))) kk
    · refine w_aload_n d23_12 rfl ?_
      refine w_dloadS d23_13 ha w1 ?_
      refine w_iload_n d23_16 rfl ?_
      refine w_baload d23_17 ⟨by rw [w2]; rfl, by omega, by show i < (cap h a : Int); omega⟩ ?_
      refine w_sipush d23_18 (by decide) ?_
      refine w_iand d23_21 ?_
      refine w_goto d23_22 ?_
      refine w_ireturn d23_26 ?_
      exact qI (by first | (unfold atv; rw [if_neg (by omega)]; done) | (unfold atv; rw [if_pos (by omega), rl_at (by omega)]; exact u8_and (hR.2.2.2.1 _ _ w2))) kk
theorem i8_rng (c : Int) : -128 ≤ (i32 c).toInt8.toInt32.toInt ∧ (i32 c).toInt8.toInt32.toInt < 128 := by
  have e : (i32 c).toInt8.toInt32.toInt = (i32 c).toInt8.toInt := Int8.toInt_toInt32 _
  rw [e]
  have h1 := Int8.le_toInt (i32 c).toInt8
  have h2 := Int8.toInt_lt (i32 c).toInt8
  omega
theorem u8_s (c : Int) : u8 (i32 c).toInt8.toInt32.toInt = (c % 256).toNat := by
  have e : (i32 c).toInt8.toInt32.toInt = (i32 c).toInt8.toInt := Int8.toInt_toInt32 _
  rw [e]
  unfold u8 i32
  rw [Int32.toInt8_ofInt, Int8.toInt_ofInt]
  show (Int.bmod c 256 % 256).toNat = (c % 256).toNat
  unfold Int.bmod
  dsimp only
  split <;> omega
theorem rst_sz {h : Hp} {a : Nat} {v : Int} (hR : RowsOk h) (ha : KD h a = 6) (hv : 0 ≤ v ∧ v ≤ (cap h a : Int)) : RSt h (sFI h 641 a v) a ((List.range v.toNat).map fun j => u8 (AI h (rw0 h a) j)) := by
  obtain ⟨h1, h2, h3, h4, h5⟩ := hR
  have hk : KD (sFI h 641 a v) = KD h := rfl
  have hr : ∀ x, rw0 (sFI h 641 a v) x = rw0 h x := fun _ => rfl
  refine RSt.of ⟨fun x hx => ?_, h2, fun x hx => ?_, h4, h5⟩ ⟨Nat.le_refl _, Nat.le_refl _, fun x _ => ⟨rfl, rfl⟩, fun x hx => hx, rfl, rfl, rfl, fun f hf => ?_, fun f hf => rfl, fun b _ _ => rfl⟩ (fun x hx hxa => ?_) (fun x hx => rfl) rfl rfl (fun x => rfl) rfl ?_
  · obtain ⟨a1, a2, a3, a4⟩ := h1 x hx
    refine ⟨a1, a2, ?_⟩
    rw [FI_sFI]
    split
    · rename_i q
      rw [q.2]
      exact hv
    · exact ⟨a3, a4⟩
  · obtain ⟨a1, a2, a3, a4⟩ := h3 x hx
    refine ⟨a1, a2, fun f => ⟨?_, (a3 f).2⟩, a4⟩
    rw [FI_sFI, if_neg]
    · exact (a3 f).1
    · rintro ⟨-, rfl⟩
      rw [ha] at a1
      cases a1
  · funext x
    rw [FI_sFI, if_neg (fun q => hf q.1)]
  · unfold rl
    rw [FI_sFI, if_neg (fun q => hxa q.2)]
    rfl
  · unfold rl
    rw [FI_sFI, if_pos ⟨rfl, rfl⟩]
    rfl
theorem rst_put {h : Hp} {a j : Nat} {v : Int} (hR : RowsOk h) (ha : KD h a = 6) (hv : -128 ≤ v ∧ v < 128) (hj : (j : Int) < cap h a) : RSt h (sAI h (rw0 h a) j v) a ((List.range (FI h 641 a).toNat).map fun i => if i = j then u8 v else u8 (AI h (rw0 h a) i)) := by
  obtain ⟨h1, h2, h3, h4, h5⟩ := hR
  obtain ⟨e1, e2, e3, e4⟩ := h1 a ha
  refine RSt.of ⟨h1, h2, fun x hx => ?_, fun b i hb => ?_, h5⟩ ⟨Nat.le_refl _, Nat.le_refl _, fun x _ => ⟨rfl, rfl⟩, fun x hx => hx, rfl, rfl, rfl, fun f hf => rfl, fun f hf => rfl, fun b _ hb => ?_⟩ (fun x hx hxa => ?_) (fun x hx => rfl) rfl rfl (fun x => rfl) rfl ?_
  · obtain ⟨a1, a2, a3, a4⟩ := h3 x hx
    refine ⟨a1, a2, a3, fun i => ⟨?_, (a4 i).2⟩⟩
    rw [AI_sAI, if_neg]
    · exact (a4 i).1
    · rintro ⟨rfl, -⟩
      rw [e2] at a1
      cases a1
  · rw [AI_sAI]
    split
    · exact hv
    · exact h4 b i hb
  · funext i
    rw [AI_sAI, if_neg]
    rintro ⟨q, -⟩
    exact hb a ha q.symm
  · unfold rl
    have : rw0 h x ≠ rw0 h a := fun q => hxa (h2 x a hx ha q)
    refine List.map_congr_left fun i _ => ?_
    show u8 (AI (sAI h (rw0 h a) j v) (rw0 h x) i) = _
    rw [AI_sAI, if_neg (fun q => this q.1)]
  · unfold rl
    refine List.map_congr_left fun i _ => ?_
    show u8 (AI (sAI h (rw0 h a) j v) (rw0 h a) i) = _
    rw [AI_sAI]
    by_cases hi : i = j
    · rw [if_pos ⟨rfl, hi⟩, if_pos hi]
    · rw [if_neg (fun q => hi q.2), if_neg hi]
theorem Rst.refl (h : Hp) : Rst h h := ⟨Nat.le_refl _, Nat.le_refl _, fun x _ => ⟨rfl, rfl⟩, fun x hx => hx, rfl, rfl, rfl, fun f hf => rfl, fun f hf => rfl, fun b _ _ => rfl⟩
theorem d18_0 : dc 18 0 = some (.aload_n 0, 1) := by decide +kernel
theorem d18_1 : dc 18 1 = some (.iconst 0, 2) := by decide +kernel
theorem d18_2 : dc 18 2 = some (.putfield 641, 5) := by decide +kernel
theorem d18_5 : dc 18 5 = some (.return_, 6) := by decide +kernel
theorem c_Row_clear {G : Nat → Option Nat} {d : Nat} {h : Hp} {Q : Option MV → Hp → Prop} {a : Nat} (hR : RowsOk h) (ha : KD h a = 6) (kk : ∀ h', RSt h h' a [] → Q none h') : Cl G d 18 [vR (some a)] h Q := by
  show Wp G d 18 0 [some (vR (some a))] [] h Q
  have hw := hR.1 a ha
  have hl := rl_len hw
  obtain ⟨w1, w2, w3, w4⟩ := hw
  refine w_aload_n d18_0 rfl ?_
  refine w_iconst d18_1 (by decide) ?_
  refine w_putfield d18_2 ⟨by rw [ha]; rfl, by decide⟩ ?_
  refine w_return d18_5 ?_
  exact kk _ (rst_sz hR ha (by omega))
theorem Rst.trans {h h1 h2 : Hp} (hC : Cln h) (x : Rst h h1) (y : Rst h1 h2) (hn : ∀ a, KD h a = 6 → rw0 h1 a = rw0 h a ∨ NX h ≤ rw0 h1 a) : Rst h h2 := by
  obtain ⟨a1, a2, a3, a4, a5, a6, a7, a8, a9, a10⟩ := x
  obtain ⟨b1, b2, b3, b4, b5, b6, b7, b8, b9, b10⟩ := y
  refine ⟨by omega, by omega, fun q hq => ?_, fun q hq => a4 q (b4 q hq), b5.trans a5, b6.trans a6, b7.trans a7, fun f hf => (b8 f hf).trans (a8 f hf), fun f hf => (b9 f hf).trans (a9 f hf), fun b hb hx => ?_⟩
  · have := a3 q hq
    have := b3 q (by omega)
    omega
  · have hb2 : b < NX h := by
      rcases Nat.lt_or_ge b (NX h) with q | q
      · exact q
      · exact absurd (hC b q).1 hb
    rw [b10 b (by have := a3 b hb; omega) (fun a ha => by
      have h6 := a4 a ha
      rcases hn a h6 with q | q
      · rw [q]; exact hx a h6
      · omega), a10 b hb hx]
theorem Rw.kd {P : Nat → Prop} {h h' : Hp} (w : Rw P h h') {x n : Nat} (hx : KD h x = n) (hn : n ≠ 0) : KD h' x = n := by have := (w.2.1.2.2.1 x (by omega)).1; omega
theorem Rw.trans {P : Nat → Prop} {h h1 h2 : Hp} (hR : RowsOk h) (x : Rw P h h1) (y : Rw P h1 h2) : Rw P h h2 := by
  have hk : ∀ q, KD h q = 6 → KD h1 q = 6 := fun q hq => x.kd hq (by decide)
  obtain ⟨x1, x2, x3, x4, x5, x6, x7⟩ := x
  obtain ⟨y1, y2, y3, y4, y5, y6, y7⟩ := y
  refine ⟨y1, x2.trans hR.2.2.1 y2 x4, fun q hq hqa => (y3 q (hk q hq) hqa).trans (x3 q hq hqa), fun q hq => ?_, fun q hq => ⟨Nat.le_trans (x5 q hq).1 (y5 q (hk q hq)).1, fun hp => ((y5 q (hk q hq)).2 hp).trans ((x5 q hq).2 hp)⟩, Nat.le_trans y6 x6, Nat.le_trans y7 x7⟩
  have := x2.1
  rcases y4 q (hk q hq) with e | e
  · rw [e]
    exact x4 q hq
  · exact Or.inr (by omega)
theorem Rw.mono {P P' : Nat → Prop} {h h' : Hp} (hP : ∀ x, P x → P' x) (x : Rw P h h') : Rw P' h h' := by
  obtain ⟨x1, x2, x3, x4, x5, x6, x7⟩ := x
  exact ⟨x1, x2, fun q hq hn => x3 q hq fun z => hn (hP q z), x4, fun q hq => ⟨(x5 q hq).1, fun hp => (x5 q hq).2 fun z => hp (hP q z)⟩, x6, x7⟩
theorem Rw.refl {P : Nat → Prop} {h : Hp} (hR : RowsOk h) : Rw P h h := ⟨hR, Rst.refl h, fun _ _ _ => rfl, fun _ _ => Or.inl rfl, fun _ _ => ⟨Nat.le_refl _, fun _ => rfl⟩, Nat.le_refl _, Nat.le_refl _⟩
theorem RSt.trans {h h1 h2 : Hp} {a : Nat} {l1 l2 : List Nat} (hR : RowsOk h) (x : RSt h h1 a l1) (y : RSt h1 h2 a l2) : RSt h h2 a l2 :=
  ⟨x.1.trans hR y.1, y.2.1, fun q hq => (y.2.2 q (x.1.kd hq (by decide))).trans (x.2.2 q hq)⟩
theorem RSt.refl {h : Hp} {a : Nat} (hR : RowsOk h) : RSt h h a (rl h a) := ⟨Rw.refl hR, rfl, fun _ _ => rfl⟩
def addB (n : Nat) (l : List Nat) (c : Nat) : List Nat := if l.length < n then l ++ [c] else l
theorem d15_0 : dc 15 0 = some (.aload_n 0, 1) := by decide +kernel
theorem d15_1 : dc 15 1 = some (.getfield 641, 4) := by decide +kernel
theorem d15_4 : dc 15 4 = some (.aload_n 0, 5) := by decide +kernel
theorem d15_5 : dc 15 5 = some (.dload 640, 8) := by decide +kernel
theorem d15_8 : dc 15 8 = some (.arraylength, 9) := by decide +kernel
theorem d15_9 : dc 15 9 = some (.if_icmp .ge ((33 : Nat) : Int), 12) := by decide +kernel
theorem d15_12 : dc 15 12 = some (.aload_n 0, 13) := by decide +kernel
theorem d15_13 : dc 15 13 = some (.dload 640, 16) := by decide +kernel
theorem d15_16 : dc 15 16 = some (.aload_n 0, 17) := by decide +kernel
theorem d15_17 : dc 15 17 = some (.getfield 641, 20) := by decide +kernel
theorem d15_20 : dc 15 20 = some (.iload_n 1, 21) := by decide +kernel
theorem d15_21 : dc 15 21 = some (.i2b, 22) := by decide +kernel
theorem d15_22 : dc 15 22 = some (.bastore, 23) := by decide +kernel
theorem d15_23 : dc 15 23 = some (.aload_n 0, 24) := by decide +kernel
theorem d15_24 : dc 15 24 = some (.dup, 25) := by decide +kernel
theorem d15_25 : dc 15 25 = some (.getfield 641, 28) := by decide +kernel
theorem d15_28 : dc 15 28 = some (.iconst 1, 29) := by decide +kernel
theorem d15_29 : dc 15 29 = some (.iadd, 30) := by decide +kernel
theorem d15_30 : dc 15 30 = some (.putfield 641, 33) := by decide +kernel
theorem d15_33 : dc 15 33 = some (.return_, 34) := by decide +kernel
theorem c_Row_add {G : Nat → Option Nat} {d : Nat} {h : Hp} {Q : Option MV → Hp → Prop} {a : Nat} {c : Int} (hR : RowsOk h) (ha : KD h a = 6) (kk : ∀ h', RSt h h' a (addB (cap h a) (rl h a) (c % 256).toNat) → Q none h') : Cl G d 15 [vR (some a), vI c] h Q := by
  show Wp G d 15 0 [some (vR (some a)), some (vI c)] [] h Q
  have hw := hR.1 a ha
  have hl := rl_len hw
  obtain ⟨w1, w2, w3, w4⟩ := hw
  refine w_aload_n d15_0 rfl ?_
  refine w_getI d15_1 ha hl ?_
  refine w_aload_n d15_4 rfl ?_
  refine w_dloadS d15_5 ha w1 ?_
  refine w_arraylength d15_8 (by rw [w2]; rfl) ?_
  refine w_icmpge d15_9 (fun c9 => ?_) (fun c9 => ?_)
  · have c9 : (cap h a : Int) ≤ ((rl h a).length : Int) := c9
    have e : addB (cap h a) (rl h a) (c % 256).toNat = rl h a := if_neg (by omega)
    refine w_return d15_33 ?_
    exact kk _ (by rw [e]; exact RSt.refl hR)
  · have c9 : ((rl h a).length : Int) < (cap h a : Int) := c9
    refine w_aload_n d15_12 rfl ?_
    refine w_dloadS d15_13 ha w1 ?_
    refine w_aload_n d15_16 rfl ?_
    refine w_getI d15_17 ha hl ?_
    refine w_iload_n d15_20 rfl ?_
    refine w_i2b d15_21 ?_
    refine w_bastore d15_22 ⟨Or.inl ⟨w2, i8_rng c⟩, by omega, c9⟩ ?_
    have s1 := rst_put hR ha (i8_rng c) (j := (((rl h a).length : Nat) : Int).toNat) (by omega)
    generalize hh1 : sAI h (rw0 h a) _ _ = h1 at s1
    have k1 : KD h1 a = 6 := by rw [← hh1]; exact ha
    have f1 : FI h1 641 a = ((rl h a).length : Int) := by rw [← hh1]; exact hl
    have r1 : ∀ x, rw0 h1 x = rw0 h x := fun x => by rw [← hh1]; rfl
    have hA : ∀ j, AI h1 (rw0 h1 a) j = if j = (rl h a).length then (i32 c).toInt8.toInt32.toInt else AI h (rw0 h a) j := fun j => by
      rw [r1, ← hh1, AI_sAI]
      by_cases hj : j = (rl h a).length
      · rw [if_pos ⟨rfl, by omega⟩, if_pos hj]
      · rw [if_neg (by omega), if_neg hj]
    refine w_aload_n d15_23 rfl ?_
    refine w_dupR d15_24 ?_
    refine w_getI d15_25 k1 f1 ?_
    refine w_iconst d15_28 (by decide) ?_
    refine w_iadd d15_29 (by have := hR.2.2.2.2 (rw0 h a); have : LN h (rw0 h a) = cap h a := rfl; constructor <;> omega) ?_
    refine w_putfield d15_30 ⟨k1, by decide⟩ ?_
    have s2 := rst_sz (v := ((rl h a).length : Int) + 1) s1.1.1 k1 (by rw [s1.2.2 a ha]; omega)
    refine w_return d15_33 ?_
    refine kk _ ?_
    have s3 := RSt.trans hR s1 s2
    have e : ((List.range (((rl h a).length : Int) + 1).toNat).map fun j => u8 (AI h1 (rw0 h1 a) j)) = addB (cap h a) (rl h a) (c % 256).toNat := by
      unfold addB
      rw [if_pos (by omega), show (((rl h a).length : Int) + 1).toNat = (rl h a).length + 1 by omega, List.range_succ, List.map_append, List.map_singleton, hA, if_pos rfl, u8_s]
      refine congrArg (· ++ _) (Eq.trans (List.map_congr_left fun j hj => ?_) (rl_eq hl).symm)
      rw [hA, if_neg (by have := List.mem_range.mp hj; omega)]
    rw [← e]
    exact s3
