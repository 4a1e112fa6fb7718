/-! rows of bytes -/
/-- nothing lies behind the next address -/
def Cln (h : Hp) : Prop := ∀ x, NX h ≤ x → KD h x = 0 ∧ LN h x = 0 ∧ (∀ f, FI h f x = 0 ∧ FL h f x = 0 ∧ FR h f x = none) ∧ ∀ j, AI h x j = 0 ∧ AL h x j = 0 ∧ AR h x j = none
def u8 (x : Int) : Nat := (x % 256).toNat
def rw0 (h : Hp) (a : Nat) : Nat := (FR h 640 a).getD 0
/-- a row's bytes -/
def rl (h : Hp) (a : Nat) : List Nat := (List.range (FI h 641 a).toNat).map fun j => u8 (AI h (rw0 h a) j)
def cap (h : Hp) (a : Nat) : Nat := LN h (rw0 h a)
def RowW (h : Hp) (a : Nat) : Prop := FR h 640 a = some (rw0 h a) ∧ KD h (rw0 h a) = 41 ∧ 0 ≤ FI h 641 a ∧ FI h 641 a ≤ (cap h a : Int)
def RowsOk (h : Hp) : Prop := (∀ a, KD h a = 6 → RowW h a) ∧ (∀ a a', KD h a = 6 → KD h a' = 6 → rw0 h a = rw0 h a' → a = a') ∧ Cln h ∧ (∀ b j, KD h b = 41 → -128 ≤ AI h b j ∧ AI h b j < 128) ∧ ∀ b, LN h b ≤ 60000000
/-- all but rows is as it was -/
def Rst (h h' : Hp) : Prop := NX h ≤ NX h' ∧ SL h ≤ SL h' ∧ (∀ x, KD h x ≠ 0 → KD h' x = KD h x ∧ LN h' x = LN h x) ∧ (∀ x, KD h' x = 6 → KD h x = 6) ∧ FL h' = FL h ∧ AL h' = AL h ∧ AR h' = AR h ∧ (∀ f, f ≠ 641 → FI h' f = FI h f) ∧ (∀ f, f ≠ 640 → FR h' f = FR h f) ∧ ∀ b, KD h b ≠ 0 → (∀ a, KD h a = 6 → rw0 h a ≠ b) → AI h' b = AI h b
/-- row a has come to hold l, all else is as it was, nothing is made -/
def RSt (h h' : Hp) (a : Nat) (l : List Nat) : Prop := RowsOk h' ∧ Rst h h' ∧ (∀ x, KD h x = 6 → x ≠ a → rl h' x = rl h x) ∧ (∀ x, KD h x = 6 → cap h' x = cap h x) ∧ NX h' = NX h ∧ SL h' = SL h ∧ rl h' a = l
def atv (l : List Nat) (i : Int) : Int := if 0 ≤ i ∧ i < (l.length : Int) then (l.getD i.toNat 0 : Nat) else -1
theorem rl_len {h : Hp} {a : Nat} (hw : RowW h a) : FI h 641 a = ((rl h a).length : Int) := by
  unfold rl
  rw [List.length_map, List.length_range]
  have := hw.2.2.1
  omega
theorem rl_cap {h : Hp} {a : Nat} (hw : RowW h a) : (rl h a).length ≤ cap h a := by
  have := rl_len hw
  have := hw.2.2.2
  omega
theorem rl_at {h : Hp} {a j : Nat} (hj : j < (rl h a).length) : (rl h a).getD j 0 = u8 (AI h (rw0 h a) j) := by
  rw [List.getD_eq_getElem?_getD, List.getElem?_eq_getElem hj]
  simp [rl]
theorem u8_and {x : Int} (h : -128 ≤ x ∧ x < 128) : (i32 x &&& i32 255).toInt = (u8 x : Int) := by
  have key : ∀ n : Fin 256, (i32 ((n.val : Int) - 128) &&& i32 255).toInt = (u8 ((n.val : Int) - 128) : Int) := by decide +kernel
  have := key ⟨(x + 128).toNat, by omega⟩
  have e : (((x + 128).toNat : Nat) : Int) - 128 = x := by omega
  rw [e] at this
  exact this
theorem qI {Q : Option MV → Hp → Prop} {h : Hp} {x y : Int} (e : x = y) (k : Q (some (vI y)) h) : Q (some (vI x)) h := e ▸ k
theorem u8_lt (x : Int) : u8 x < 256 := by unfold u8; omega
theorem d13_0 : dc 13 0 = some (.aload_n 0, 1) := by decide +kernel
theorem d13_1 : dc 13 1 = some (.getfield 641, 4) := by decide +kernel
theorem d13_4 : dc 13 4 = some (.ireturn, 5) := by decide +kernel
theorem c_Row_size {G : Nat → Option Nat} {d : Nat} {h : Hp} {Q : Option MV → Hp → Prop} {a : Nat} (hR : RowsOk h) (ha : KD h a = 6) (kk : Q (some (vI ((rl h a).length : Int))) h) : Cl G d 13 [vR (some a)] h Q := by
  show Wp G d 13 0 [some (vR (some a))] [] h Q
  have hw := hR.1 a ha
  have hl := rl_len hw
  obtain ⟨w1, w2, w3, w4⟩ := hw
  refine w_aload_n d13_0 rfl ?_
  refine w_getI d13_1 ha hl ?_
  refine w_ireturn d13_4 ?_
  exact kk
theorem d23_0 : dc 23 0 = some (.iload_n 1, 1) := by decide +kernel
theorem d23_1 : dc 23 1 = some (.ifCond .lt ((25 : Nat) : Int), 4) := by decide +kernel
theorem d23_4 : dc 23 4 = some (.iload_n 1, 5) := by decide +kernel
theorem d23_5 : dc 23 5 = some (.aload_n 0, 6) := by decide +kernel
theorem d23_6 : dc 23 6 = some (.getfield 641, 9) := by decide +kernel
theorem d23_9 : dc 23 9 = some (.if_icmp .ge ((25 : Nat) : Int), 12) := by decide +kernel
theorem d23_12 : dc 23 12 = some (.aload_n 0, 13) := by decide +kernel
theorem d23_13 : dc 23 13 = some (.dload 640, 16) := by decide +kernel
theorem d23_16 : dc 23 16 = some (.iload_n 1, 17) := by decide +kernel
theorem d23_17 : dc 23 17 = some (.baload, 18) := by decide +kernel
theorem d23_18 : dc 23 18 = some (.sipush 255, 21) := by decide +kernel
theorem d23_21 : dc 23 21 = some (.iand, 22) := by decide +kernel
theorem d23_22 : dc 23 22 = some (.goto ((26 : Nat) : Int), 25) := by decide +kernel
theorem d23_25 : dc 23 25 = some (.iconst (-1), 26) := by decide +kernel
theorem d23_26 : dc 23 26 = some (.ireturn, 27) := by decide +kernel
theorem c_Row_at {G : Nat → Option Nat} {d : Nat} {h : Hp} {Q : Option MV → Hp → Prop} {a : Nat} {i : Int} (hR : RowsOk h) (ha : KD h a = 6) (kk : Q (some (vI (atv (rl h a) i))) h) : Cl G d 23 [vR (some a), vI i] h Q := by
  show Wp G d 23 0 [some (vR (some a)), some (vI i)] [] h Q
  have hw := hR.1 a ha
  have hl := rl_len hw
  obtain ⟨w1, w2, w3, w4⟩ := hw
  refine w_iload_n d23_0 rfl ?_
  refine w_iflt d23_1 (fun c1 => ?_) (fun c1 => ?_)
  · refine w_iconst d23_25 (by decide) ?_
    refine w_ireturn d23_26 ?_
    exact qI (by first | (unfold atv; rw [if_neg (by omega)]; done) | (unfold atv; rw [if_pos (by omega), rl_at (by omega)]; exact u8_and (hR.2.2.2.1 _ _ w2))) kk
  · refine w_iload_n d23_4 rfl ?_
    refine w_aload_n d23_5 rfl ?_
    refine w_getI d23_6 ha hl ?_
    refine w_icmpge d23_9 (fun c9 => ?_) (fun c9 => ?_)
    · refine w_iconst d23_25 (by decide) ?_
      refine w_ireturn d23_26 ?_
      exact qI (by first | (unfold atv; rw [if_neg (by omega)]; done) | (unfold atv; rw [if_pos (by omega), rl_at (by omega)]; exact u8_and (hR.2.2.2.1 _ _ w2))) kk
    · refine w_aload_n d23_12 rfl ?_
      refine w_dloadS d23_13 ha w1 ?_
      refine w_iload_n d23_16 rfl ?_
      refine w_baload d23_17 ⟨by rw [w2]; rfl, by omega, by show i < (cap h a : Int); omega⟩ ?_
      refine w_sipush d23_18 (by decide) ?_
      refine w_iand d23_21 ?_
      refine w_goto d23_22 ?_
      refine w_ireturn d23_26 ?_
      exact qI (by first | (unfold atv; rw [if_neg (by omega)]; done) | (unfold atv; rw [if_pos (by omega), rl_at (by omega)]; exact u8_and (hR.2.2.2.1 _ _ w2))) kk
theorem u8_s (c : Int) : u8 (i32 c).toInt8.toInt32.toInt = (c % 256).toNat := by
  sorry
theorem rst_sz {h : Hp} {a : Nat} {v : Int} (hR : RowsOk h) (ha : KD h a = 6) (hv : 0 ≤ v ∧ v ≤ (cap h a : Int)) : RSt h (sFI h 641 a v) a ((List.range v.toNat).map fun j => u8 (AI h (rw0 h a) j)) := by
  obtain ⟨h1, h2, h3, h4, h5⟩ := hR
  have hk : KD (sFI h 641 a v) = KD h := rfl
  have hr : ∀ x, rw0 (sFI h 641 a v) x = rw0 h x := fun _ => rfl
  refine ⟨⟨fun x hx => ?_, h2, fun x hx => ?_, h4, h5⟩, ⟨Nat.le_refl _, Nat.le_refl _, fun x _ => ⟨rfl, rfl⟩, fun x hx => hx, rfl, rfl, rfl, fun f hf => ?_, fun f hf => rfl, fun b _ _ => rfl⟩, fun x hx hxa => ?_, fun x hx => rfl, rfl, rfl, ?_⟩
  · obtain ⟨a1, a2, a3, a4⟩ := h1 x hx
    refine ⟨a1, a2, ?_⟩
    rw [FI_sFI]
    split
    · rename_i q
      rw [q.2]
      exact hv
    · exact ⟨a3, a4⟩
  · obtain ⟨a1, a2, a3, a4⟩ := h3 x hx
    refine ⟨a1, a2, fun f => ⟨?_, (a3 f).2⟩, a4⟩
    rw [FI_sFI, if_neg]
    · exact (a3 f).1
    · rintro ⟨-, rfl⟩
      rw [ha] at a1
      cases a1
  · funext x
    rw [FI_sFI, if_neg (fun q => hf q.1)]
  · unfold rl
    rw [FI_sFI, if_neg (fun q => hxa q.2)]
    rfl
  · unfold rl
    rw [FI_sFI, if_pos ⟨rfl, rfl⟩]
    rfl
theorem rst_put {h : Hp} {a j : Nat} {v : Int} (hR : RowsOk h) (ha : KD h a = 6) (hv : -128 ≤ v ∧ v < 128) (hj : (j : Int) < cap h a) : RSt h (sAI h (rw0 h a) j v) a ((List.range (FI h 641 a).toNat).map fun i => if i = j then u8 v else u8 (AI h (rw0 h a) i)) := by
  obtain ⟨h1, h2, h3, h4, h5⟩ := hR
  obtain ⟨e1, e2, e3, e4⟩ := h1 a ha
  refine ⟨⟨h1, h2, fun x hx => ?_, fun b i hb => ?_, h5⟩, ⟨Nat.le_refl _, Nat.le_refl _, fun x _ => ⟨rfl, rfl⟩, fun x hx => hx, rfl, rfl, rfl, fun f hf => rfl, fun f hf => rfl, fun b _ hb => ?_⟩, fun x hx hxa => ?_, fun x hx => rfl, rfl, rfl, ?_⟩
  · obtain ⟨a1, a2, a3, a4⟩ := h3 x hx
    refine ⟨a1, a2, a3, fun i => ⟨?_, (a4 i).2⟩⟩
    rw [AI_sAI, if_neg]
    · exact (a4 i).1
    · rintro ⟨rfl, -⟩
      rw [e2] at a1
      cases a1
  · rw [AI_sAI]
    split
    · exact hv
    · exact h4 b i hb
  · funext i
    rw [AI_sAI, if_neg]
    rintro ⟨q, -⟩
    exact hb a ha q.symm
  · unfold rl
    have : rw0 h x ≠ rw0 h a := fun q => hxa (h2 x a hx ha q)
    refine List.map_congr_left fun i _ => ?_
    show u8 (AI (sAI h (rw0 h a) j v) (rw0 h x) i) = _
    rw [AI_sAI, if_neg (fun q => this q.1)]
  · unfold rl
    refine List.map_congr_left fun i _ => ?_
    show u8 (AI (sAI h (rw0 h a) j v) (rw0 h a) i) = _
    rw [AI_sAI]
    by_cases hi : i = j
    · rw [if_pos ⟨rfl, hi⟩, if_pos hi]
    · rw [if_neg (fun q => hi q.2), if_neg hi]
theorem Rst.refl (h : Hp) : Rst h h := ⟨Nat.le_refl _, Nat.le_refl _, fun x _ => ⟨rfl, rfl⟩, fun x hx => hx, rfl, rfl, rfl, fun f hf => rfl, fun f hf => rfl, fun b _ _ => rfl⟩
theorem d18_0 : dc 18 0 = some (.aload_n 0, 1) := by decide +kernel
theorem d18_1 : dc 18 1 = some (.iconst 0, 2) := by decide +kernel
theorem d18_2 : dc 18 2 = some (.putfield 641, 5) := by decide +kernel
theorem d18_5 : dc 18 5 = some (.return_, 6) := by decide +kernel
theorem c_Row_clear {G : Nat → Option Nat} {d : Nat} {h : Hp} {Q : Option MV → Hp → Prop} {a : Nat} (hR : RowsOk h) (ha : KD h a = 6) (kk : ∀ h', RSt h h' a [] → Q none h') : Cl G d 18 [vR (some a)] h Q := by
  show Wp G d 18 0 [some (vR (some a))] [] h Q
  have hw := hR.1 a ha
  have hl := rl_len hw
  obtain ⟨w1, w2, w3, w4⟩ := hw
  refine w_aload_n d18_0 rfl ?_
  refine w_iconst d18_1 (by decide) ?_
  refine w_putfield d18_2 ⟨by rw [ha]; rfl, by decide⟩ ?_
  refine w_return d18_5 ?_
  exact kk _ (rst_sz hR ha (by omega))
