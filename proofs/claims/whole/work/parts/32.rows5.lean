/-! rows: growth, copies -/
theorem sum_upd {f f' : Nat → Nat} {a : Nat} (hf : ∀ x, x ≠ a → f' x = f x) : ∀ N, a < N → ((List.range N).map f').sum + f a = ((List.range N).map f).sum + f' a
  | 0, h => by omega
  | N + 1, h => by
    rw [List.range_succ, List.map_append, List.map_append, List.sum_append, List.sum_append, List.map_singleton, List.map_singleton, List.sum_singleton, List.sum_singleton]
    by_cases hN : a = N
    · subst hN
      have : ((List.range a).map f') = ((List.range a).map f) := List.map_congr_left fun x hx => hf x (by have := List.mem_range.mp hx; omega)
      rw [this]
      omega
    · have := sum_upd hf N (by omega)
      rw [hf N (by omega)]
      omega
theorem potC_grow {c n : Nat} (h : 2 * c ≤ n) (h2 : c < n) (h3 : n ≤ 1216) : 1 + potC n ≤ potC c := by
  unfold potC
  rw [if_neg (by omega)]
  split
  · omega
  · rename_i hc
    have h5 : Nat.log2 c + 1 ≤ Nat.log2 n := by
      rw [Nat.le_log2 (by omega), Nat.pow_succ]
      have := Nat.log2_self_le (n := c) hc
      omega
    have h6 : Nat.log2 c < 10 := (Nat.log2_lt hc).mpr (by omega)
    omega
theorem potS_grow {c n : Nat} (h : 2 * c ≤ n) (h3 : n ≤ 1216) : n + potS n ≤ potS c := by unfold potS; omega
/-- a row takes a new array -/
theorem rw_grow {h : Hp} {a n : Nat} (hR : RowsOk h) (ha : KD h a = 6) (h1 : 2 * cap h a ≤ n) (h2 : cap h a < n) (h3 : n ≤ 1216) : Rw (fun x => x = a) h (sFR (nwA h 41 n) 640 a (some (NX h))) ∧ cap (sFR (nwA h 41 n) 640 a (some (NX h))) a = n ∧ rw0 (sFR (nwA h 41 n) 640 a (some (NX h))) a = NX h ∧ (∀ x, KD h x = 6 → x ≠ a → cap (sFR (nwA h 41 n) 640 a (some (NX h))) x = cap h x ∧ rw0 (sFR (nwA h 41 n) 640 a (some (NX h))) x = rw0 h x) := by
  obtain ⟨r1, r2, r3, r4, r5⟩ := hR
  generalize hh : sFR (nwA h 41 n) 640 a (some (NX h)) = h'
  have lt : ∀ x, KD h x ≠ 0 → x < NX h := fun x hx => by
    rcases Nat.lt_or_ge x (NX h) with q | q
    · exact q
    · exact absurd (r3 x q).1 hx
  have hal := lt a (by omega)
  have kd : ∀ x, KD h' x = if x = NX h then 41 else KD h x := fun x => by rw [← hh]; rfl
  have ln : ∀ x, LN h' x = if x = NX h then n else LN h x := fun x => by rw [← hh]; rfl
  have nx : NX h' = NX h + 1 := by rw [← hh]; rfl
  have sl' : SL h' = SL h + n := by rw [← hh]; rfl
  have fi : FI h' = FI h := by
    funext f x
    rw [← hh]
    show (if x = NX h then 0 else FI h f x) = _
    split
    · rename_i q; rw [q, ((r3 _ (Nat.le_refl _)).2.2.1 f).1]
    · rfl
  have fl : FL h' = FL h := by
    funext f x
    rw [← hh]
    show (if x = NX h then 0 else FL h f x) = _
    split
    · rename_i q; rw [q, ((r3 _ (Nat.le_refl _)).2.2.1 f).2.1]
    · rfl
  have fr : ∀ f x, FR h' f x = if f = 640 ∧ x = a then some (NX h) else FR h f x := fun f x => by
    rw [← hh]
    show (if f = 640 ∧ x = a then some (NX h) else (if x = NX h then none else FR h f x)) = _
    split
    · rfl
    · split
      · rename_i q; rw [q, ((r3 _ (Nat.le_refl _)).2.2.1 f).2.2]
      · rfl
  have ai : AI h' = AI h := by
    funext f x
    rw [← hh]
    show (if f = NX h then 0 else AI h f x) = _
    split
    · rename_i q; rw [q, ((r3 _ (Nat.le_refl _)).2.2.2 x).1]
    · rfl
  have al : AL h' = AL h := by
    funext f x
    rw [← hh]
    show (if f = NX h then 0 else AL h f x) = _
    split
    · rename_i q; rw [q, ((r3 _ (Nat.le_refl _)).2.2.2 x).2.1]
    · rfl
  have ar : AR h' = AR h := by
    funext f x
    rw [← hh]
    show (if f = NX h then none else AR h f x) = _
    split
    · rename_i q; rw [q, ((r3 _ (Nat.le_refl _)).2.2.2 x).2.2]
    · rfl
  have ra : rw0 h' a = NX h := by unfold rw0; rw [fr, if_pos ⟨rfl, rfl⟩]; rfl
  have ro : ∀ x, x ≠ a → rw0 h' x = rw0 h x := fun x hx => by unfold rw0; rw [fr, if_neg (fun q => hx q.2)]
  have rlt : ∀ x, KD h x = 6 → rw0 h x < NX h := fun x hx => lt _ (by rw [(r1 x hx).2.1]; decide)
  have ca : cap h' a = n := by unfold cap; rw [ra, ln, if_pos rfl]
  have co : ∀ x, KD h x = 6 → x ≠ a → cap h' x = cap h x := fun x hx hxa => by unfold cap; rw [ro x hxa, ln, if_neg (by have := rlt x hx; omega)]
  have k6 : ∀ x, KD h' x = 6 → KD h x = 6 ∧ x ≠ NX h := fun x hx => by
    rw [kd] at hx
    split at hx
    · cases hx
    · exact ⟨hx, by assumption⟩
  have ps : ∀ g : Nat → Nat, psum g h' + g (cap h a) = psum g h + g n := fun g => by
    unfold psum
    rw [nx, List.range_succ, List.map_append, List.sum_append, List.map_singleton, List.sum_singleton, if_neg (by rw [kd, if_pos rfl]; decide), Nat.add_zero]
    have e := sum_upd (f := fun x => if KD h x = 6 then g (cap h x) else 0) (f' := fun x => if x = a then g n else if KD h x = 6 then g (cap h x) else 0) (a := a) (fun x hx => if_neg hx) (NX h) hal
    rw [if_pos ha, if_pos rfl] at e
    rw [← e]
    refine congrArg (· + _) (congrArg List.sum (List.map_congr_left fun x hx => ?_))
    have hxl := List.mem_range.mp hx
    have kx : KD h' x = KD h x := by rw [kd, if_neg (by omega)]
    rw [kx]
    by_cases hxa : x = a
    · subst hxa
      rw [if_pos ha, if_pos rfl, ca]
    · rw [if_neg hxa]
      split
      · rename_i q; rw [co x q hxa]
      · rfl
  obtain ⟨w1, w2, w3, w4⟩ := r1 a ha
  refine ⟨⟨⟨fun x hx => ?_, fun x y hx hy e => ?_, fun x hx => ?_, fun b j hb => ?_, fun b => ?_⟩, ⟨by omega, by omega, fun x hx => ?_, fun x hx => (k6 x hx).1, fl, al, ar, fun f _ => by rw [fi], fun f hf => ?_, fun b hb hx => by rw [ai]⟩, fun x hx hxa => ?_, fun x hx => ?_, fun x hx => ?_, ?_, ?_⟩, ca, ra, fun x hx hxa => ⟨co x hx hxa, ro x hxa⟩⟩
  · obtain ⟨hx6, hxn⟩ := k6 x hx
    by_cases hxa : x = a
    · subst hxa
      exact ⟨by rw [ra, fr, if_pos ⟨rfl, rfl⟩], by rw [ra, kd, if_pos rfl], by rw [fi]; exact w3, by rw [fi, ca]; omega⟩
    · obtain ⟨a1, a2, a3, a4⟩ := r1 x hx6
      exact ⟨by rw [ro x hxa, fr, if_neg (fun q => hxa q.2)]; exact a1, by rw [ro x hxa, kd, if_neg (by have := rlt x hx6; omega)]; exact a2, by rw [fi]; exact a3, by rw [fi, co x hx6 hxa]; exact a4⟩
  · obtain ⟨hx6, hxn⟩ := k6 x hx
    obtain ⟨hy6, hyn⟩ := k6 y hy
    have := rlt x hx6
    have := rlt y hy6
    by_cases hxa : x = a
    · by_cases hya : y = a
      · rw [hxa, hya]
      · rw [hxa, ra, ro y hya] at e
        omega
    · by_cases hya : y = a
      · rw [hya, ra, ro x hxa] at e
        omega
      · rw [ro x hxa, ro y hya] at e
        exact r2 x y hx6 hy6 e
  · rw [nx] at hx
    obtain ⟨a1, a2, a3, a4⟩ := r3 x (by omega)
    refine ⟨by rw [kd, if_neg (by omega)]; exact a1, by rw [ln, if_neg (by omega)]; exact a2, fun f => ⟨by rw [fi]; exact (a3 f).1, by rw [fl]; exact (a3 f).2.1, ?_⟩, fun j => ⟨by rw [ai]; exact (a4 j).1, by rw [al]; exact (a4 j).2.1, by rw [ar]; exact (a4 j).2.2⟩⟩
    rw [fr, if_neg (by omega)]
    exact (a3 f).2.2
  · rw [ai]
    rw [kd] at hb
    split at hb
    · rename_i q
      rw [q, ((r3 _ (Nat.le_refl _)).2.2.2 j).1]
      decide
    · exact r4 b j hb
  · rw [ln]
    split
    · omega
    · exact r5 b
  · have := lt x hx
    exact ⟨by rw [kd, if_neg (by omega)], by rw [ln, if_neg (by omega)]⟩
  · funext x
    rw [fr, if_neg (fun q => hf q.1)]
  · unfold rl
    rw [fi, ai, ro x hxa]
  · by_cases hxa : x = a
    · rw [hxa, ra]; exact Or.inr (Nat.le_refl _)
    · exact Or.inl (ro x hxa)
  · by_cases hxa : x = a
    · subst hxa
      exact ⟨by omega, fun q => absurd rfl q⟩
    · exact ⟨by rw [co x hx hxa]; exact Nat.le_refl _, fun _ => co x hx hxa⟩
  · have := ps potC
    have := potC_grow h1 h2 h3
    omega
  · have := ps potS
    have := potS_grow h1 h3
    omega
/-- bytes are copied into a row's array -/
theorem rst_cpy {h : Hp} {a s sp tp n : Nat} (hR : RowsOk h) (ha : KD h a = 6) (hs : KD h s = 41) : RSt h (cpI h s sp (rw0 h a) tp n) a ((List.range (FI h 641 a).toNat).map fun j => if tp ≤ j ∧ j < tp + n then u8 (AI h s (sp + (j - tp))) else u8 (AI h (rw0 h a) j)) := by
  obtain ⟨h1, h2, h3, h4, h5⟩ := hR
  obtain ⟨e1, e2, e3, e4⟩ := h1 a ha
  have ai : ∀ b j, AI (cpI h s sp (rw0 h a) tp n) b j = if b = rw0 h a ∧ tp ≤ j ∧ j < tp + n then AI h s (sp + (j - tp)) else AI h b j := fun _ _ => rfl
  refine RSt.of ⟨h1, h2, fun x hx => ?_, fun b i hb => ?_, h5⟩ ⟨Nat.le_refl _, Nat.le_refl _, fun x _ => ⟨rfl, rfl⟩, fun x hx => hx, rfl, rfl, rfl, fun f hf => rfl, fun f hf => rfl, fun b _ hb => ?_⟩ (fun x hx hxa => ?_) (fun x hx => rfl) rfl rfl (fun x => rfl) rfl ?_
  · obtain ⟨a1, a2, a3, a4⟩ := h3 x hx
    refine ⟨a1, a2, a3, fun i => ⟨?_, (a4 i).2⟩⟩
    rw [ai, if_neg]
    · exact (a4 i).1
    · rintro ⟨rfl, -⟩
      rw [e2] at a1
      cases a1
  · rw [ai]
    split
    · exact h4 _ _ hs
    · exact h4 b i hb
  · funext i
    rw [ai, if_neg]
    rintro ⟨q, -⟩
    exact hb a ha q.symm
  · unfold rl
    have : rw0 h x ≠ rw0 h a := fun q => hxa (h2 x a hx ha q)
    refine List.map_congr_left fun i _ => ?_
    show u8 (AI (cpI h s sp (rw0 h a) tp n) (rw0 h x) i) = _
    rw [ai, if_neg (fun q => this q.1)]
  · unfold rl
    refine List.map_congr_left fun i _ => ?_
    show u8 (AI (cpI h s sp (rw0 h a) tp n) (rw0 h a) i) = _
    rw [ai]
    by_cases hi : tp ≤ i ∧ i < tp + n
    · rw [if_pos ⟨rfl, hi⟩, if_pos hi]
    · rw [if_neg (fun q => hi q.2), if_neg hi]
theorem sl_map {l : List Nat} {f n : Nat} (hl : f + n ≤ l.length) : sl l f (f + n) = (List.range n).map fun j => l.getD (f + j) 0 := by
  unfold sl
  rw [show f + n - f = n by omega]
  refine List.ext_getElem ?_ fun i h1 h2 => ?_
  · rw [List.length_take, List.length_drop, List.length_map, List.length_range]
    omega
  · have : f + i < l.length := by simp at h2; omega
    simp [List.getD_eq_getElem?_getD, List.getElem?_eq_getElem this]
theorem d17_73 : dc 17 73 = some (.aload_n 0, 74) := by decide +kernel
theorem d17_74 : dc 17 74 = some (.iload 5, 76) := by decide +kernel
theorem d17_76 : dc 17 76 = some (.putfield 641, 79) := by decide +kernel
theorem d17_79 : dc 17 79 = some (.return_, 80) := by decide +kernel
theorem d17_52 : dc 17 52 = some (.iload 5, 54) := by decide +kernel
theorem d17_54 : dc 17 54 = some (.ifCond .le ((73 : Nat) : Int), 57) := by decide +kernel
theorem d17_57 : dc 17 57 = some (.aload_n 1, 58) := by decide +kernel
theorem d17_58 : dc 17 58 = some (.dload 640, 61) := by decide +kernel
theorem d17_61 : dc 17 61 = some (.iload 4, 63) := by decide +kernel
theorem d17_63 : dc 17 63 = some (.aload_n 0, 64) := by decide +kernel
theorem d17_64 : dc 17 64 = some (.dload 640, 67) := by decide +kernel
theorem d17_67 : dc 17 67 = some (.iconst 0, 68) := by decide +kernel
theorem d17_68 : dc 17 68 = some (.iload 5, 70) := by decide +kernel
theorem d17_70 : dc 17 70 = some (.invokestatic 0, 73) := by decide +kernel
theorem d17_0 : dc 17 0 = some (.iload_n 2, 1) := by decide +kernel
theorem d17_1 : dc 17 1 = some (.iconst 0, 2) := by decide +kernel
theorem d17_2 : dc 17 2 = some (.invokestatic 3, 5) := by decide +kernel
theorem d17_5 : dc 17 5 = some (.istore 4, 7) := by decide +kernel
theorem d17_7 : dc 17 7 = some (.iload_n 3, 8) := by decide +kernel
theorem d17_8 : dc 17 8 = some (.aload_n 1, 9) := by decide +kernel
theorem d17_9 : dc 17 9 = some (.getfield 641, 12) := by decide +kernel
theorem d17_12 : dc 17 12 = some (.invokestatic 4, 15) := by decide +kernel
theorem d17_15 : dc 17 15 = some (.iload 4, 17) := by decide +kernel
theorem d17_17 : dc 17 17 = some (.isub, 18) := by decide +kernel
theorem d17_18 : dc 17 18 = some (.iconst 0, 19) := by decide +kernel
theorem d17_19 : dc 17 19 = some (.invokestatic 3, 22) := by decide +kernel
theorem d17_22 : dc 17 22 = some (.istore 5, 24) := by decide +kernel
theorem d17_24 : dc 17 24 = some (.aload_n 0, 25) := by decide +kernel
theorem d17_25 : dc 17 25 = some (.dload 640, 28) := by decide +kernel
theorem d17_28 : dc 17 28 = some (.arraylength, 29) := by decide +kernel
theorem d17_29 : dc 17 29 = some (.iload 5, 31) := by decide +kernel
theorem d17_31 : dc 17 31 = some (.if_icmp .ge ((52 : Nat) : Int), 34) := by decide +kernel
theorem d17_34 : dc 17 34 = some (.aload_n 0, 35) := by decide +kernel
theorem d17_35 : dc 17 35 = some (.iload 5, 37) := by decide +kernel
theorem d17_37 : dc 17 37 = some (.iconst 2, 38) := by decide +kernel
theorem d17_38 : dc 17 38 = some (.aload_n 0, 39) := by decide +kernel
theorem d17_39 : dc 17 39 = some (.dload 640, 42) := by decide +kernel
theorem d17_42 : dc 17 42 = some (.arraylength, 43) := by decide +kernel
theorem d17_43 : dc 17 43 = some (.imul, 44) := by decide +kernel
theorem d17_44 : dc 17 44 = some (.invokestatic 3, 47) := by decide +kernel
theorem d17_47 : dc 17 47 = some (.newarray .byte, 49) := by decide +kernel
theorem d17_49 : dc 17 49 = some (.dstore 640, 52) := by decide +kernel
theorem c_Row_set {G : Nat → Option Nat} {d : Nat} {h : Hp} {Q : Option MV → Hp → Prop} {a b : Nat} {f e : Int} (hR : RowsOk h) (h1 : 1 ≤ d) (ha : KD h a = 6) (hb : KD h b = 6) (hab : b ≠ a) (hfe : InR f ∧ InR e ∧ f ≤ 1000000000 ∧ -1000000000 ≤ e) (hg : (min e ((rl h b).length : Int)).toNat - f.toNat ≤ cap h a ∨ (min e ((rl h b).length : Int)).toNat - f.toNat ≤ 608)
    (kk : ∀ h', Rw (fun x => x = a) h h' → rl h' a = sl (rl h b) f.toNat (min e ((rl h b).length : Int)).toNat → ((min e ((rl h b).length : Int)).toNat - f.toNat ≤ cap h a → ∀ x, KD h x = 6 → cap h' x = cap h x) → Q none h') : Cl G d 17 [vR (some a), vR (some b), vI f, vI e] h Q := by
  show Wp G d 17 0 [some (vR (some a)), some (vR (some b)), some (vI f), some (vI e), none, none] [] h Q
  have hl := rl_len (hR.1 a ha)
  obtain ⟨w1, w2, w3, w4⟩ := hR.1 a ha
  have hcp := hR.2.2.2.2 (rw0 h a)
  have hcq : LN h (rw0 h a) = cap h a := rfl
  have hlb := rl_len (hR.1 b hb)
  have hcv := hR.2.2.2.2 (rw0 h b)
  have hcw : LN h (rw0 h b) = cap h b := rfl
  have hlc := rl_cap (hR.1 b hb)
  have hal : a < NX h := by
    rcases Nat.lt_or_ge a (NX h) with q | q
    · exact q
    · have := (hR.2.2.1 a q).1; omega
  generalize hF : f.toNat = F at kk hg
  generalize hE : (min e ((rl h b).length : Int)).toNat = E at kk hg
  generalize hC : E - F = C at kk hg
  have e4 : (if f < 0 then 0 else f) = ((F : Nat) : Int) := by split <;> omega
  have e5 : (if (if ((rl h b).length : Int) < e then ((rl h b).length : Int) else e) - ((F : Nat) : Int) < 0 then 0 else (if ((rl h b).length : Int) < e then ((rl h b).length : Int) else e) - ((F : Nat) : Int)) = ((C : Nat) : Int) := by split <;> split <;> omega
  have hsl : sl (rl h b) F E = (List.range C).map fun j => (rl h b).getD (F + j) 0 := by
    by_cases q : F ≤ E
    · rw [show E = F + C by omega, sl_map (by omega)]
    · unfold sl
      rw [show E - F = 0 by omega, show C = 0 by omega]
      simp
  have J2 : ∀ h2, Rw (fun x => x = a) h h2 → C ≤ cap h2 a → (C ≤ cap h a → ∀ x, KD h x = 6 → cap h2 x = cap h x) → (∀ j, j < C → u8 (AI h2 (rw0 h2 a) j) = (rl h b).getD (F + j) 0) → Wp G d 17 73 [some (vR (some a)), some (vR (some b)), some (vI f), some (vI e), some (vI (F : Nat)), some (vI (C : Nat))] [] h2 Q := by
    intro h2 r2 hc2 hcc hj2
    have k2 := r2.kd ha (by decide)
    refine w_aload_n d17_73 rfl ?_
    refine w_iload d17_74 rfl ?_
    refine w_putfield d17_76 ⟨by rw [k2]; rfl, by decide⟩ ?_
    have s3 := rst_sz (v := ((C : Nat) : Int)) r2.1 k2 (by omega)
    refine w_return d17_79 ?_
    refine kk _ (r2.trans hR s3.1) ?_ (fun q x hx => (s3.2.2 x (r2.kd hx (by decide))).trans (hcc q x hx))
    rw [s3.2.1, hsl]
    exact List.map_congr_left fun j hj => hj2 j (List.mem_range.mp hj)
  have J : ∀ h1, Rw (fun x => x = a) h h1 → C ≤ cap h1 a → (C ≤ cap h a → ∀ x, KD h x = 6 → cap h1 x = cap h x) → Wp G d 17 52 [some (vR (some a)), some (vR (some b)), some (vI f), some (vI e), some (vI (F : Nat)), some (vI (C : Nat))] [] h1 Q := by
    intro h1 r1 hc1 hcc
    have k1 := r1.kd ha (by decide)
    have kb := r1.kd hb (by decide)
    obtain ⟨u1, u2, u3, u4⟩ := r1.1.1 a k1
    obtain ⟨v1, v2, v3, v4⟩ := r1.1.1 b kb
    have lb := rl_len (r1.1.1 b kb)
    have rb : rl h1 b = rl h b := r1.2.2.1 b hb hab
    rw [rb] at lb
    have hst : rw0 h1 b ≠ rw0 h1 a := fun q => hab (r1.1.2.1 b a kb k1 q)
    refine w_iload d17_52 rfl ?_
    refine w_ifle d17_54 (fun c54 => ?_) (fun c54 => ?_)
    · exact J2 h1 r1 hc1 hcc (fun j hj => by omega)
    · refine w_aload_n d17_57 rfl ?_
      refine w_dloadS d17_58 kb v1 ?_
      refine w_iload d17_61 rfl ?_
      refine w_aload_n d17_63 rfl ?_
      refine w_dloadS d17_64 k1 u1 ?_
      refine w_iconst d17_67 (by decide) ?_
      refine w_iload d17_68 rfl ?_
      refine w_arraycopy d17_70 ⟨⟨⟨hst, by rw [v2, u2], Or.inr (Or.inl u2)⟩, by simp, by omega⟩, by omega, by omega, by omega, by have : LN h1 (rw0 h1 b) = cap h1 b := rfl; omega, by have : LN h1 (rw0 h1 a) = cap h1 a := rfl; omega⟩ ?_
      rw [if_neg (by rw [u2]; decide)]
      have s2 := rst_cpy (s := rw0 h1 b) (sp := F) (tp := 0) (n := C) r1.1 k1 v2
      refine J2 _ (r1.trans hR s2.1) (Nat.le_trans hc1 (Nat.le_of_eq (s2.2.2 a k1).symm)) (fun q x hx => (s2.2.2 x (r1.kd hx (by decide))).trans (hcc q x hx)) (fun j hj => ?_)
      show u8 (if rw0 h1 a = rw0 h1 a ∧ 0 ≤ j ∧ j < 0 + C then AI h1 (rw0 h1 b) (F + (j - 0)) else AI h1 (rw0 h1 a) j) = _
      rw [if_pos ⟨rfl, Nat.zero_le _, by omega⟩, Nat.sub_zero, ← rb]
      exact (rl_at (by rw [rb]; omega)).symm
  refine w_iload_n d17_0 rfl ?_
  refine w_iconst d17_1 (by decide) ?_
  refine w_max d17_2 (by refine ⟨by simp, ?_⟩; omega) ?_
  rw [e4]
  refine w_istore4 d17_5 rfl ?_
  refine w_iload_n d17_7 rfl ?_
  refine w_aload_n d17_8 rfl ?_
  refine w_getI d17_9 hb hlb ?_
  refine w_min d17_12 (by refine ⟨by simp, ?_⟩; omega) ?_
  refine w_iload d17_15 rfl ?_
  refine w_isub d17_17 (by constructor <;> split <;> omega) ?_
  refine w_iconst d17_18 (by decide) ?_
  refine w_max d17_19 (by refine ⟨by simp, ?_⟩; omega) ?_
  rw [e5]
  refine w_istore5 d17_22 rfl ?_
  refine w_aload_n d17_24 rfl ?_
  refine w_dloadS d17_25 ha w1 ?_
  refine w_arraylength d17_28 (by rw [w2]; rfl) ?_
  refine w_iload d17_29 rfl ?_
  refine w_icmpge d17_31 (fun c31 => ?_) (fun c31 => ?_)
  · have c31 : (cap h a : Int) ≥ (C : Nat) := c31
    exact J h (Rw.refl hR) (by omega) (fun _ _ _ => rfl)
  · have c31 : (cap h a : Int) < (C : Nat) := c31
    have h608 : C ≤ 608 := by omega
    refine w_aload_n d17_34 rfl ?_
    refine w_iload d17_35 rfl ?_
    refine w_iconst d17_37 (by decide) ?_
    refine w_aload_n d17_38 rfl ?_
    refine w_dloadS d17_39 ha w1 ?_
    refine w_arraylength d17_42 (by rw [w2]; rfl) ?_
    refine w_imul d17_43 (by have : LN h (rw0 h a) = cap h a := rfl; constructor <;> omega) ?_
    refine w_max d17_44 (by refine ⟨by simp, ?_⟩; omega) ?_
    refine w_newarray d17_47 ⟨by have : LN h (rw0 h a) = cap h a := rfl; constructor <;> split <;> omega, by decide⟩ ?_
    refine w_dstore d17_49 ⟨by show (if a = NX h then _ else KD h a) = _; rw [if_neg (by omega)]; exact ha, by decide⟩ ?_
    have en : (if ((C : Nat) : Int) < 2 * ((LN h (rw0 h a) : Nat) : Int) then 2 * ((LN h (rw0 h a) : Nat) : Int) else ((C : Nat) : Int)).toNat = max C (2 * cap h a) := by
      have : LN h (rw0 h a) = cap h a := rfl
      rw [this]
      split <;> omega
    rw [en]
    obtain ⟨g1, g2, g3, g4⟩ := rw_grow (n := max C (2 * cap h a)) hR ha (by omega) (by omega) (by omega)
    exact J _ g1 (Nat.le_trans (Nat.le_max_left _ _) (Nat.le_of_eq g2.symm)) (fun q => absurd c31 (by omega))
