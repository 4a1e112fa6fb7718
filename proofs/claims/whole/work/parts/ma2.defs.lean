/-! the reference: signs compared, definitions -/
theorem b2i_dec {p : Prop} [Decidable p] (h : p) : b2i (decide p) = 1 := by rw [decide_eq_true h]; rfl
theorem b2i_decN {p : Prop} [Decidable p] (h : ¬ p) : b2i (decide p) = 0 := by rw [decide_eq_false h]; rfl
theorem d206_0 : dc 206 0 = some (.iload_n 0, 1) := by decide +kernel
theorem d206_1 : dc 206 1 = some (.iload_n 1, 2) := by decide +kernel
theorem d206_2 : dc 206 2 = some (.if_icmp .lt ((14 : Nat) : Int), 5) := by decide +kernel
theorem d206_5 : dc 206 5 = some (.iload_n 0, 6) := by decide +kernel
theorem d206_6 : dc 206 6 = some (.iload_n 2, 7) := by decide +kernel
theorem d206_7 : dc 206 7 = some (.if_icmp .gt ((14 : Nat) : Int), 10) := by decide +kernel
theorem d206_10 : dc 206 10 = some (.iconst 1, 11) := by decide +kernel
theorem d206_11 : dc 206 11 = some (.goto ((15 : Nat) : Int), 14) := by decide +kernel
theorem d206_14 : dc 206 14 = some (.iconst 0, 15) := by decide +kernel
theorem d206_15 : dc 206 15 = some (.freturn, 16) := by decide +kernel
theorem k_M_in {G : Nat → Option Nat} {d : Nat} {h : Hp} {Q : Option MV → Hp → Prop} {v a b : Int} (h1 : 0 ≤ d) (kk : Q (some (vI (b2i (decide (a ≤ v ∧ v ≤ b))))) h) : Cl G d 206 [vI v, vI a, vI b] h Q := by
  show Wp G d 206 0 [some (vI v), some (vI a), some (vI b)] [] h Q
  refine w_iload_n d206_0 rfl ?_
  refine w_iload_n d206_1 rfl ?_
  refine w_icmplt d206_2 (fun c2 => ?_) (fun c2 => ?_)
  · have e : b2i (decide (a ≤ v ∧ v ≤ b)) = 0 := b2i_decN (by omega)
    rw [e] at kk
    refine w_iconst d206_14 (by decide) ?_
    refine w_zreturn d206_15 (by decide) ?_
    exact kk
  · refine w_iload_n d206_5 rfl ?_
    refine w_iload_n d206_6 rfl ?_
    refine w_icmpgt d206_7 (fun c7 => ?_) (fun c7 => ?_)
    · have e : b2i (decide (a ≤ v ∧ v ≤ b)) = 0 := b2i_decN (by omega)
      rw [e] at kk
      refine w_iconst d206_14 (by decide) ?_
      refine w_zreturn d206_15 (by decide) ?_
      exact kk
    · have e : b2i (decide (a ≤ v ∧ v ≤ b)) = 1 := b2i_dec (by omega)
      rw [e] at kk
      refine w_iconst d206_10 (by decide) ?_
      refine w_goto d206_11 ?_
      refine w_zreturn d206_15 (by decide) ?_
      exact kk
def isNs (c : Int) : Bool := decide (97 ≤ c ∧ c ≤ 122) || decide (48 ≤ c ∧ c ≤ 57) || decide (c = 95)
theorem d210_0 : dc 210 0 = some (.iload_n 0, 1) := by decide +kernel
theorem d210_1 : dc 210 1 = some (.bipush 97, 3) := by decide +kernel
theorem d210_3 : dc 210 3 = some (.bipush 122, 5) := by decide +kernel
theorem d210_5 : dc 210 5 = some (.invokevirtual 206, 8) := by decide +kernel
theorem d210_8 : dc 210 8 = some (.ifCond .ne ((28 : Nat) : Int), 11) := by decide +kernel
theorem d210_11 : dc 210 11 = some (.iload_n 0, 12) := by decide +kernel
theorem d210_12 : dc 210 12 = some (.bipush 48, 14) := by decide +kernel
theorem d210_14 : dc 210 14 = some (.bipush 57, 16) := by decide +kernel
theorem d210_16 : dc 210 16 = some (.invokevirtual 206, 19) := by decide +kernel
theorem d210_19 : dc 210 19 = some (.ifCond .ne ((28 : Nat) : Int), 22) := by decide +kernel
theorem d210_22 : dc 210 22 = some (.iload_n 0, 23) := by decide +kernel
theorem d210_23 : dc 210 23 = some (.bipush 95, 25) := by decide +kernel
theorem d210_25 : dc 210 25 = some (.if_icmp .ne ((32 : Nat) : Int), 28) := by decide +kernel
theorem d210_28 : dc 210 28 = some (.iconst 1, 29) := by decide +kernel
theorem d210_29 : dc 210 29 = some (.goto ((33 : Nat) : Int), 32) := by decide +kernel
theorem d210_32 : dc 210 32 = some (.iconst 0, 33) := by decide +kernel
theorem d210_33 : dc 210 33 = some (.freturn, 34) := by decide +kernel
theorem k_M_isNameSign {S : Shp} {G : Nat → Option Nat} {d : Nat} {h : Hp} {Q : Option MV → Hp → Prop} {c : Int} (ok : Ok S h) (h1 : 1 ≤ d) 
    (kk : Q (some (vI (b2i (isNs c)))) h) : Cl G d 210 [vI c] h Q := by
  show Wp G d 210 0 [some (vI c)] [] h Q
  refine w_iload_n d210_0 rfl ?_
  refine w_bipush d210_1 (by decide) ?_
  refine w_bipush d210_3 (by decide) ?_
  refine w_calls3 d210_5 (by omega) rfl rfl (by simp) (Nat.le_of_ble_eq_true rfl) ?_
  refine k_M_in (by omega) ?_
  refine w_ifne d210_8 (fun c8 => ?_) (fun c8 => ?_)
  · have e1 : decide (97 ≤ c ∧ c ≤ 122) = true := by
      rcases Bool.eq_false_or_eq_true (decide (97 ≤ c ∧ c ≤ 122)) with z | z
      · exact z
      · rw [z] at c8; exact absurd rfl c8
    have e : b2i (isNs c) = 1 := by unfold isNs; rw [e1]; rfl
    rw [e] at kk
    refine w_iconst d210_28 (by decide) ?_
    refine w_goto d210_29 ?_
    refine w_zreturn d210_33 (by decide) ?_
    exact kk
  · have f8 : ¬ (97 ≤ c ∧ c ≤ 122) := fun z => by rw [decide_eq_true z] at c8; exact absurd c8 (by decide)
    refine w_iload_n d210_11 rfl ?_
    refine w_bipush d210_12 (by decide) ?_
    refine w_bipush d210_14 (by decide) ?_
    refine w_calls3 d210_16 (by omega) rfl rfl (by simp) (Nat.le_of_ble_eq_true rfl) ?_
    refine k_M_in (by omega) ?_
    refine w_ifne d210_19 (fun c19 => ?_) (fun c19 => ?_)
    · have e1 : decide (48 ≤ c ∧ c ≤ 57) = true := by
        rcases Bool.eq_false_or_eq_true (decide (48 ≤ c ∧ c ≤ 57)) with z | z
        · exact z
        · rw [z] at c19; exact absurd rfl c19
      have e : b2i (isNs c) = 1 := by unfold isNs; rw [e1, Bool.or_true]; rfl
      rw [e] at kk
      refine w_iconst d210_28 (by decide) ?_
      refine w_goto d210_29 ?_
      refine w_zreturn d210_33 (by decide) ?_
      exact kk
    · have f19 : ¬ (48 ≤ c ∧ c ≤ 57) := fun z => by rw [decide_eq_true z] at c19; exact absurd c19 (by decide)
      refine w_iload_n d210_22 rfl ?_
      refine w_bipush d210_23 (by decide) ?_
      refine w_icmpne d210_25 (fun c25 => ?_) (fun c25 => ?_)
      · have e : b2i (isNs c) = 0 := by unfold isNs; rw [decide_eq_false f8, decide_eq_false f19, decide_eq_false (show ¬ c = 95 by omega)]; rfl
        rw [e] at kk
        refine w_iconst d210_32 (by decide) ?_
        refine w_zreturn d210_33 (by decide) ?_
        exact kk
      · have e : b2i (isNs c) = 1 := by unfold isNs; rw [decide_eq_true (show c = 95 by omega), Bool.or_true]; rfl
        rw [e] at kk
        refine w_iconst d210_28 (by decide) ?_
        refine w_goto d210_29 ?_
        refine w_zreturn d210_33 (by decide) ?_
        exact kk
theorem list_ext {l k : List Nat} (hn : l.length = k.length) (h : ∀ i, i < l.length → l.getD i 0 = k.getD i 0) : l = k := by
  refine List.ext_getElem hn (fun i h1 h2 => ?_)
  have := h i h1
  rw [List.getD_eq_getElem?_getD, List.getD_eq_getElem?_getD, List.getElem?_eq_getElem h1, List.getElem?_eq_getElem h2] at this
  exact this
theorem cmpL_drop {l k : List Nat} {i : Nat} (h1 : i < l.length) (h2 : i < k.length) : cmpL (l.drop i) (k.drop i) = if l.getD i 0 = k.getD i 0 then cmpL (l.drop (i + 1)) (k.drop (i + 1)) else ((l.getD i 0 : Nat) : Int) - ((k.getD i 0 : Nat) : Int) := by
  rw [drop_at h1, drop_at h2, cmpL]
theorem cmpL_end {l k : List Nat} {i : Nat} (h : l.length ≤ i ∨ k.length ≤ i) (h1 : i ≤ l.length) (h2 : i ≤ k.length) : cmpL (l.drop i) (k.drop i) = (l.length : Int) - (k.length : Int) := by
  rcases h with h | h
  · rw [List.drop_eq_nil_of_le h, cmpL, List.length_drop]; omega
  · rw [List.drop_eq_nil_of_le h, cmpL_nil, List.length_drop]; omega
theorem d224_0 : dc 224 0 = some (.iload_n 2, 1) := by decide +kernel
theorem d224_1 : dc 224 1 = some (.iload 5, 3) := by decide +kernel
theorem d224_3 : dc 224 3 = some (.if_icmp .eq ((8 : Nat) : Int), 6) := by decide +kernel
theorem d224_6 : dc 224 6 = some (.iconst 0, 7) := by decide +kernel
theorem d224_7 : dc 224 7 = some (.freturn, 8) := by decide +kernel
theorem d224_8 : dc 224 8 = some (.iconst 0, 9) := by decide +kernel
theorem d224_9 : dc 224 9 = some (.istore 6, 11) := by decide +kernel
theorem d224_11 : dc 224 11 = some (.iload 6, 13) := by decide +kernel
theorem d224_13 : dc 224 13 = some (.iload_n 2, 14) := by decide +kernel
theorem d224_14 : dc 224 14 = some (.if_icmp .ge ((41 : Nat) : Int), 17) := by decide +kernel
theorem d224_17 : dc 224 17 = some (.aload_n 0, 18) := by decide +kernel
theorem d224_18 : dc 224 18 = some (.iload_n 1, 19) := by decide +kernel
theorem d224_19 : dc 224 19 = some (.iload 6, 21) := by decide +kernel
theorem d224_21 : dc 224 21 = some (.iadd, 22) := by decide +kernel
theorem d224_22 : dc 224 22 = some (.iaload, 23) := by decide +kernel
theorem d224_23 : dc 224 23 = some (.aload_n 3, 24) := by decide +kernel
theorem d224_24 : dc 224 24 = some (.iload 4, 26) := by decide +kernel
theorem d224_26 : dc 224 26 = some (.iload 6, 28) := by decide +kernel
theorem d224_28 : dc 224 28 = some (.iadd, 29) := by decide +kernel
theorem d224_29 : dc 224 29 = some (.iaload, 30) := by decide +kernel
theorem d224_30 : dc 224 30 = some (.if_icmp .eq ((35 : Nat) : Int), 33) := by decide +kernel
theorem d224_33 : dc 224 33 = some (.iconst 0, 34) := by decide +kernel
theorem d224_34 : dc 224 34 = some (.freturn, 35) := by decide +kernel
theorem d224_35 : dc 224 35 = some (.iinc 6 1, 38) := by decide +kernel
theorem d224_38 : dc 224 38 = some (.goto ((11 : Nat) : Int), 41) := by decide +kernel
theorem d224_41 : dc 224 41 = some (.iconst 1, 42) := by decide +kernel
theorem d224_42 : dc 224 42 = some (.freturn, 43) := by decide +kernel
theorem k_D_isSame {S : Shp} {G : Nat → Option Nat} {d : Nat} {h : Hp} {Q : Option MV → Hp → Prop} {a : Nat} {f : Nat} {n : Nat} {b : Nat} {q : Nat} {t : Nat} (ok : Ok S h) (h1 : 0 ≤ d) {l k : List Nat} (hn : n = l.length) (ht : t = k.length) (s1 : SgC S h a f l) (s2 : SgC S h b q k)
    (kk : Q (some (vI (b2i (decide (l = k))))) h) : Cl G d 224 [vR (some a), vI (f : Nat), vI (n : Nat), vR (some b), vI (q : Nat), vI (t : Nat)] h Q := by
  show Wp G d 224 0 [some (vR (some a)), some (vI (f : Nat)), some (vI (n : Nat)), some (vR (some b)), some (vI (q : Nat)), some (vI (t : Nat)), none] [] h Q
  subst hn
  subst ht
  have fl1 : f + l.length ≤ 100000 := Nat.le_trans s1.2.1 s1.2.2.1
  have fl2 : q + k.length ≤ 100000 := Nat.le_trans s2.2.1 s2.2.2.1
  refine w_iload_n d224_0 rfl ?_
  refine w_iload d224_1 rfl ?_
  refine w_icmpeq d224_3 (fun c3 => ?_) (fun c3 => ?_)
  · have hlk : l.length = k.length := by omega
    refine w_iconst d224_8 (by decide) ?_
    refine w_istore6 d224_9 rfl ?_
    have L11 : ∀ (m11 : Nat) (i : Nat), l.length - i = m11 → (∀ j, j < i → l.getD j 0 = k.getD j 0) → Wp G d 224 11 [some (vR (some a)), some (vI (f : Nat)), some (vI (l.length : Nat)), some (vR (some b)), some (vI (q : Nat)), some (vI (k.length : Nat)), some (vI (i : Nat))] [] h Q := by
      intro m11
      induction m11 using Nat.strongRecOn with | ind m11 IH11 => ?_
      intro i hm11 hp
      refine w_iload d224_11 rfl ?_
      refine w_iload_n d224_13 rfl ?_
      refine w_icmpge d224_14 (fun c14 => ?_) (fun c14 => ?_)
      · have e : b2i (decide (l = k)) = 1 := b2i_dec (list_ext hlk (fun j hj => hp j (by omega)))
        rw [e] at kk
        refine w_iconst d224_41 (by decide) ?_
        refine w_zreturn d224_42 (by decide) ?_
        exact kk
      · have hi : i < l.length := by omega
        have hi2 : i < k.length := by omega
        refine w_aload_n d224_17 rfl ?_
        refine w_iload_n d224_18 rfl ?_
        refine w_iload d224_19 rfl ?_
        refine w_iadd d224_21 (by constructor <;> omega) ?_
        refine w_ialoadV (x := ((l.getD i 0 : Nat) : Int)) d224_22 (s1.g ok hi) (s1.at hi) ?_
        refine w_aload_n d224_23 rfl ?_
        refine w_iload d224_24 rfl ?_
        refine w_iload d224_26 rfl ?_
        refine w_iadd d224_28 (by constructor <;> omega) ?_
        refine w_ialoadV (x := ((k.getD i 0 : Nat) : Int)) d224_29 (s2.g ok hi2) (s2.at hi2) ?_
        refine w_icmpeq d224_30 (fun c30 => ?_) (fun c30 => ?_)
        · refine w_iinc6 d224_35 rfl (by constructor <;> omega) ?_
          refine w_goto d224_38 ?_
          rw [show ((i : Nat) : Int) + 1 = ((i + 1 : Nat) : Int) by omega]
          refine w_less ?_ (IH11 _ (by omega) (i + 1) rfl (fun j hj => by rcases Nat.lt_or_ge j i with z | z; exact hp j z; rw [show j = i by omega]; omega))
          exact ⟨Or.inr rfl, Or.inr rfl, Or.inr rfl, Or.inr rfl, Or.inr rfl, Or.inr rfl, Or.inr rfl, trivial⟩
        · have e : b2i (decide (l = k)) = 0 := b2i_decN (fun z => by rw [z] at c30; exact c30 rfl)
          rw [e] at kk
          refine w_iconst d224_33 (by decide) ?_
          refine w_zreturn d224_34 (by decide) ?_
          exact kk
    refine w_less ?_ (L11 _ 0 rfl (fun j hj => absurd hj (Nat.not_lt_zero _)))
    exact ⟨Or.inr rfl, Or.inr rfl, Or.inr rfl, Or.inr rfl, Or.inr rfl, Or.inr rfl, Or.inr rfl, trivial⟩
  · have e : b2i (decide (l = k)) = 0 := b2i_decN (fun z => by rw [z] at c3; exact c3 rfl)
    rw [e] at kk
    refine w_iconst d224_6 (by decide) ?_
    refine w_zreturn d224_7 (by decide) ?_
    exact kk
theorem gd_mem {l : List Nat} {i : Nat} (h : i < l.length) : l.getD i 0 ∈ l := by
  rw [List.getD_eq_getElem?_getD, List.getElem?_eq_getElem h]
  exact List.getElem_mem h
theorem d304_0 : dc 304 0 = some (.iconst 0, 1) := by decide +kernel
theorem d304_1 : dc 304 1 = some (.istore 6, 3) := by decide +kernel
theorem d304_3 : dc 304 3 = some (.iload 6, 5) := by decide +kernel
theorem d304_5 : dc 304 5 = some (.iload_n 2, 6) := by decide +kernel
theorem d304_6 : dc 304 6 = some (.if_icmp .ge ((53 : Nat) : Int), 9) := by decide +kernel
theorem d304_9 : dc 304 9 = some (.iload 6, 11) := by decide +kernel
theorem d304_11 : dc 304 11 = some (.iload 5, 13) := by decide +kernel
theorem d304_13 : dc 304 13 = some (.if_icmp .ge ((53 : Nat) : Int), 16) := by decide +kernel
theorem d304_16 : dc 304 16 = some (.aload_n 0, 17) := by decide +kernel
theorem d304_17 : dc 304 17 = some (.iload_n 1, 18) := by decide +kernel
theorem d304_18 : dc 304 18 = some (.iload 6, 20) := by decide +kernel
theorem d304_20 : dc 304 20 = some (.iadd, 21) := by decide +kernel
theorem d304_21 : dc 304 21 = some (.iaload, 22) := by decide +kernel
theorem d304_22 : dc 304 22 = some (.aload_n 3, 23) := by decide +kernel
theorem d304_23 : dc 304 23 = some (.iload 4, 25) := by decide +kernel
theorem d304_25 : dc 304 25 = some (.iload 6, 27) := by decide +kernel
theorem d304_27 : dc 304 27 = some (.iadd, 28) := by decide +kernel
theorem d304_28 : dc 304 28 = some (.iaload, 29) := by decide +kernel
theorem d304_29 : dc 304 29 = some (.if_icmp .eq ((47 : Nat) : Int), 32) := by decide +kernel
theorem d304_32 : dc 304 32 = some (.aload_n 0, 33) := by decide +kernel
theorem d304_33 : dc 304 33 = some (.iload_n 1, 34) := by decide +kernel
theorem d304_34 : dc 304 34 = some (.iload 6, 36) := by decide +kernel
theorem d304_36 : dc 304 36 = some (.iadd, 37) := by decide +kernel
theorem d304_37 : dc 304 37 = some (.iaload, 38) := by decide +kernel
theorem d304_38 : dc 304 38 = some (.aload_n 3, 39) := by decide +kernel
theorem d304_39 : dc 304 39 = some (.iload 4, 41) := by decide +kernel
theorem d304_41 : dc 304 41 = some (.iload 6, 43) := by decide +kernel
theorem d304_43 : dc 304 43 = some (.iadd, 44) := by decide +kernel
theorem d304_44 : dc 304 44 = some (.iaload, 45) := by decide +kernel
theorem d304_45 : dc 304 45 = some (.isub, 46) := by decide +kernel
theorem d304_46 : dc 304 46 = some (.ireturn, 47) := by decide +kernel
theorem d304_47 : dc 304 47 = some (.iinc 6 1, 50) := by decide +kernel
theorem d304_50 : dc 304 50 = some (.goto ((3 : Nat) : Int), 53) := by decide +kernel
theorem d304_53 : dc 304 53 = some (.iload_n 2, 54) := by decide +kernel
theorem d304_54 : dc 304 54 = some (.iload 5, 56) := by decide +kernel
theorem d304_56 : dc 304 56 = some (.isub, 57) := by decide +kernel
theorem d304_57 : dc 304 57 = some (.ireturn, 58) := by decide +kernel
theorem k_M_compareSigns {S : Shp} {G : Nat → Option Nat} {d : Nat} {h : Hp} {Q : Option MV → Hp → Prop} {a : Nat} {f : Nat} {n : Nat} {b : Nat} {q : Nat} {t : Nat} (ok : Ok S h) (h1 : 0 ≤ d) {l k : List Nat} (hn : n = l.length) (ht : t = k.length) (s1 : SgC S h a f l) (s2 : SgC S h b q k) (hl : ∀ c ∈ l, c ≤ 255) (hk : ∀ c ∈ k, c ≤ 255)
    (kk : Q (some (vI (cmpL l k))) h) : Cl G d 304 [vR (some a), vI (f : Nat), vI (n : Nat), vR (some b), vI (q : Nat), vI (t : Nat)] h Q := by
  show Wp G d 304 0 [some (vR (some a)), some (vI (f : Nat)), some (vI (n : Nat)), some (vR (some b)), some (vI (q : Nat)), some (vI (t : Nat)), none] [] h Q
  subst hn
  subst ht
  have fl1 : f + l.length ≤ 100000 := Nat.le_trans s1.2.1 s1.2.2.1
  have fl2 : q + k.length ≤ 100000 := Nat.le_trans s2.2.1 s2.2.2.1
  refine w_iconst d304_0 (by decide) ?_
  refine w_istore6 d304_1 rfl ?_
  have L3 : ∀ (m3 : Nat) (i : Nat), l.length - i = m3 → (i ≤ l.length) → (i ≤ k.length) → (cmpL (l.drop i) (k.drop i) = cmpL l k) → Wp G d 304 3 [some (vR (some a)), some (vI (f : Nat)), some (vI (l.length : Nat)), some (vR (some b)), some (vI (q : Nat)), some (vI (k.length : Nat)), some (vI (i : Nat))] [] h Q := by
    intro m3
    induction m3 using Nat.strongRecOn with | ind m3 IH3 => ?_
    intro i hm3 il ik hp
    refine w_iload d304_3 rfl ?_
    refine w_iload_n d304_5 rfl ?_
    refine w_icmpge d304_6 (fun c6 => ?_) (fun c6 => ?_)
    · rw [cmpL_end (Or.inl (by omega)) il ik] at hp
      rw [← hp] at kk
      refine w_iload_n d304_53 rfl ?_
      refine w_iload d304_54 rfl ?_
      refine w_isub d304_56 (by constructor <;> omega) ?_
      refine w_ireturn d304_57 ?_
      exact kk
    · have hi : i < l.length := by omega
      refine w_iload d304_9 rfl ?_
      refine w_iload d304_11 rfl ?_
      refine w_icmpge d304_13 (fun c13 => ?_) (fun c13 => ?_)
      · rw [cmpL_end (Or.inr (by omega)) il ik] at hp
        rw [← hp] at kk
        refine w_iload_n d304_53 rfl ?_
        refine w_iload d304_54 rfl ?_
        refine w_isub d304_56 (by constructor <;> omega) ?_
        refine w_ireturn d304_57 ?_
        exact kk
      · have hi2 : i < k.length := by omega
        rw [cmpL_drop hi hi2] at hp
        have b1 := hl (l.getD i 0) (gd_mem hi)
        have b2 := hk (k.getD i 0) (gd_mem hi2)
        refine w_aload_n d304_16 rfl ?_
        refine w_iload_n d304_17 rfl ?_
        refine w_iload d304_18 rfl ?_
        refine w_iadd d304_20 (by constructor <;> omega) ?_
        refine w_ialoadV (x := ((l.getD i 0 : Nat) : Int)) d304_21 (s1.g ok hi) (s1.at hi) ?_
        refine w_aload_n d304_22 rfl ?_
        refine w_iload d304_23 rfl ?_
        refine w_iload d304_25 rfl ?_
        refine w_iadd d304_27 (by constructor <;> omega) ?_
        refine w_ialoadV (x := ((k.getD i 0 : Nat) : Int)) d304_28 (s2.g ok hi2) (s2.at hi2) ?_
        refine w_icmpeq d304_29 (fun c29 => ?_) (fun c29 => ?_)
        · rw [if_pos (by omega)] at hp
          refine w_iinc6 d304_47 rfl (by constructor <;> omega) ?_
          refine w_goto d304_50 ?_
          rw [show ((i : Nat) : Int) + 1 = ((i + 1 : Nat) : Int) by omega]
          refine w_less ?_ (IH3 _ (by omega) (i + 1) rfl (by omega) (by omega) hp)
          exact ⟨Or.inr rfl, Or.inr rfl, Or.inr rfl, Or.inr rfl, Or.inr rfl, Or.inr rfl, Or.inr rfl, trivial⟩
        · rw [if_neg (by omega)] at hp
          rw [← hp] at kk
          refine w_aload_n d304_32 rfl ?_
          refine w_iload_n d304_33 rfl ?_
          refine w_iload d304_34 rfl ?_
          refine w_iadd d304_36 (by constructor <;> omega) ?_
          have b1 := hl (l.getD i 0) (gd_mem hi)
          refine w_ialoadV (x := ((l.getD i 0 : Nat) : Int)) d304_37 (s1.g ok hi) (s1.at hi) ?_
          refine w_aload_n d304_38 rfl ?_
          refine w_iload d304_39 rfl ?_
          refine w_iload d304_41 rfl ?_
          refine w_iadd d304_43 (by constructor <;> omega) ?_
          refine w_ialoadV (x := ((k.getD i 0 : Nat) : Int)) d304_44 (s2.g ok hi2) (s2.at hi2) ?_
          refine w_isub d304_45 (by constructor <;> omega) ?_
          refine w_ireturn d304_46 ?_
          exact kk
  refine w_less ?_ (L3 _ 0 rfl (Nat.zero_le _) (Nat.zero_le _) rfl)
  exact ⟨Or.inr rfl, Or.inr rfl, Or.inr rfl, Or.inr rfl, Or.inr rfl, Or.inr rfl, Or.inr rfl, trivial⟩
