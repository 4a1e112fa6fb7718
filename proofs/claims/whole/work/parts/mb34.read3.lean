/-! the reference: a number of a request -/
def rnm (l : List Nat) (a : Nat) (w : Int) : Nat × Nat × Int := if 0 ≤ w then (0, a, w) else if 48 ≤ bHe l a ∧ bHe l a ≤ 57 then (numV (sl l a (numE l a)), numE l a, w) else (0, a, (a : Int))
theorem dg_in {l : List Nat} {p : Nat} (h : 48 ≤ bHe l p ∧ bHe l p ≤ 57) : p < l.length ∧ bHe l p = ((l.getD p 0 : Nat) : Int) ∧ isDig (l.getD p 0) = true := by
  obtain ⟨q, e⟩ := bHe_in (l := l) (a := p) (by omega)
  exact ⟨q, e, isDig_t.mpr (by omega)⟩
theorem dg_no {l : List Nat} {p : Nat} (h : ¬ (48 ≤ bHe l p ∧ bHe l p ≤ 57)) : l.length ≤ p ∨ isDig (l.getD p 0) = false := by
  rcases Nat.lt_or_ge p l.length with q | q
  · refine Or.inr (isDig_f.mpr ?_)
    have e : bHe l p = ((l.getD p 0 : Nat) : Int) := if_pos q
    omega
  · exact Or.inl q
theorem num_1 {l : List Nat} {a : Nat} (h : 48 ≤ bHe l a ∧ bHe l a ≤ 57) : numE l a = if l.getD a 0 - 48 = 0 then a + 1 else scan l isDig (a + 1) 3 := by
  obtain ⟨q, e, d⟩ := dg_in h
  unfold numE
  by_cases z : l.getD a 0 = 48
  · rw [if_pos ⟨q, z⟩, if_pos (by omega), scan_go (n := 0) q d]
    exact scan_stop (Or.inr (Or.inl rfl))
  · rw [if_neg (fun y => z y.2), if_neg (by omega), scan_go (n := 3) q d]
theorem num_v1 {l : List Nat} {a : Nat} (q : a < l.length) : l.getD a 0 - 48 = numV (sl l a (a + 1)) := by
  rw [sl_snoc (Nat.le_refl _) q, sl_nil, numV_snoc]
  show _ = 0 * 10 + _
  omega
theorem d214_0 : dc 214 0 = some (.aload_n 0, 1) := by decide +kernel
theorem d214_1 : dc 214 1 = some (.getfield 1738, 4) := by decide +kernel
theorem d214_4 : dc 214 4 = some (.ifCond .lt ((9 : Nat) : Int), 7) := by decide +kernel
theorem d214_7 : dc 214 7 = some (.iconst 0, 8) := by decide +kernel
theorem d214_8 : dc 214 8 = some (.ireturn, 9) := by decide +kernel
theorem d214_9 : dc 214 9 = some (.aload_n 0, 10) := by decide +kernel
theorem d214_10 : dc 214 10 = some (.invokevirtual 205, 13) := by decide +kernel
theorem d214_13 : dc 214 13 = some (.bipush 48, 15) := by decide +kernel
theorem d214_15 : dc 214 15 = some (.bipush 57, 17) := by decide +kernel
theorem d214_17 : dc 214 17 = some (.invokevirtual 206, 20) := by decide +kernel
theorem d214_20 : dc 214 20 = some (.ifCond .ne ((33 : Nat) : Int), 23) := by decide +kernel
theorem d214_23 : dc 214 23 = some (.aload_n 0, 24) := by decide +kernel
theorem d214_24 : dc 214 24 = some (.aload_n 0, 25) := by decide +kernel
theorem d214_25 : dc 214 25 = some (.getfield 1740, 28) := by decide +kernel
theorem d214_28 : dc 214 28 = some (.putfield 1738, 31) := by decide +kernel
theorem d214_31 : dc 214 31 = some (.iconst 0, 32) := by decide +kernel
theorem d214_32 : dc 214 32 = some (.ireturn, 33) := by decide +kernel
theorem d214_33 : dc 214 33 = some (.aload_n 0, 34) := by decide +kernel
theorem d214_34 : dc 214 34 = some (.invokevirtual 205, 37) := by decide +kernel
theorem d214_37 : dc 214 37 = some (.bipush 48, 39) := by decide +kernel
theorem d214_39 : dc 214 39 = some (.isub, 40) := by decide +kernel
theorem d214_40 : dc 214 40 = some (.istore_n 1, 41) := by decide +kernel
theorem d214_41 : dc 214 41 = some (.aload_n 0, 42) := by decide +kernel
theorem d214_42 : dc 214 42 = some (.dup, 43) := by decide +kernel
theorem d214_43 : dc 214 43 = some (.getfield 1740, 46) := by decide +kernel
theorem d214_46 : dc 214 46 = some (.iconst 1, 47) := by decide +kernel
theorem d214_47 : dc 214 47 = some (.iadd, 48) := by decide +kernel
theorem d214_48 : dc 214 48 = some (.putfield 1740, 51) := by decide +kernel
theorem d214_51 : dc 214 51 = some (.iconst 1, 52) := by decide +kernel
theorem d214_52 : dc 214 52 = some (.istore_n 2, 53) := by decide +kernel
theorem d214_53 : dc 214 53 = some (.iload_n 2, 54) := by decide +kernel
theorem d214_54 : dc 214 54 = some (.iconst 4, 55) := by decide +kernel
theorem d214_55 : dc 214 55 = some (.if_icmp .ge ((105 : Nat) : Int), 58) := by decide +kernel
theorem d214_58 : dc 214 58 = some (.iload_n 1, 59) := by decide +kernel
theorem d214_59 : dc 214 59 = some (.ifCond .le ((105 : Nat) : Int), 62) := by decide +kernel
theorem d214_62 : dc 214 62 = some (.aload_n 0, 63) := by decide +kernel
theorem d214_63 : dc 214 63 = some (.invokevirtual 205, 66) := by decide +kernel
theorem d214_66 : dc 214 66 = some (.bipush 48, 68) := by decide +kernel
theorem d214_68 : dc 214 68 = some (.bipush 57, 70) := by decide +kernel
theorem d214_70 : dc 214 70 = some (.invokevirtual 206, 73) := by decide +kernel
theorem d214_73 : dc 214 73 = some (.ifCond .eq ((105 : Nat) : Int), 76) := by decide +kernel
theorem d214_76 : dc 214 76 = some (.bipush 10, 78) := by decide +kernel
theorem d214_78 : dc 214 78 = some (.iload_n 1, 79) := by decide +kernel
theorem d214_79 : dc 214 79 = some (.imul, 80) := by decide +kernel
theorem d214_80 : dc 214 80 = some (.aload_n 0, 81) := by decide +kernel
theorem d214_81 : dc 214 81 = some (.invokevirtual 205, 84) := by decide +kernel
theorem d214_84 : dc 214 84 = some (.iadd, 85) := by decide +kernel
theorem d214_85 : dc 214 85 = some (.bipush 48, 87) := by decide +kernel
theorem d214_87 : dc 214 87 = some (.isub, 88) := by decide +kernel
theorem d214_88 : dc 214 88 = some (.istore_n 1, 89) := by decide +kernel
theorem d214_89 : dc 214 89 = some (.aload_n 0, 90) := by decide +kernel
theorem d214_90 : dc 214 90 = some (.dup, 91) := by decide +kernel
theorem d214_91 : dc 214 91 = some (.getfield 1740, 94) := by decide +kernel
theorem d214_94 : dc 214 94 = some (.iconst 1, 95) := by decide +kernel
theorem d214_95 : dc 214 95 = some (.iadd, 96) := by decide +kernel
theorem d214_96 : dc 214 96 = some (.putfield 1740, 99) := by decide +kernel
theorem d214_99 : dc 214 99 = some (.iinc 2 1, 102) := by decide +kernel
theorem d214_102 : dc 214 102 = some (.goto ((53 : Nat) : Int), 105) := by decide +kernel
theorem d214_105 : dc 214 105 = some (.iload_n 1, 106) := by decide +kernel
theorem d214_106 : dc 214 106 = some (.ireturn, 107) := by decide +kernel
theorem k_M_readNumber {S : Shp} {G : Nat → Option Nat} {d : Nat} {h : Hp} {Q : Option MV → Hp → Prop} {m : Nat} {l : List Nat} {a : Nat} {w : Int} (ok : Ok S h) (h1 : 2 ≤ d) (hm : sK S m = 14) (RQ : RqR S h m l) (PW : PwR h m a w) 
    (kk : ∀ h', Fr S m [1740, 1738] h h' → RqR S h' m l → PwR h' m (rnm l a w).2.1 (rnm l a w).2.2 → Q (some (vI ((rnm l a w).1 : Nat))) h') : Cl G d 214 [vR (some m)] h Q := by
  show Wp G d 214 0 [some (vR (some m)), none, none] [] h Q
  have RQ_0 := RQ
  have PW_0 := PW
  refine w_aload_n d214_0 rfl ?_
  refine w_getI (x := w) d214_1 (ok.kd hm) PW.2 ?_
  refine w_iflt d214_4 (fun c4 => ?_) (fun c4 => ?_)
  · refine w_aload_n d214_9 rfl ?_
    refine w_callv1 d214_10 (by omega) rfl (ok.kd hm) (by simp) (Nat.le_of_ble_eq_true rfl) ?_
    refine k_M_byteHere ok (by omega) hm RQ PW ?_
    refine w_bipush d214_13 (by decide) ?_
    refine w_bipush d214_15 (by decide) ?_
    refine w_calls3 d214_17 (by omega) rfl rfl (by simp) (Nat.le_of_ble_eq_true rfl) ?_
    refine k_M_in (by omega) ?_
    refine w_ifne d214_20 (fun c20 => ?_) (fun c20 => ?_)
    · have nw : ¬ 0 ≤ w := by omega
      have hin : 48 ≤ bHe l a ∧ bHe l a ≤ 57 := by
        by_cases z : 48 ≤ bHe l a ∧ bHe l a ≤ 57
        · exact z
        · rw [decide_eq_false z] at c20; exact absurd rfl c20
      have hd := dg_in hin
      have l9 := RQ.2.1
      refine w_aload_n d214_33 rfl ?_
      refine w_callv1 d214_34 (by omega) rfl (ok.kd hm) (by simp) (Nat.le_of_ble_eq_true rfl) ?_
      refine k_M_byteHere ok (by omega) hm RQ PW ?_
      refine w_bipush d214_37 (by decide) ?_
      refine w_isub d214_39 (by constructor <;> omega) ?_
      refine w_istore1 d214_40 rfl ?_
      refine w_aload_n d214_41 rfl ?_
      refine w_dupR d214_42 ?_
      refine w_getI (x := ((a : Nat) : Int)) d214_43 (ok.kd hm) PW.1 ?_
      refine w_iconst d214_46 (by decide) ?_
      refine w_iadd d214_47 (by constructor <;> omega) ?_
      refine wf1740 d214_48 ok hm (by omega) (fun h48 e48 m48 => ?_)
      have f48 : Fr S m [1740] _ _ := Fr.wF ok m48 (FK.pI e48)
      have ok48 := f48.ok
      have FR48 := Fr.le (F := [1740, 1738]) f48 (by decide)
      have RQ := RQ.r f48 hm
      have PW : PwR h48 m (a + 1) w := ⟨by rw [e48, FI_sFI, if_pos ⟨rfl, rfl⟩]; rfl, (f48.i 1738 (by decide)).trans PW.2⟩
      refine w_iconst d214_51 (by decide) ?_
      refine w_istore2 d214_52 rfl ?_
      have L53 : ∀ (m53 : Nat) (g : Hp) (i : Nat) (v : Nat), 4 - i = m53 → Fr S m [1740, 1738] h g → (1 ≤ i ∧ i ≤ 4 ∧ a + i ≤ l.length) → (PwR g m (a + i) w) → (v = numV (sl l a (a + i))) → ((i = 1 → v ≤ 9) ∧ (i = 2 → v ≤ 99) ∧ (i = 3 → v ≤ 999) ∧ (i = 4 → v ≤ 9999)) → (numE l a = if v = 0 then a + i else scan l isDig (a + i) (4 - i)) → Wp G d 214 53 [some (vR (some m)), some (vI (v : Nat)), some (vI (i : Nat))] [] g Q := by
        intro m53
        induction m53 using Nat.strongRecOn with | ind m53 IH53 => ?_
        intro g i v hm53 FRg ii PW hv vb E1
        have okg := FRg.ok
        have RQ := RQ_0.r FRg hm
        refine w_iload_n d214_53 rfl ?_
        refine w_iconst d214_54 (by decide) ?_
        refine w_icmpge d214_55 (fun c55 => ?_) (fun c55 => ?_)
        · refine w_iload_n d214_105 rfl ?_
          refine w_ireturn d214_106 ?_
          have en : numE l a = a + i := by
            rw [E1]
            rw [show i = 4 by omega]
            split
            · rfl
            · exact scan_stop (Or.inr (Or.inl rfl))
          have er : (rnm l a w) = (v, a + i, w) := by unfold rnm; rw [if_neg nw, if_pos hin, en, ← hv]
          rw [er] at kk
          exact kk g FRg RQ PW
        · refine w_iload_n d214_58 rfl ?_
          refine w_ifle d214_59 (fun c59 => ?_) (fun c59 => ?_)
          · refine w_iload_n d214_105 rfl ?_
            refine w_ireturn d214_106 ?_
            have en : numE l a = a + i := by
              rw [E1]
              rw [if_pos (by omega)]
            have er : (rnm l a w) = (v, a + i, w) := by unfold rnm; rw [if_neg nw, if_pos hin, en, ← hv]
            rw [er] at kk
            exact kk g FRg RQ PW
          · have v0 : ¬ v = 0 := by omega
            refine w_aload_n d214_62 rfl ?_
            refine w_callv1 d214_63 (by omega) rfl (okg.kd hm) (by simp) (Nat.le_of_ble_eq_true rfl) ?_
            refine k_M_byteHere okg (by omega) hm RQ PW ?_
            refine w_bipush d214_66 (by decide) ?_
            refine w_bipush d214_68 (by decide) ?_
            refine w_calls3 d214_70 (by omega) rfl rfl (by simp) (Nat.le_of_ble_eq_true rfl) ?_
            refine k_M_in (by omega) ?_
            refine w_ifeq d214_73 (fun c73 => ?_) (fun c73 => ?_)
            · have din : ¬ (48 ≤ bHe l (a + i) ∧ bHe l (a + i) ≤ 57) := fun z => by rw [decide_eq_true z] at c73; exact absurd c73 (by decide)
              refine w_iload_n d214_105 rfl ?_
              refine w_ireturn d214_106 ?_
              have en : numE l a = a + i := by
                rw [E1]
                rw [if_neg v0]
                exact scan_stop ((dg_no din).imp id Or.inr)
              have er : (rnm l a w) = (v, a + i, w) := by unfold rnm; rw [if_neg nw, if_pos hin, en, ← hv]
              rw [er] at kk
              exact kk g FRg RQ PW
            · have din : 48 ≤ bHe l (a + i) ∧ bHe l (a + i) ≤ 57 := by
                by_cases z : 48 ≤ bHe l (a + i) ∧ bHe l (a + i) ≤ 57
                · exact z
                · rw [decide_eq_false z] at c73; exact absurd rfl c73
              have hd2 := dg_in din
              refine w_bipush d214_76 (by decide) ?_
              refine w_iload_n d214_78 rfl ?_
              refine w_imul d214_79 (by constructor <;> omega) ?_
              refine w_aload_n d214_80 rfl ?_
              refine w_callv1 d214_81 (by omega) rfl (okg.kd hm) (by simp) (Nat.le_of_ble_eq_true rfl) ?_
              refine k_M_byteHere okg (by omega) hm RQ PW ?_
              refine w_iadd d214_84 (by constructor <;> omega) ?_
              refine w_bipush d214_85 (by decide) ?_
              refine w_isub d214_87 (by constructor <;> omega) ?_
              refine w_istore1 d214_88 rfl ?_
              refine w_aload_n d214_89 rfl ?_
              refine w_dupR d214_90 ?_
              refine w_getI (x := ((a + i : Nat) : Int)) d214_91 (okg.kd hm) PW.1 ?_
              refine w_iconst d214_94 (by decide) ?_
              refine w_iadd d214_95 (by constructor <;> omega) ?_
              refine wf1740 d214_96 okg hm (by omega) (fun h96 e96 m96 => ?_)
              have f96 : Fr S m [1740] _ _ := Fr.wF okg m96 (FK.pI e96)
              have ok96 := f96.ok
              have FR96 := Fr.tr (F := [1740, 1738]) FRg f96 (by decide) (by decide)
              have RQ := RQ.r f96 hm
              have PW : PwR h96 m (a + (i + 1)) w := ⟨by rw [e96, FI_sFI, if_pos ⟨rfl, rfl⟩]; omega, (f96.i 1738 (by decide)).trans PW.2⟩
              refine w_iinc2 d214_99 rfl (by constructor <;> omega) ?_
              refine w_goto d214_102 ?_
              rw [show ((i : Nat) : Int) + 1 = ((i + 1 : Nat) : Int) by omega]
              rw [show 10 * ((v : Nat) : Int) + bHe l (a + i) - 48 = ((10 * v + (l.getD (a + i) 0 - 48) : Nat) : Int) by omega]
              have ev : 10 * v + (l.getD (a + i) 0 - 48) = numV (sl l a (a + (i + 1))) := by
                rw [show a + (i + 1) = (a + i) + 1 by omega, sl_snoc (by omega) hd2.1, numV_snoc, ← hv]
                omega
              have E2 : numE l a = if 10 * v + (l.getD (a + i) 0 - 48) = 0 then a + (i + 1) else scan l isDig (a + (i + 1)) (4 - (i + 1)) := by
                rw [if_neg (by omega), E1, if_neg v0, show 4 - i = (4 - (i + 1)) + 1 by omega, scan_go hd2.1 hd2.2.2]
                rfl
              refine w_less ?_ (IH53 _ (by omega) h96 (i + 1) (10 * v + (l.getD (a + i) 0 - 48)) rfl FR96 ⟨by omega, by omega, by omega⟩ PW ev ⟨by omega, by omega, by omega, by omega⟩ E2)
              exact ⟨Or.inr rfl, Or.inr rfl, Or.inr rfl, trivial⟩
      rw [show bHe l a - 48 = ((l.getD a 0 - 48 : Nat) : Int) by omega]
      refine w_less ?_ (L53 _ h48 1 (l.getD a 0 - 48) rfl FR48 ⟨Nat.le_refl _, by decide, by omega⟩ PW (num_v1 hd.1) ⟨fun _ => by omega, by omega, by omega, by omega⟩ (num_1 hin))
      exact ⟨Or.inr rfl, Or.inr rfl, Or.inr rfl, trivial⟩
    · have hin : ¬ (48 ≤ bHe l a ∧ bHe l a ≤ 57) := fun z => by rw [decide_eq_true z] at c20; exact absurd c20 (by decide)
      have rp := rg1740 ok hm
      rw [PW.1] at rp
      refine w_aload_n d214_23 rfl ?_
      refine w_aload_n d214_24 rfl ?_
      refine w_getI (x := ((a : Nat) : Int)) d214_25 (ok.kd hm) PW.1 ?_
      refine wf1738 d214_28 ok hm (by omega) (fun h28 e28 m28 => ?_)
      have f28 : Fr S m [1738] _ _ := Fr.wF ok m28 (FK.pI e28)
      have ok28 := f28.ok
      have FR28 := Fr.le (F := [1740, 1738]) f28 (by decide)
      have RQ := RQ.r f28 hm
      refine w_iconst d214_31 (by decide) ?_
      refine w_ireturn d214_32 ?_
      have er : (rnm l a w) = (0, a, (a : Int)) := by unfold rnm; rw [if_neg (by omega), if_neg hin]
      rw [er] at kk
      exact kk h28 FR28 (RQ_0.r f28 hm) ⟨(f28.i 1740 (by decide)).trans PW_0.1, by rw [e28, FI_sFI, if_pos ⟨rfl, rfl⟩]⟩
  · refine w_iconst d214_7 (by decide) ?_
    refine w_ireturn d214_8 ?_
    have er : (rnm l a w) = (0, a, w) := if_pos (by omega)
    rw [er] at kk
    exact kk h (Fr.refl ok) RQ PW
