/-! the reference: a tree of a request -/
theorem pTr_n2 {l : List Nat} {f o a : Nat} (ho : 0 < o) (h : ¬ bHe l a = 63) (h2 : ¬ bHe l a = 33) : pTr l f o a = (false, a) := by
  cases f with
  | zero => rw [pTr, decide_eq_false (by omega)]
  | succ f => exact pTr_n (by omega) ho h h2
theorem d216_0 : dc 216 0 = some (.aload_n 0, 1) := by decide +kernel
theorem d216_1 : dc 216 1 = some (.aload_n 0, 2) := by decide +kernel
theorem d216_2 : dc 216 2 = some (.getfield 1740, 5) := by decide +kernel
theorem d216_5 : dc 216 5 = some (.putfield 1761, 8) := by decide +kernel
theorem d216_8 : dc 216 8 = some (.iconst 1, 9) := by decide +kernel
theorem d216_9 : dc 216 9 = some (.istore_n 1, 10) := by decide +kernel
theorem d216_10 : dc 216 10 = some (.aload_n 0, 11) := by decide +kernel
theorem d216_11 : dc 216 11 = some (.getfield 1738, 14) := by decide +kernel
theorem d216_14 : dc 216 14 = some (.ifCond .ge ((139 : Nat) : Int), 17) := by decide +kernel
theorem d216_17 : dc 216 17 = some (.iload_n 1, 18) := by decide +kernel
theorem d216_18 : dc 216 18 = some (.ifCond .le ((139 : Nat) : Int), 21) := by decide +kernel
theorem d216_21 : dc 216 21 = some (.aload_n 0, 22) := by decide +kernel
theorem d216_22 : dc 216 22 = some (.invokevirtual 205, 25) := by decide +kernel
theorem d216_25 : dc 216 25 = some (.istore_n 2, 26) := by decide +kernel
theorem d216_26 : dc 216 26 = some (.iload_n 2, 27) := by decide +kernel
theorem d216_27 : dc 216 27 = some (.bipush 63, 29) := by decide +kernel
theorem d216_29 : dc 216 29 = some (.if_icmp .eq ((47 : Nat) : Int), 32) := by decide +kernel
theorem d216_32 : dc 216 32 = some (.iload_n 2, 33) := by decide +kernel
theorem d216_33 : dc 216 33 = some (.bipush 33, 35) := by decide +kernel
theorem d216_35 : dc 216 35 = some (.if_icmp .eq ((47 : Nat) : Int), 38) := by decide +kernel
theorem d216_38 : dc 216 38 = some (.aload_n 0, 39) := by decide +kernel
theorem d216_39 : dc 216 39 = some (.aload_n 0, 40) := by decide +kernel
theorem d216_40 : dc 216 40 = some (.getfield 1740, 43) := by decide +kernel
theorem d216_43 : dc 216 43 = some (.putfield 1738, 46) := by decide +kernel
theorem d216_46 : dc 216 46 = some (.return_, 47) := by decide +kernel
theorem d216_47 : dc 216 47 = some (.aload_n 0, 48) := by decide +kernel
theorem d216_48 : dc 216 48 = some (.dup, 49) := by decide +kernel
theorem d216_49 : dc 216 49 = some (.getfield 1740, 52) := by decide +kernel
theorem d216_52 : dc 216 52 = some (.iconst 1, 53) := by decide +kernel
theorem d216_53 : dc 216 53 = some (.iadd, 54) := by decide +kernel
theorem d216_54 : dc 216 54 = some (.putfield 1740, 57) := by decide +kernel
theorem d216_57 : dc 216 57 = some (.iconst 0, 58) := by decide +kernel
theorem d216_58 : dc 216 58 = some (.istore_n 3, 59) := by decide +kernel
theorem d216_59 : dc 216 59 = some (.iload_n 3, 60) := by decide +kernel
theorem d216_60 : dc 216 60 = some (.iload_n 2, 61) := by decide +kernel
theorem d216_61 : dc 216 61 = some (.bipush 63, 63) := by decide +kernel
theorem d216_63 : dc 216 63 = some (.if_icmp .ne ((70 : Nat) : Int), 66) := by decide +kernel
theorem d216_66 : dc 216 66 = some (.iconst 1, 67) := by decide +kernel
theorem d216_67 : dc 216 67 = some (.goto ((71 : Nat) : Int), 70) := by decide +kernel
theorem d216_70 : dc 216 70 = some (.iconst 2, 71) := by decide +kernel
theorem d216_71 : dc 216 71 = some (.if_icmp .ge ((122 : Nat) : Int), 74) := by decide +kernel
theorem d216_74 : dc 216 74 = some (.aload_n 0, 75) := by decide +kernel
theorem d216_75 : dc 216 75 = some (.getfield 1738, 78) := by decide +kernel
theorem d216_78 : dc 216 78 = some (.ifCond .ge ((122 : Nat) : Int), 81) := by decide +kernel
theorem d216_81 : dc 216 81 = some (.aload_n 0, 82) := by decide +kernel
theorem d216_82 : dc 216 82 = some (.invokevirtual 205, 85) := by decide +kernel
theorem d216_85 : dc 216 85 = some (.bipush 48, 87) := by decide +kernel
theorem d216_87 : dc 216 87 = some (.bipush 57, 89) := by decide +kernel
theorem d216_89 : dc 216 89 = some (.invokevirtual 206, 92) := by decide +kernel
theorem d216_92 : dc 216 92 = some (.ifCond .ne ((106 : Nat) : Int), 95) := by decide +kernel
theorem d216_95 : dc 216 95 = some (.aload_n 0, 96) := by decide +kernel
theorem d216_96 : dc 216 96 = some (.aload_n 0, 97) := by decide +kernel
theorem d216_97 : dc 216 97 = some (.getfield 1740, 100) := by decide +kernel
theorem d216_100 : dc 216 100 = some (.putfield 1738, 103) := by decide +kernel
theorem d216_103 : dc 216 103 = some (.goto ((116 : Nat) : Int), 106) := by decide +kernel
theorem d216_106 : dc 216 106 = some (.aload_n 0, 107) := by decide +kernel
theorem d216_107 : dc 216 107 = some (.dup, 108) := by decide +kernel
theorem d216_108 : dc 216 108 = some (.getfield 1740, 111) := by decide +kernel
theorem d216_111 : dc 216 111 = some (.iconst 1, 112) := by decide +kernel
theorem d216_112 : dc 216 112 = some (.iadd, 113) := by decide +kernel
theorem d216_113 : dc 216 113 = some (.putfield 1740, 116) := by decide +kernel
theorem d216_116 : dc 216 116 = some (.iinc 3 1, 119) := by decide +kernel
theorem d216_119 : dc 216 119 = some (.goto ((59 : Nat) : Int), 122) := by decide +kernel
theorem d216_122 : dc 216 122 = some (.iload_n 1, 123) := by decide +kernel
theorem d216_123 : dc 216 123 = some (.iload_n 2, 124) := by decide +kernel
theorem d216_124 : dc 216 124 = some (.bipush 63, 126) := by decide +kernel
theorem d216_126 : dc 216 126 = some (.if_icmp .ne ((133 : Nat) : Int), 129) := by decide +kernel
theorem d216_129 : dc 216 129 = some (.iconst 3, 130) := by decide +kernel
theorem d216_130 : dc 216 130 = some (.goto ((134 : Nat) : Int), 133) := by decide +kernel
theorem d216_133 : dc 216 133 = some (.iconst (-1), 134) := by decide +kernel
theorem d216_134 : dc 216 134 = some (.iadd, 135) := by decide +kernel
theorem d216_135 : dc 216 135 = some (.istore_n 1, 136) := by decide +kernel
theorem d216_136 : dc 216 136 = some (.goto ((10 : Nat) : Int), 139) := by decide +kernel
theorem d216_139 : dc 216 139 = some (.return_, 140) := by decide +kernel
theorem k_M_readTree {S : Shp} {G : Nat → Option Nat} {d : Nat} {h : Hp} {Q : Option MV → Hp → Prop} {m : Nat} {l : List Nat} {a : Nat} (ok : Ok S h) (h1 : 3 ≤ d) (hm : sK S m = 14) (RQ : RqR S h m l) (PW : PwR h m a (-1)) (hal : a ≤ l.length) (h4 : l.length ≤ 4096)
    (kk : ∀ h', Fr S m [1740, 1738, 1761] h h' → RqR S h' m l → PwR h' m (pTr l 4096 1 a).2 (wOf (pTr l 4096 1 a).1 (pTr l 4096 1 a).2) → FI h' 1761 m = ((a : Nat) : Int) → Q none h') : Cl G d 216 [vR (some m)] h Q := by
  show Wp G d 216 0 [some (vR (some m)), none, none, none] [] h Q
  have RQ_0 := RQ
  have PW_0 := PW
  refine w_aload_n d216_0 rfl ?_
  refine w_aload_n d216_1 rfl ?_
  refine w_getI (x := ((a : Nat) : Int)) d216_2 (ok.kd hm) PW.1 ?_
  refine wf1761 d216_5 ok hm (by omega) (fun h5 e5 m5 => ?_)
  have f5 : Fr S m [1761] _ _ := Fr.wF ok m5 (FK.pI e5)
  have ok5 := f5.ok
  have FR5 := Fr.le (F := [1740, 1738, 1761]) f5 (by decide)
  have RQ := RQ.r f5 hm
  have PW := PW.r f5 hm
  have TF1 : FI h5 1761 m = ((a : Nat) : Int) := by rw [e5, FI_sFI, if_pos ⟨rfl, rfl⟩]
  refine w_iconst d216_8 (by decide) ?_
  refine w_istore1 d216_9 rfl ?_
  have L10 : ∀ (m10 : Nat) (g : Hp) (p o i : Nat) (w : Int), l.length + 1 - p = m10 → Fr S m [1740, 1738, 1761] h g → (p ≤ l.length ∧ i ≤ p ∧ o ≤ 1 + 3 * i) → (PwR g m p w) → (FI g 1761 m = ((a : Nat) : Int)) → ((w = -1 ∧ (pTr l 4096 1 a) = pTr l (4096 - i) o p) ∨ (w = (p : Int) ∧ (pTr l 4096 1 a) = (false, p))) → Wp G d 216 10 [some (vR (some m)), some (vI (o : Nat)), none, none] [] g Q := by
    intro m10
    induction m10 using Nat.strongRecOn with | ind m10 IH10 => ?_
    intro g p o i w hm10 FRg pr PW TF1 ew
    have okg := FRg.ok
    have RQ := RQ_0.r FRg hm
    refine w_aload_n d216_10 rfl ?_
    refine w_getI (x := w) d216_11 (okg.kd hm) PW.2 ?_
    refine w_ifge d216_14 (fun c14 => ?_) (fun c14 => ?_)
    · refine w_return d216_139 ?_
      obtain ⟨w0, ev⟩ := ew.resolve_left (fun z => by omega)
      rw [ev] at kk
      rw [w0] at PW
      exact kk _ FRg RQ PW TF1
    · obtain ⟨w0, E2⟩ := ew.resolve_right (fun z => by omega)
      subst w0
      refine w_iload_n d216_17 rfl ?_
      refine w_ifle d216_18 (fun c18 => ?_) (fun c18 => ?_)
      · refine w_return d216_139 ?_
        have o0 : o = 0 := by omega
        have ev := E2.trans (by rw [o0, pTr_0])
        rw [ev] at kk
        exact kk _ FRg RQ PW TF1
      · have o1 : 0 < o := by omega
        refine w_aload_n d216_21 rfl ?_
        refine w_callv1 d216_22 (by omega) rfl (okg.kd hm) (by simp) (Nat.le_of_ble_eq_true rfl) ?_
        refine k_M_byteHere okg (by omega) hm RQ PW ?_
        refine w_istore2 d216_25 rfl ?_
        refine w_iload_n d216_26 rfl ?_
        refine w_bipush d216_27 (by decide) ?_
        refine w_icmpeq d216_29 (fun c29 => ?_) (fun c29 => ?_)
        · have sg : pSign l 63 p = true := sgn_h.mpr (by omega)
          have pl := pSign_lt sg
          refine w_aload_n d216_47 rfl ?_
          refine w_dupR d216_48 ?_
          refine w_getI (x := ((p : Nat) : Int)) d216_49 (okg.kd hm) PW.1 ?_
          refine w_iconst d216_52 (by decide) ?_
          refine w_iadd d216_53 (by constructor <;> omega) ?_
          refine wf1740 d216_54 okg hm (by omega) (fun h54 e54 m54 => ?_)
          have f54 : Fr S m [1740] _ _ := Fr.wF okg m54 (FK.pI e54)
          have ok54 := f54.ok
          have FR54 := Fr.tr (F := [1740, 1738, 1761]) FRg f54 (by decide) (by decide)
          have RQ := RQ.r f54 hm
          have TF1 := (f54.i 1761).trans TF1
          have PW : PwR h54 m (dgS l (p + 1) 0).1 (dgS l (p + 1) 0).2 := ⟨by rw [e54, FI_sFI, if_pos ⟨rfl, rfl⟩]; rfl, (f54.i 1738 (by decide)).trans PW.2⟩
          refine w_iconst d216_57 (by decide) ?_
          refine w_istore3 d216_58 rfl ?_
          have L59 : ∀ (m59 : Nat) (e : Hp) (k : Nat), 1 - k = m59 → Fr S m [1740, 1738, 1761] h e → (k ≤ 1) → (PwR e m (dgS l (p + 1) k).1 (dgS l (p + 1) k).2) → (FI e 1761 m = ((a : Nat) : Int)) → Wp G d 216 59 [some (vR (some m)), some (vI (o : Nat)), some (vI (bHe l p)), some (vI (k : Nat))] [] e Q := by
            intro m59
            induction m59 using Nat.strongRecOn with | ind m59 IH59 => ?_
            intro e k hm59 FRe kn PW TF1
            have oke := FRe.ok
            have RQ := RQ_0.r FRe hm
            have drk := dgS_rg (p := p + 1) (show p + 1 ≤ l.length by omega) k
            refine w_iload_n d216_59 rfl ?_
            refine w_iload_n d216_60 rfl ?_
            refine w_bipush d216_61 (by decide) ?_
            refine w_icmpne d216_63 (fun c63 => ?_) (fun c63 => ?_)
            · omega
            · refine w_iconst d216_66 (by decide) ?_
              refine w_goto d216_67 ?_
              refine w_icmpge d216_71 (fun c71 => ?_) (fun c71 => ?_)
              · have ek : k = 1 := by omega
                rw [ek] at PW
                have dr := dgS_rg (p := p + 1) (show p + 1 ≤ l.length by omega) 1
                have st := pTr_q (l := l) (f := 4096 - i) (o := o) (a := p) (by omega) (by omega) sg
                refine w_iload_n d216_122 rfl ?_
                refine w_iload_n d216_123 rfl ?_
                refine w_bipush d216_124 (by decide) ?_
                refine w_icmpne d216_126 (fun c126 => ?_) (fun c126 => ?_)
                · omega
                · refine w_iconst d216_129 (by decide) ?_
                  refine w_goto d216_130 ?_
                  refine w_iadd d216_134 (by constructor <;> omega) ?_
                  refine w_istore1 d216_135 rfl ?_
                  refine w_goto d216_136 ?_
                  rw [show ((o : Nat) : Int) + 3 = ((o + 3 : Nat) : Int) by omega]
                  refine w_less ?_ (IH10 _ (by omega) e (dgS l (p + 1) 1).1 (o + 3) (i + 1) (dgS l (p + 1) 1).2 rfl FRe ⟨dr.2.1, by omega, by omega⟩ PW TF1 (by
                      rw [E2, st]
                      rcases dr.2.2.1 with z | z
                      · exact Or.inl ⟨z, by rw [if_neg (by omega)]; rfl⟩
                      · exact Or.inr ⟨z, by rw [if_pos (by omega)]⟩))
                  exact ⟨Or.inr rfl, Or.inr rfl, Or.inl rfl, Or.inl rfl, trivial⟩
              · refine w_aload_n d216_74 rfl ?_
                refine w_getI (x := (dgS l (p + 1) k).2) d216_75 (oke.kd hm) PW.2 ?_
                refine w_ifge d216_78 (fun c78 => ?_) (fun c78 => ?_)
                · have ek := dgS_stay (l := l) (p := p + 1) (k := k) (by omega) (1 - k)
                  rw [show k + (1 - k) = 1 by omega] at ek
                  rw [← ek] at PW
                  have dr := dgS_rg (p := p + 1) (show p + 1 ≤ l.length by omega) 1
                  have st := pTr_q (l := l) (f := 4096 - i) (o := o) (a := p) (by omega) (by omega) sg
                  refine w_iload_n d216_122 rfl ?_
                  refine w_iload_n d216_123 rfl ?_
                  refine w_bipush d216_124 (by decide) ?_
                  refine w_icmpne d216_126 (fun c126 => ?_) (fun c126 => ?_)
                  · omega
                  · refine w_iconst d216_129 (by decide) ?_
                    refine w_goto d216_130 ?_
                    refine w_iadd d216_134 (by constructor <;> omega) ?_
                    refine w_istore1 d216_135 rfl ?_
                    refine w_goto d216_136 ?_
                    rw [show ((o : Nat) : Int) + 3 = ((o + 3 : Nat) : Int) by omega]
                    refine w_less ?_ (IH10 _ (by omega) e (dgS l (p + 1) 1).1 (o + 3) (i + 1) (dgS l (p + 1) 1).2 rfl FRe ⟨dr.2.1, by omega, by omega⟩ PW TF1 (by
                        rw [E2, st]
                        rcases dr.2.2.1 with z | z
                        · exact Or.inl ⟨z, by rw [if_neg (by omega)]; rfl⟩
                        · exact Or.inr ⟨z, by rw [if_pos (by omega)]⟩))
                    exact ⟨Or.inr rfl, Or.inr rfl, Or.inl rfl, Or.inl rfl, trivial⟩
                · refine w_aload_n d216_81 rfl ?_
                  refine w_callv1 d216_82 (by omega) rfl (oke.kd hm) (by simp) (Nat.le_of_ble_eq_true rfl) ?_
                  refine k_M_byteHere oke (by omega) hm RQ PW ?_
                  refine w_bipush d216_85 (by decide) ?_
                  refine w_bipush d216_87 (by decide) ?_
                  refine w_calls3 d216_89 (by omega) rfl rfl (by simp) (Nat.le_of_ble_eq_true rfl) ?_
                  refine k_M_in (by omega) ?_
                  refine w_ifne d216_92 (fun c92 => ?_) (fun c92 => ?_)
                  · have dg : pDig l (dgS l (p + 1) k).1 = true := dig_h.mpr (by
                      by_cases z : 48 ≤ bHe l (dgS l (p + 1) k).1 ∧ bHe l (dgS l (p + 1) k).1 ≤ 57
                      · exact z
                      · rw [decide_eq_false z] at c92; exact absurd rfl c92)
                    have es : (dgS l (p + 1) (k + 1)) = ((dgS l (p + 1) k).1 + 1, -1) := by rw [dgS, if_neg (by omega), if_pos dg]
                    refine w_aload_n d216_106 rfl ?_
                    refine w_dupR d216_107 ?_
                    refine w_getI (x := (((dgS l (p + 1) k).1 : Nat) : Int)) d216_108 (oke.kd hm) PW.1 ?_
                    refine w_iconst d216_111 (by decide) ?_
                    refine w_iadd d216_112 (by constructor <;> omega) ?_
                    refine wf1740 d216_113 oke hm (by omega) (fun h113 e113 m113 => ?_)
                    have f113 : Fr S m [1740] _ _ := Fr.wF oke m113 (FK.pI e113)
                    have ok113 := f113.ok
                    have FR113 := Fr.tr (F := [1740, 1738, 1761]) FRe f113 (by decide) (by decide)
                    have RQ := RQ.r f113 hm
                    have TF1 := (f113.i 1761).trans TF1
                    have PW : PwR h113 m (dgS l (p + 1) (k + 1)).1 (dgS l (p + 1) (k + 1)).2 := by rw [es]; exact ⟨by rw [e113, FI_sFI, if_pos ⟨rfl, rfl⟩]; rfl, (f113.i 1738 (by decide)).trans (PW.2.trans (by have := dgS_rg (p := p + 1) (show p + 1 ≤ l.length by omega) k; omega))⟩
                    refine w_iinc3 d216_116 rfl (by constructor <;> omega) ?_
                    refine w_goto d216_119 ?_
                    rw [show ((k : Nat) : Int) + 1 = ((k + 1 : Nat) : Int) by omega]
                    refine w_less ?_ (IH59 _ (by omega) h113 (k + 1) rfl FR113 (by omega) PW TF1)
                    exact ⟨Or.inr rfl, Or.inr rfl, Or.inr rfl, Or.inr rfl, trivial⟩
                  · have dg : ¬ pDig l (dgS l (p + 1) k).1 = true := fun z => by rw [decide_eq_true (dig_h.mp z)] at c92; exact absurd c92 (by decide)
                    have es : (dgS l (p + 1) (k + 1)) = ((dgS l (p + 1) k).1, ((dgS l (p + 1) k).1 : Int)) := by rw [dgS, if_neg (by omega), if_neg dg]
                    refine w_aload_n d216_95 rfl ?_
                    refine w_aload_n d216_96 rfl ?_
                    refine w_getI (x := (((dgS l (p + 1) k).1 : Nat) : Int)) d216_97 (oke.kd hm) PW.1 ?_
                    refine wf1738 d216_100 oke hm (by omega) (fun h100 e100 m100 => ?_)
                    have f100 : Fr S m [1738] _ _ := Fr.wF oke m100 (FK.pI e100)
                    have ok100 := f100.ok
                    have FR100 := Fr.tr (F := [1740, 1738, 1761]) FRe f100 (by decide) (by decide)
                    have RQ := RQ.r f100 hm
                    have TF1 := (f100.i 1761).trans TF1
                    have PW : PwR h100 m (dgS l (p + 1) (k + 1)).1 (dgS l (p + 1) (k + 1)).2 := by rw [es]; exact ⟨(f100.i 1740 (by decide)).trans PW.1, by rw [e100, FI_sFI, if_pos ⟨rfl, rfl⟩]⟩
                    refine w_goto d216_103 ?_
                    refine w_iinc3 d216_116 rfl (by constructor <;> omega) ?_
                    refine w_goto d216_119 ?_
                    rw [show ((k : Nat) : Int) + 1 = ((k + 1 : Nat) : Int) by omega]
                    refine w_less ?_ (IH59 _ (by omega) h100 (k + 1) rfl FR100 (by omega) PW TF1)
                    exact ⟨Or.inr rfl, Or.inr rfl, Or.inr rfl, Or.inr rfl, trivial⟩
          refine w_less ?_ (L59 _ h54 0 rfl FR54 (Nat.zero_le _) PW TF1)
          exact ⟨Or.inr rfl, Or.inr rfl, Or.inr rfl, Or.inr rfl, trivial⟩
        · refine w_iload_n d216_32 rfl ?_
          refine w_bipush d216_33 (by decide) ?_
          refine w_icmpeq d216_35 (fun c35 => ?_) (fun c35 => ?_)
          · have sg : pSign l 33 p = true := sgn_h.mpr (by omega)
            have pl := pSign_lt sg
            refine w_aload_n d216_47 rfl ?_
            refine w_dupR d216_48 ?_
            refine w_getI (x := ((p : Nat) : Int)) d216_49 (okg.kd hm) PW.1 ?_
            refine w_iconst d216_52 (by decide) ?_
            refine w_iadd d216_53 (by constructor <;> omega) ?_
            refine wf1740 d216_54 okg hm (by omega) (fun h54 e54 m54 => ?_)
            have f54 : Fr S m [1740] _ _ := Fr.wF okg m54 (FK.pI e54)
            have ok54 := f54.ok
            have FR54 := Fr.tr (F := [1740, 1738, 1761]) FRg f54 (by decide) (by decide)
            have RQ := RQ.r f54 hm
            have TF1 := (f54.i 1761).trans TF1
            have PW : PwR h54 m (dgS l (p + 1) 0).1 (dgS l (p + 1) 0).2 := ⟨by rw [e54, FI_sFI, if_pos ⟨rfl, rfl⟩]; rfl, (f54.i 1738 (by decide)).trans PW.2⟩
            refine w_iconst d216_57 (by decide) ?_
            refine w_istore3 d216_58 rfl ?_
            have L59 : ∀ (m59 : Nat) (e : Hp) (k : Nat), 2 - k = m59 → Fr S m [1740, 1738, 1761] h e → (k ≤ 2) → (PwR e m (dgS l (p + 1) k).1 (dgS l (p + 1) k).2) → (FI e 1761 m = ((a : Nat) : Int)) → Wp G d 216 59 [some (vR (some m)), some (vI (o : Nat)), some (vI (bHe l p)), some (vI (k : Nat))] [] e Q := by
              intro m59
              induction m59 using Nat.strongRecOn with | ind m59 IH59 => ?_
              intro e k hm59 FRe kn PW TF1
              have oke := FRe.ok
              have RQ := RQ_0.r FRe hm
              have drk := dgS_rg (p := p + 1) (show p + 1 ≤ l.length by omega) k
              refine w_iload_n d216_59 rfl ?_
              refine w_iload_n d216_60 rfl ?_
              refine w_bipush d216_61 (by decide) ?_
              refine w_icmpne d216_63 (fun c63 => ?_) (fun c63 => ?_)
              · refine w_iconst d216_70 (by decide) ?_
                refine w_icmpge d216_71 (fun c71 => ?_) (fun c71 => ?_)
                · have ek : k = 2 := by omega
                  rw [ek] at PW
                  have dr := dgS_rg (p := p + 1) (show p + 1 ≤ l.length by omega) 2
                  have st := pTr_x (l := l) (f := 4096 - i) (o := o) (a := p) (by omega) (by omega) sg
                  refine w_iload_n d216_122 rfl ?_
                  refine w_iload_n d216_123 rfl ?_
                  refine w_bipush d216_124 (by decide) ?_
                  refine w_icmpne d216_126 (fun c126 => ?_) (fun c126 => ?_)
                  · refine w_iconst d216_133 (by decide) ?_
                    refine w_iadd d216_134 (by constructor <;> omega) ?_
                    refine w_istore1 d216_135 rfl ?_
                    refine w_goto d216_136 ?_
                    rw [show ((o : Nat) : Int) + (-1) = ((o - 1 : Nat) : Int) by omega]
                    refine w_less ?_ (IH10 _ (by omega) e (dgS l (p + 1) 2).1 (o - 1) (i + 1) (dgS l (p + 1) 2).2 rfl FRe ⟨dr.2.1, by omega, by omega⟩ PW TF1 (by
                        rw [E2, st]
                        rcases dr.2.2.1 with z | z
                        · exact Or.inl ⟨z, by rw [if_neg (by omega)]; rfl⟩
                        · exact Or.inr ⟨z, by rw [if_pos (by omega)]⟩))
                    exact ⟨Or.inr rfl, Or.inr rfl, Or.inl rfl, Or.inl rfl, trivial⟩
                  · omega
                · refine w_aload_n d216_74 rfl ?_
                  refine w_getI (x := (dgS l (p + 1) k).2) d216_75 (oke.kd hm) PW.2 ?_
                  refine w_ifge d216_78 (fun c78 => ?_) (fun c78 => ?_)
                  · have ek := dgS_stay (l := l) (p := p + 1) (k := k) (by omega) (2 - k)
                    rw [show k + (2 - k) = 2 by omega] at ek
                    rw [← ek] at PW
                    have dr := dgS_rg (p := p + 1) (show p + 1 ≤ l.length by omega) 2
                    have st := pTr_x (l := l) (f := 4096 - i) (o := o) (a := p) (by omega) (by omega) sg
                    refine w_iload_n d216_122 rfl ?_
                    refine w_iload_n d216_123 rfl ?_
                    refine w_bipush d216_124 (by decide) ?_
                    refine w_icmpne d216_126 (fun c126 => ?_) (fun c126 => ?_)
                    · refine w_iconst d216_133 (by decide) ?_
                      refine w_iadd d216_134 (by constructor <;> omega) ?_
                      refine w_istore1 d216_135 rfl ?_
                      refine w_goto d216_136 ?_
                      rw [show ((o : Nat) : Int) + (-1) = ((o - 1 : Nat) : Int) by omega]
                      refine w_less ?_ (IH10 _ (by omega) e (dgS l (p + 1) 2).1 (o - 1) (i + 1) (dgS l (p + 1) 2).2 rfl FRe ⟨dr.2.1, by omega, by omega⟩ PW TF1 (by
                          rw [E2, st]
                          rcases dr.2.2.1 with z | z
                          · exact Or.inl ⟨z, by rw [if_neg (by omega)]; rfl⟩
                          · exact Or.inr ⟨z, by rw [if_pos (by omega)]⟩))
                      exact ⟨Or.inr rfl, Or.inr rfl, Or.inl rfl, Or.inl rfl, trivial⟩
                    · omega
                  · refine w_aload_n d216_81 rfl ?_
                    refine w_callv1 d216_82 (by omega) rfl (oke.kd hm) (by simp) (Nat.le_of_ble_eq_true rfl) ?_
                    refine k_M_byteHere oke (by omega) hm RQ PW ?_
                    refine w_bipush d216_85 (by decide) ?_
                    refine w_bipush d216_87 (by decide) ?_
                    refine w_calls3 d216_89 (by omega) rfl rfl (by simp) (Nat.le_of_ble_eq_true rfl) ?_
                    refine k_M_in (by omega) ?_
                    refine w_ifne d216_92 (fun c92 => ?_) (fun c92 => ?_)
                    · have dg : pDig l (dgS l (p + 1) k).1 = true := dig_h.mpr (by
                        by_cases z : 48 ≤ bHe l (dgS l (p + 1) k).1 ∧ bHe l (dgS l (p + 1) k).1 ≤ 57
                        · exact z
                        · rw [decide_eq_false z] at c92; exact absurd rfl c92)
                      have es : (dgS l (p + 1) (k + 1)) = ((dgS l (p + 1) k).1 + 1, -1) := by rw [dgS, if_neg (by omega), if_pos dg]
                      refine w_aload_n d216_106 rfl ?_
                      refine w_dupR d216_107 ?_
                      refine w_getI (x := (((dgS l (p + 1) k).1 : Nat) : Int)) d216_108 (oke.kd hm) PW.1 ?_
                      refine w_iconst d216_111 (by decide) ?_
                      refine w_iadd d216_112 (by constructor <;> omega) ?_
                      refine wf1740 d216_113 oke hm (by omega) (fun h113 e113 m113 => ?_)
                      have f113 : Fr S m [1740] _ _ := Fr.wF oke m113 (FK.pI e113)
                      have ok113 := f113.ok
                      have FR113 := Fr.tr (F := [1740, 1738, 1761]) FRe f113 (by decide) (by decide)
                      have RQ := RQ.r f113 hm
                      have TF1 := (f113.i 1761).trans TF1
                      have PW : PwR h113 m (dgS l (p + 1) (k + 1)).1 (dgS l (p + 1) (k + 1)).2 := by rw [es]; exact ⟨by rw [e113, FI_sFI, if_pos ⟨rfl, rfl⟩]; rfl, (f113.i 1738 (by decide)).trans (PW.2.trans (by have := dgS_rg (p := p + 1) (show p + 1 ≤ l.length by omega) k; omega))⟩
                      refine w_iinc3 d216_116 rfl (by constructor <;> omega) ?_
                      refine w_goto d216_119 ?_
                      rw [show ((k : Nat) : Int) + 1 = ((k + 1 : Nat) : Int) by omega]
                      refine w_less ?_ (IH59 _ (by omega) h113 (k + 1) rfl FR113 (by omega) PW TF1)
                      exact ⟨Or.inr rfl, Or.inr rfl, Or.inr rfl, Or.inr rfl, trivial⟩
                    · have dg : ¬ pDig l (dgS l (p + 1) k).1 = true := fun z => by rw [decide_eq_true (dig_h.mp z)] at c92; exact absurd c92 (by decide)
                      have es : (dgS l (p + 1) (k + 1)) = ((dgS l (p + 1) k).1, ((dgS l (p + 1) k).1 : Int)) := by rw [dgS, if_neg (by omega), if_neg dg]
                      refine w_aload_n d216_95 rfl ?_
                      refine w_aload_n d216_96 rfl ?_
                      refine w_getI (x := (((dgS l (p + 1) k).1 : Nat) : Int)) d216_97 (oke.kd hm) PW.1 ?_
                      refine wf1738 d216_100 oke hm (by omega) (fun h100 e100 m100 => ?_)
                      have f100 : Fr S m [1738] _ _ := Fr.wF oke m100 (FK.pI e100)
                      have ok100 := f100.ok
                      have FR100 := Fr.tr (F := [1740, 1738, 1761]) FRe f100 (by decide) (by decide)
                      have RQ := RQ.r f100 hm
                      have TF1 := (f100.i 1761).trans TF1
                      have PW : PwR h100 m (dgS l (p + 1) (k + 1)).1 (dgS l (p + 1) (k + 1)).2 := by rw [es]; exact ⟨(f100.i 1740 (by decide)).trans PW.1, by rw [e100, FI_sFI, if_pos ⟨rfl, rfl⟩]⟩
                      refine w_goto d216_103 ?_
                      refine w_iinc3 d216_116 rfl (by constructor <;> omega) ?_
                      refine w_goto d216_119 ?_
                      rw [show ((k : Nat) : Int) + 1 = ((k + 1 : Nat) : Int) by omega]
                      refine w_less ?_ (IH59 _ (by omega) h100 (k + 1) rfl FR100 (by omega) PW TF1)
                      exact ⟨Or.inr rfl, Or.inr rfl, Or.inr rfl, Or.inr rfl, trivial⟩
              · omega
            refine w_less ?_ (L59 _ h54 0 rfl FR54 (Nat.zero_le _) PW TF1)
            exact ⟨Or.inr rfl, Or.inr rfl, Or.inr rfl, Or.inr rfl, trivial⟩
          · have ev := E2.trans (pTr_n2 (by omega) c29 c35)
            rw [ev] at kk
            refine w_aload_n d216_38 rfl ?_
            refine w_aload_n d216_39 rfl ?_
            refine w_getI (x := ((p : Nat) : Int)) d216_40 (okg.kd hm) PW.1 ?_
            have PW_g := PW
            refine wf1738 d216_43 okg hm (by omega) (fun h43 e43 m43 => ?_)
            have f43 : Fr S m [1738] _ _ := Fr.wF okg m43 (FK.pI e43)
            have ok43 := f43.ok
            have FR43 := Fr.tr (F := [1740, 1738, 1761]) FRg f43 (by decide) (by decide)
            have RQ := RQ.r f43 hm
            have TF1 := (f43.i 1761).trans TF1
            refine w_return d216_46 ?_
            exact kk h43 FR43 RQ ⟨(f43.i 1740 (by decide)).trans PW_g.1, by rw [e43, FI_sFI, if_pos ⟨rfl, rfl⟩]; rfl⟩ TF1
  refine w_less ?_ (L10 _ h5 a 1 0 (-1) rfl FR5 ⟨hal, Nat.zero_le _, Nat.le_refl _⟩ PW TF1 (Or.inl ⟨rfl, rfl⟩))
  exact ⟨Or.inr rfl, Or.inr rfl, Or.inl rfl, Or.inl rfl, trivial⟩
