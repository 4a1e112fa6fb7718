/-! the reference: a request is written -/
theorem d234_0 : dc 234 0 = some (.aload_n 0, 1) := by decide +kernel
theorem d234_1 : dc 234 1 = some (.getfield 1739, 4) := by decide +kernel
theorem d234_4 : dc 234 4 = some (.ifCond .ne ((22 : Nat) : Int), 7) := by decide +kernel
theorem d234_7 : dc 234 7 = some (.aload_n 0, 8) := by decide +kernel
theorem d234_8 : dc 234 8 = some (.iconst 0, 9) := by decide +kernel
theorem d234_9 : dc 234 9 = some (.invokevirtual 235, 12) := by decide +kernel
theorem d234_12 : dc 234 12 = some (.aload_n 0, 13) := by decide +kernel
theorem d234_13 : dc 234 13 = some (.iconst 0, 14) := by decide +kernel
theorem d234_14 : dc 234 14 = some (.putfield 1735, 17) := by decide +kernel
theorem d234_17 : dc 234 17 = some (.aload_n 0, 18) := by decide +kernel
theorem d234_18 : dc 234 18 = some (.iconst 0, 19) := by decide +kernel
theorem d234_19 : dc 234 19 = some (.putstatic 1736, 22) := by decide +kernel
theorem d234_22 : dc 234 22 = some (.aload_n 0, 23) := by decide +kernel
theorem d234_23 : dc 234 23 = some (.aload_n 0, 24) := by decide +kernel
theorem d234_24 : dc 234 24 = some (.getfield 1735, 27) := by decide +kernel
theorem d234_27 : dc 234 27 = some (.putfield 1737, 30) := by decide +kernel
theorem d234_30 : dc 234 30 = some (.aload_n 0, 31) := by decide +kernel
theorem d234_31 : dc 234 31 = some (.dload 1734, 34) := by decide +kernel
theorem d234_34 : dc 234 34 = some (.aload_n 0, 35) := by decide +kernel
theorem d234_35 : dc 234 35 = some (.getfield 1735, 38) := by decide +kernel
theorem d234_38 : dc 234 38 = some (.aload_n 0, 39) := by decide +kernel
theorem d234_39 : dc 234 39 = some (.getfield 1731, 42) := by decide +kernel
theorem d234_42 : dc 234 42 = some (.iastore, 43) := by decide +kernel
theorem d234_43 : dc 234 43 = some (.iconst 0, 44) := by decide +kernel
theorem d234_44 : dc 234 44 = some (.istore_n 1, 45) := by decide +kernel
theorem d234_45 : dc 234 45 = some (.iload_n 1, 46) := by decide +kernel
theorem d234_46 : dc 234 46 = some (.aload_n 0, 47) := by decide +kernel
theorem d234_47 : dc 234 47 = some (.getfield 1731, 50) := by decide +kernel
theorem d234_50 : dc 234 50 = some (.if_icmp .ge ((78 : Nat) : Int), 53) := by decide +kernel
theorem d234_53 : dc 234 53 = some (.aload_n 0, 54) := by decide +kernel
theorem d234_54 : dc 234 54 = some (.dload 1734, 57) := by decide +kernel
theorem d234_57 : dc 234 57 = some (.aload_n 0, 58) := by decide +kernel
theorem d234_58 : dc 234 58 = some (.getfield 1735, 61) := by decide +kernel
theorem d234_61 : dc 234 61 = some (.iconst 1, 62) := by decide +kernel
theorem d234_62 : dc 234 62 = some (.iadd, 63) := by decide +kernel
theorem d234_63 : dc 234 63 = some (.iload_n 1, 64) := by decide +kernel
theorem d234_64 : dc 234 64 = some (.iadd, 65) := by decide +kernel
theorem d234_65 : dc 234 65 = some (.aload_n 0, 66) := by decide +kernel
theorem d234_66 : dc 234 66 = some (.dload 1730, 69) := by decide +kernel
theorem d234_69 : dc 234 69 = some (.iload_n 1, 70) := by decide +kernel
theorem d234_70 : dc 234 70 = some (.iaload, 71) := by decide +kernel
theorem d234_71 : dc 234 71 = some (.iastore, 72) := by decide +kernel
theorem d234_72 : dc 234 72 = some (.iinc 1 1, 75) := by decide +kernel
theorem d234_75 : dc 234 75 = some (.goto ((45 : Nat) : Int), 78) := by decide +kernel
theorem d234_78 : dc 234 78 = some (.aload_n 0, 79) := by decide +kernel
theorem d234_79 : dc 234 79 = some (.dload 1734, 82) := by decide +kernel
theorem d234_82 : dc 234 82 = some (.aload_n 0, 83) := by decide +kernel
theorem d234_83 : dc 234 83 = some (.getfield 1735, 86) := by decide +kernel
theorem d234_86 : dc 234 86 = some (.iconst 1, 87) := by decide +kernel
theorem d234_87 : dc 234 87 = some (.iadd, 88) := by decide +kernel
theorem d234_88 : dc 234 88 = some (.aload_n 0, 89) := by decide +kernel
theorem d234_89 : dc 234 89 = some (.getfield 1731, 92) := by decide +kernel
theorem d234_92 : dc 234 92 = some (.iadd, 93) := by decide +kernel
theorem d234_93 : dc 234 93 = some (.aload_n 0, 94) := by decide +kernel
theorem d234_94 : dc 234 94 = some (.invokevirtual 236, 97) := by decide +kernel
theorem d234_97 : dc 234 97 = some (.iastore, 98) := by decide +kernel
theorem d234_98 : dc 234 98 = some (.aload_n 0, 99) := by decide +kernel
theorem d234_99 : dc 234 99 = some (.dup, 100) := by decide +kernel
theorem d234_100 : dc 234 100 = some (.getfield 1735, 103) := by decide +kernel
theorem d234_103 : dc 234 103 = some (.aload_n 0, 104) := by decide +kernel
theorem d234_104 : dc 234 104 = some (.getfield 1731, 107) := by decide +kernel
theorem d234_107 : dc 234 107 = some (.iconst 2, 108) := by decide +kernel
theorem d234_108 : dc 234 108 = some (.iadd, 109) := by decide +kernel
theorem d234_109 : dc 234 109 = some (.iadd, 110) := by decide +kernel
theorem d234_110 : dc 234 110 = some (.putfield 1735, 113) := by decide +kernel
theorem d234_113 : dc 234 113 = some (.return_, 114) := by decide +kernel
theorem k_M_write {S : Shp} {G : Nat → Option Nat} {d : Nat} {h : Hp} {Q : Option MV → Hp → Prop} {m : Nat} {l : List Nat} {kd sh : Int} {u : Nat} {B : Nat → Nat} (ok : Ok S h) (h1 : 2 ≤ d) (hm : sK S m = 14) (RQ : RqR S h m l) (KI : FI h 1739 m = kd) (US : FI h 1735 m = ((u : Nat) : Int)) (BO : ArI S h m 1734 (fun j => ((B j : Nat) : Int)) 2048) (SH : FI h 1736 m = sh) (hl : l.length ≤ 200) (hr : (if kd = 0 then 0 else u) + l.length + 2 ≤ 2048)
    (kk : ∀ h', Fr S m [1734, 1735, 1736, 1737] h h' → ArI S h' m 1734 (fun j => ((wrB (if kd = 0 then fun _ => 0 else B) (if kd = 0 then 0 else u) l j : Nat) : Int)) 2048 → FI h' 1735 m = (((if kd = 0 then 0 else u) + (l.length + 2) : Nat) : Int) → FI h' 1737 m = (((if kd = 0 then 0 else u) : Nat) : Int) → FI h' 1736 m = (if kd = 0 then 0 else sh) → Q none h') : Cl G d 234 [vR (some m)] h Q := by
  show Wp G d 234 0 [some (vR (some m)), none] [] h Q
  have RQ_0 := RQ
  have KI_0 := KI
  have US_0 := US
  have BO_0 := BO
  have SH_0 := SH
  refine w_aload_n d234_0 rfl ?_
  refine w_getI (x := kd) d234_1 (ok.kd hm) KI ?_
  have L22 : ∀ (m22 : Nat) (b : Hp) (B0 : Nat → Nat) (U : Nat) (sh0 : Int), 0 = m22 → Fr S m [1734, 1735, 1736, 1737] h b → (B0 = (if kd = 0 then fun _ => 0 else B)) → (U = (if kd = 0 then 0 else u)) → (sh0 = (if kd = 0 then 0 else sh)) → (ArI S b m 1734 (fun j => ((B0 j : Nat) : Int)) 2048) → (FI b 1735 m = ((U : Nat) : Int)) → (FI b 1736 m = sh0) → Wp G d 234 22 [some (vR (some m)), none] [] b Q := by
    intro m22
    induction m22 using Nat.strongRecOn with | ind m22 IH22 => ?_
    intro b B0 U sh0 hm22 FRb eB eU eS BO US SH
    have okb := FRb.ok
    have RQ := RQ_0.r FRb hm
    have KI := (FRb.i 1739).trans KI_0
    rw [← eU] at hr
    refine w_aload_n d234_22 rfl ?_
    refine w_aload_n d234_23 rfl ?_
    refine w_getI (x := ((U : Nat) : Int)) d234_24 (okb.kd hm) US ?_
    refine wf1737 d234_27 okb hm (by omega) (fun h27 e27 m27 => ?_)
    have f27 : Fr S m [1737] _ _ := Fr.wF okb m27 (FK.pI e27)
    have ok27 := f27.ok
    have FR27 := Fr.tr (F := [1734, 1735, 1736, 1737]) FRb f27 (by decide) (by decide)
    have RQ := RQ.r f27 hm
    have KI := (f27.i 1739).trans KI
    have BO := BO.r f27 hm
    have US := (f27.i 1735).trans US
    have SH := (f27.i 1736).trans SH
    have LT : FI h27 1737 m = ((U : Nat) : Int) := by rw [e27, FI_sFI, if_pos ⟨rfl, rfl⟩]
    refine w_aload_n d234_30 rfl ?_
    refine w_dloadS d234_31 (ok27.kd hm) (fr1734 ok27 hm) ?_
    refine w_aload_n d234_34 rfl ?_
    refine w_getI (x := ((U : Nat) : Int)) d234_35 (ok27.kd hm) US ?_
    refine w_aload_n d234_38 rfl ?_
    refine w_getI (x := ((l.length : Nat) : Int)) d234_39 (ok27.kd hm) RQ.1 ?_
    have BO1 := BO
    refine wa1734 d234_42 ok27 hm (by omega) (by omega) (fun h42 e42 m42 => ?_)
    have e42 : h42 = sAI h27 (sT S 1734 m) U ((l.length : Nat) : Int) := e42
    have f42 : Fr S m [1734] _ _ := Fr.wB ok27 hm m42 (fun ζ e => ⟨1734, by decide, by decide, e ▸ U_refl⟩)
    have ok42 := f42.ok
    have FR42 := Fr.tr (F := [1734, 1735, 1736, 1737]) FR27 f42 (by decide) (by decide)
    have RQ := RQ.r f42 hm
    have KI := (f42.i 1739).trans KI
    have US := (f42.i 1735).trans US
    have SH := (f42.i 1736).trans SH
    have LT := (f42.i 1737).trans LT
    refine w_iconst d234_43 (by decide) ?_
    refine w_istore1 d234_44 rfl ?_
    have L45 : ∀ (m45 : Nat) (g : Hp) (i : Nat), l.length - i = m45 → Fr S m [1734, 1735, 1736, 1737] h g → (i ≤ l.length) → (∀ j, j < 2048 → AI g (sT S 1734 m) j = if j = U then ((l.length : Nat) : Int) else if U + 1 ≤ j ∧ j < U + 1 + i then ((l.getD (j - (U + 1)) 0 : Nat) : Int) else ((B0 j : Nat) : Int)) → (FI g 1735 m = ((U : Nat) : Int)) → (FI g 1736 m = sh0) → (FI g 1737 m = ((U : Nat) : Int)) → Wp G d 234 45 [some (vR (some m)), some (vI (i : Nat))] [] g Q := by
      intro m45
      induction m45 using Nat.strongRecOn with | ind m45 IH45 => ?_
      intro g i hm45 FRg il hc US SH LT
      have okg := FRg.ok
      have RQ := RQ_0.r FRg hm
      have KI := (FRg.i 1739).trans KI_0
      refine w_iload_n d234_45 rfl ?_
      refine w_aload_n d234_46 rfl ?_
      refine w_getI (x := ((l.length : Nat) : Int)) d234_47 (okg.kd hm) RQ.1 ?_
      refine w_icmpge d234_50 (fun c50 => ?_) (fun c50 => ?_)
      · have ei : i = l.length := by omega
        refine w_aload_n d234_78 rfl ?_
        refine w_dloadS d234_79 (okg.kd hm) (fr1734 okg hm) ?_
        refine w_aload_n d234_82 rfl ?_
        refine w_getI (x := ((U : Nat) : Int)) d234_83 (okg.kd hm) US ?_
        refine w_iconst d234_86 (by decide) ?_
        refine w_iadd d234_87 (by constructor <;> omega) ?_
        refine w_aload_n d234_88 rfl ?_
        refine w_getI (x := ((l.length : Nat) : Int)) d234_89 (okg.kd hm) RQ.1 ?_
        refine w_iadd d234_92 (by constructor <;> omega) ?_
        rw [show ((U : Nat) : Int) + 1 + ((l.length : Nat) : Int) = ((U + 1 + l.length : Nat) : Int) by omega]
        have sm := smF_lt l l.length
        refine w_aload_n d234_93 rfl ?_
        refine w_callv1 d234_94 (by omega) rfl (okg.kd hm) (by simp) (Nat.le_of_ble_eq_true rfl) ?_
        refine k_M_sumOfRequest okg (by omega) hm RQ ?_
        refine wa1734 d234_97 okg hm (by omega) (by omega) (fun h97 e97 m97 => ?_)
        have e97 : h97 = sAI g (sT S 1734 m) (U + 1 + l.length) ((smF l l.length + 1 : Nat) : Int) := e97
        have f97 : Fr S m [1734] _ _ := Fr.wB okg hm m97 (fun ζ e => ⟨1734, by decide, by decide, e ▸ U_refl⟩)
        have ok97 := f97.ok
        have FR97 := Fr.tr (F := [1734, 1735, 1736, 1737]) FRg f97 (by decide) (by decide)
        have US := (f97.i 1735).trans US
        have SH := (f97.i 1736).trans SH
        have LT := (f97.i 1737).trans LT
        have RQ := RQ.r f97 hm
        have KI := (f97.i 1739).trans KI
        refine w_aload_n d234_98 rfl ?_
        refine w_dupR d234_99 ?_
        refine w_getI (x := ((U : Nat) : Int)) d234_100 (ok97.kd hm) US ?_
        refine w_aload_n d234_103 rfl ?_
        refine w_getI (x := ((l.length : Nat) : Int)) d234_104 (ok97.kd hm) RQ.1 ?_
        refine w_iconst d234_107 (by decide) ?_
        refine w_iadd d234_108 (by constructor <;> omega) ?_
        refine w_iadd d234_109 (by constructor <;> omega) ?_
        refine wf1735 d234_110 ok97 hm (by omega) (fun h110 e110 m110 => ?_)
        have f110 : Fr S m [1735] _ _ := Fr.wF ok97 m110 (FK.pI e110)
        have ok110 := f110.ok
        have FR110 := Fr.tr (F := [1734, 1735, 1736, 1737]) FR97 f110 (by decide) (by decide)
        have SH := (f110.i 1736).trans SH
        have LT := (f110.i 1737).trans LT
        have RQ := RQ.r f110 hm
        have KI := (f110.i 1739).trans KI
        refine w_return d234_113 ?_
        rw [← eB, ← eU] at kk
        refine kk h110 FR110 (fun j hj => ?_) ?_ LT (by rw [← eS]; exact SH)
        · rw [f110.ai (by have := kT1734 ok hm; omega) (by decide) (by decide) (by decide), e97, sArr]
          unfold wrB
          dsimp only
          by_cases q : j = U + 1 + l.length
          · rw [if_pos q, if_neg (by omega), if_neg (by omega), if_pos q]
          · rw [if_neg q, hc j hj, ei, if_neg q]
            by_cases q1 : j = U
            · rw [if_pos q1, if_pos q1]
            · rw [if_neg q1, if_neg q1]
              by_cases q2 : U + 1 ≤ j ∧ j < U + 1 + l.length
              · rw [if_pos q2, if_pos q2]
              · rw [if_neg q2, if_neg q2]
        · rw [e110, FI_sFI, if_pos ⟨rfl, rfl⟩]; omega
      · have hi : i < l.length := by omega
        have rc := ra1730 okg hm i
        rw [RQ.2.2.at0 hi] at rc
        refine w_aload_n d234_53 rfl ?_
        refine w_dloadS d234_54 (okg.kd hm) (fr1734 okg hm) ?_
        refine w_aload_n d234_57 rfl ?_
        refine w_getI (x := ((U : Nat) : Int)) d234_58 (okg.kd hm) US ?_
        refine w_iconst d234_61 (by decide) ?_
        refine w_iadd d234_62 (by constructor <;> omega) ?_
        refine w_iload_n d234_63 rfl ?_
        refine w_iadd d234_64 (by constructor <;> omega) ?_
        rw [show ((U : Nat) : Int) + 1 + ((i : Nat) : Int) = ((U + 1 + i : Nat) : Int) by omega]
        refine w_aload_n d234_65 rfl ?_
        refine w_dloadS d234_66 (okg.kd hm) (fr1730 okg hm) ?_
        refine w_iload_n d234_69 rfl ?_
        refine w_ialoadV (x := ((l.getD i 0 : Nat) : Int)) d234_70 (gi1730 okg hm (by omega)) (RQ.2.2.at0 hi) ?_
        refine wa1734 d234_71 okg hm (by omega) (by omega) (fun h71 e71 m71 => ?_)
        have e71 : h71 = sAI g (sT S 1734 m) (U + 1 + i) ((l.getD i 0 : Nat) : Int) := e71
        have f71 : Fr S m [1734] _ _ := Fr.wB okg hm m71 (fun ζ e => ⟨1734, by decide, by decide, e ▸ U_refl⟩)
        have ok71 := f71.ok
        have FR71 := Fr.tr (F := [1734, 1735, 1736, 1737]) FRg f71 (by decide) (by decide)
        have US := (f71.i 1735).trans US
        have SH := (f71.i 1736).trans SH
        have LT := (f71.i 1737).trans LT
        have RQ := RQ.r f71 hm
        have KI := (f71.i 1739).trans KI
        refine w_iinc1 d234_72 rfl (by constructor <;> omega) ?_
        refine w_goto d234_75 ?_
        rw [show ((i : Nat) : Int) + 1 = ((i + 1 : Nat) : Int) by omega]
        refine w_less ?_ (IH45 _ (by omega) h71 (i + 1) rfl FR71 (by omega) (fun j hj => by rw [e71, sArr]; by_cases q : j = U + 1 + i; rw [if_pos q, if_neg (by omega), if_pos (by omega), show j - (U + 1) = i by omega]; rw [if_neg q, hc j hj]; by_cases q1 : j = U; rw [if_pos q1, if_pos q1]; rw [if_neg q1, if_neg q1]; by_cases q2 : U + 1 ≤ j ∧ j < U + 1 + i; rw [if_pos q2, if_pos (by omega)]; rw [if_neg q2, if_neg (by omega)]) US SH LT)
        exact ⟨Or.inr rfl, Or.inr rfl, trivial⟩
    refine w_less ?_ (L45 _ h42 0 rfl FR42 (Nat.zero_le _) (fun j hj => by rw [e42, sArr]; by_cases q : j = U; rw [if_pos q, if_pos q]; rw [if_neg q, if_neg q, if_neg (by omega)]; exact BO1 j hj) US SH LT)
    exact ⟨Or.inr rfl, Or.inr rfl, trivial⟩
  refine w_ifne d234_4 (fun c4 => ?_) (fun c4 => ?_)
  · have k0 : ¬ kd = 0 := c4
    refine w_less ?_ (L22 _ h B u sh rfl (Fr.refl ok) (by rw [if_neg k0]) (by rw [if_neg k0]) (by rw [if_neg k0]) BO US SH)
    exact ⟨Or.inr rfl, Or.inl rfl, trivial⟩
  · have k0 : kd = 0 := by omega
    refine w_aload_n d234_7 rfl ?_
    refine w_iconst d234_8 (by decide) ?_
    refine w_callv2 d234_9 (by omega) rfl (ok.kd hm) (by simp) (Nat.le_of_ble_eq_true rfl) ?_
    refine k_M_clearFrom (f := 0) ok (by omega) hm BO (by decide) (fun h9 f9 BO => ?_)
    have ok9 := f9.ok
    have FR9 := Fr.le (F := [1734, 1735, 1736, 1737]) f9 (by decide)
    have RQ := RQ.r f9 hm
    have KI := (f9.i 1739).trans KI
    have US := (f9.i 1735).trans US
    have SH := (f9.i 1736).trans SH
    have BO : ArI S h9 m 1734 (fun j => (((fun _ => 0 : Nat → Nat) j : Nat) : Int)) 2048 := fun j hj => by rw [BO j hj]; rfl
    refine w_aload_n d234_12 rfl ?_
    refine w_iconst d234_13 (by decide) ?_
    refine wf1735 d234_14 ok9 hm (by omega) (fun h14 e14 m14 => ?_)
    have f14 : Fr S m [1735] _ _ := Fr.wF ok9 m14 (FK.pI e14)
    have ok14 := f14.ok
    have FR14 := Fr.tr (F := [1734, 1735, 1736, 1737]) FR9 f14 (by decide) (by decide)
    have RQ := RQ.r f14 hm
    have KI := (f14.i 1739).trans KI
    have SH := (f14.i 1736).trans SH
    have BO := BO.r f14 hm
    have US : FI h14 1735 m = ((0 : Nat) : Int) := by rw [e14, FI_sFI, if_pos ⟨rfl, rfl⟩]; rfl
    refine w_aload_n d234_17 rfl ?_
    refine w_iconst d234_18 (by decide) ?_
    refine wf1736 d234_19 ok14 hm (by omega) (fun h19 e19 m19 => ?_)
    have f19 : Fr S m [1736] _ _ := Fr.wF ok14 m19 (FK.pI e19)
    have ok19 := f19.ok
    have FR19 := Fr.tr (F := [1734, 1735, 1736, 1737]) FR14 f19 (by decide) (by decide)
    have RQ := RQ.r f19 hm
    have KI := (f19.i 1739).trans KI
    have BO := BO.r f19 hm
    have US := (f19.i 1735).trans US
    have SH : FI h19 1736 m = 0 := by rw [e19, FI_sFI, if_pos ⟨rfl, rfl⟩]
    refine w_less ?_ (L22 _ h19 (fun _ => 0) 0 0 rfl FR19 (by rw [if_pos k0]) (by rw [if_pos k0]) (by rw [if_pos k0]) BO US SH)
    exact ⟨Or.inr rfl, Or.inl rfl, trivial⟩
