/-! the reference: a house is cleared; what has ended is counted -/
/-- needed targets that have ended -/
def dnC (nn : Nat) (E : Nat → Nat) : Nat → Nat
  | 0 => 0
  | t + 1 => dnC nn E t + (if nn / 2 ^ t % 2 = 1 ∧ 0 < E t then 1 else 0)
theorem dnC_le {nn : Nat} {E : Nat → Nat} : ∀ {t}, dnC nn E t ≤ t
  | 0 => Nat.le_refl _
  | t + 1 => by
    have := @dnC_le nn E t
    rw [dnC]
    split <;> omega
theorem ArI.s {S : Shp} {h h' : Hp} {m f t : Nat} (D : ArI S h m f (fun _ => 0) t) (e : h' = sAI h (sT S f m) t 0) : ArI S h' m f (fun _ => 0) (t + 1) := fun j hj => by
  rw [e, sArr]
  by_cases q : j = t
  · rw [if_pos q]
  · rw [if_neg q]; exact D j (by omega)
theorem ArI.z {S : Shp} {h : Hp} {m f : Nat} : ArI S h m f (fun _ => 0) 0 := fun _ hj => absurd hj (Nat.not_lt_zero _)
/-- kept outcomes let go -/
theorem KpR.nil {S : Shp} {h h' : Hp} {m : Nat} {ks : List (Int64 × OmV)} (D : KpR S h m ks) (e : AR h' (sT S 1703 m) = AR h (sT S 1703 m)) (e0 : FI h' 1701 m = 0) : KpR S h' m [] := by
  obtain ⟨a, b, σ, s1, s2, q⟩ := D
  exact ⟨e0, by decide, σ, fun i hi => by rw [e]; exact s1 i hi, s2, fun i hi => absurd hi (Nat.not_lt_zero _)⟩
theorem d339_0 : dc 339 0 = some (.iconst 0, 1) := by decide +kernel
theorem d339_1 : dc 339 1 = some (.istore_n 1, 2) := by decide +kernel
theorem d339_2 : dc 339 2 = some (.iconst 0, 3) := by decide +kernel
theorem d339_3 : dc 339 3 = some (.istore_n 2, 4) := by decide +kernel
theorem d339_4 : dc 339 4 = some (.iload_n 2, 5) := by decide +kernel
theorem d339_5 : dc 339 5 = some (.bipush 14, 7) := by decide +kernel
theorem d339_7 : dc 339 7 = some (.if_icmp .ge ((45 : Nat) : Int), 10) := by decide +kernel
theorem d339_10 : dc 339 10 = some (.iload_n 1, 11) := by decide +kernel
theorem d339_11 : dc 339 11 = some (.aload_n 0, 12) := by decide +kernel
theorem d339_12 : dc 339 12 = some (.getfield 1705, 15) := by decide +kernel
theorem d339_15 : dc 339 15 = some (.iload_n 2, 16) := by decide +kernel
theorem d339_16 : dc 339 16 = some (.ishr, 17) := by decide +kernel
theorem d339_17 : dc 339 17 = some (.iconst 1, 18) := by decide +kernel
theorem d339_18 : dc 339 18 = some (.iand, 19) := by decide +kernel
theorem d339_19 : dc 339 19 = some (.iconst 1, 20) := by decide +kernel
theorem d339_20 : dc 339 20 = some (.if_icmp .ne ((36 : Nat) : Int), 23) := by decide +kernel
theorem d339_23 : dc 339 23 = some (.aload_n 0, 24) := by decide +kernel
theorem d339_24 : dc 339 24 = some (.dload 1707, 27) := by decide +kernel
theorem d339_27 : dc 339 27 = some (.iload_n 2, 28) := by decide +kernel
theorem d339_28 : dc 339 28 = some (.iaload, 29) := by decide +kernel
theorem d339_29 : dc 339 29 = some (.ifCond .le ((36 : Nat) : Int), 32) := by decide +kernel
theorem d339_32 : dc 339 32 = some (.iconst 1, 33) := by decide +kernel
theorem d339_33 : dc 339 33 = some (.goto ((37 : Nat) : Int), 36) := by decide +kernel
theorem d339_36 : dc 339 36 = some (.iconst 0, 37) := by decide +kernel
theorem d339_37 : dc 339 37 = some (.iadd, 38) := by decide +kernel
theorem d339_38 : dc 339 38 = some (.istore_n 1, 39) := by decide +kernel
theorem d339_39 : dc 339 39 = some (.iinc 2 1, 42) := by decide +kernel
theorem d339_42 : dc 339 42 = some (.goto ((4 : Nat) : Int), 45) := by decide +kernel
theorem d339_45 : dc 339 45 = some (.iload_n 1, 46) := by decide +kernel
theorem d339_46 : dc 339 46 = some (.ireturn, 47) := by decide +kernel
theorem k_M_doneCount {S : Shp} {G : Nat → Option Nat} {d : Nat} {h : Hp} {Q : Option MV → Hp → Prop} {m : Nat} {nn : Nat} {E : Nat → Nat} (ok : Ok S h) (h1 : 0 ≤ d) (hm : sK S m = 14) (NE : NeR h m nn) (ST : ArI S h m 1707 (fun t => ((E t : Nat) : Int)) 14) 
    (kk : Q (some (vI (dnC nn E 14 : Nat))) h) : Cl G d 339 [vR (some m)] h Q := by
  show Wp G d 339 0 [some (vR (some m)), none, none] [] h Q
  have NE_0 := NE
  have ST_0 := ST
  have nl := NE.2
  refine w_iconst d339_0 (by decide) ?_
  refine w_istore1 d339_1 rfl ?_
  refine w_iconst d339_2 (by decide) ?_
  refine w_istore2 d339_3 rfl ?_
  have L4 : ∀ (m4 : Nat) (t : Nat), 14 - t = m4 → (t ≤ 14) → Wp G d 339 4 [some (vR (some m)), some (vI (dnC nn E t : Nat)), some (vI (t : Nat))] [] h Q := by
    intro m4
    induction m4 using Nat.strongRecOn with | ind m4 IH4 => ?_
    intro t hm4 tl
    refine w_iload_n d339_4 rfl ?_
    refine w_bipush d339_5 (by decide) ?_
    refine w_icmpge d339_7 (fun c7 => ?_) (fun c7 => ?_)
    · have et : t = 14 := by omega
      rw [← et] at kk
      refine w_iload_n d339_45 rfl ?_
      refine w_ireturn d339_46 ?_
      exact kk
    · have t14 : t < 14 := by omega
      have cl := @dnC_le nn E t
      refine w_iload_n d339_10 rfl ?_
      refine w_aload_n d339_11 rfl ?_
      refine w_getI (x := ((nn : Nat) : Int)) d339_12 (ok.kd hm) NE.1 ?_
      refine w_iload_n d339_15 rfl ?_
      refine w_ishr d339_16 ?_
      rw [shr_n (n := nn) (u := t) (by omega) (by omega)]
      refine w_iconst d339_17 (by decide) ?_
      refine w_iand d339_18 ?_
      rw [and_1 (a := nn / 2 ^ t) (div_lt (by omega))]
      refine w_iconst d339_19 (by decide) ?_
      refine w_icmpne d339_20 (fun c20 => ?_) (fun c20 => ?_)
      · have ec : dnC nn E (t + 1) = dnC nn E t := by
          rw [dnC]
          rw [if_neg (fun z => by omega)]
          rfl
        refine w_iconst d339_36 (by decide) ?_
        refine w_iadd d339_37 (by constructor <;> omega) ?_
        refine w_istore1 d339_38 rfl ?_
        refine w_iinc2 d339_39 rfl (by constructor <;> omega) ?_
        refine w_goto d339_42 ?_
        rw [show ((t : Nat) : Int) + 1 = ((t + 1 : Nat) : Int) by omega]
        rw [show ((dnC nn E t : Nat) : Int) + 0 = ((dnC nn E (t + 1) : Nat) : Int) by rw [ec]; omega]
        refine w_less ?_ (IH4 _ (by omega) (t + 1) rfl (by omega))
        exact ⟨Or.inr rfl, Or.inr rfl, Or.inr rfl, trivial⟩
      · refine w_aload_n d339_23 rfl ?_
        refine w_dloadS d339_24 (ok.kd hm) (fr1707 ok hm) ?_
        refine w_iload_n d339_27 rfl ?_
        refine w_ialoadV (x := ((E t : Nat) : Int)) d339_28 (gi1707 ok hm (by omega)) (ST t t14) ?_
        refine w_ifle d339_29 (fun c29 => ?_) (fun c29 => ?_)
        · have ec : dnC nn E (t + 1) = dnC nn E t := by
            rw [dnC]
            rw [if_neg (fun z => by omega)]
            rfl
          refine w_iconst d339_36 (by decide) ?_
          refine w_iadd d339_37 (by constructor <;> omega) ?_
          refine w_istore1 d339_38 rfl ?_
          refine w_iinc2 d339_39 rfl (by constructor <;> omega) ?_
          refine w_goto d339_42 ?_
          rw [show ((t : Nat) : Int) + 1 = ((t + 1 : Nat) : Int) by omega]
          rw [show ((dnC nn E t : Nat) : Int) + 0 = ((dnC nn E (t + 1) : Nat) : Int) by rw [ec]; omega]
          refine w_less ?_ (IH4 _ (by omega) (t + 1) rfl (by omega))
          exact ⟨Or.inr rfl, Or.inr rfl, Or.inr rfl, trivial⟩
        · have ec : dnC nn E (t + 1) = dnC nn E t + 1 := by
            rw [dnC]
            rw [if_pos ⟨by omega, by omega⟩]
          refine w_iconst d339_32 (by decide) ?_
          refine w_goto d339_33 ?_
          refine w_iadd d339_37 (by constructor <;> omega) ?_
          refine w_istore1 d339_38 rfl ?_
          refine w_iinc2 d339_39 rfl (by constructor <;> omega) ?_
          refine w_goto d339_42 ?_
          rw [show ((t : Nat) : Int) + 1 = ((t + 1 : Nat) : Int) by omega]
          rw [show ((dnC nn E t : Nat) : Int) + 1 = ((dnC nn E (t + 1) : Nat) : Int) by rw [ec]; omega]
          refine w_less ?_ (IH4 _ (by omega) (t + 1) rfl (by omega))
          exact ⟨Or.inr rfl, Or.inr rfl, Or.inr rfl, trivial⟩
  refine w_less ?_ (L4 _ 0 rfl (Nat.zero_le _))
  exact ⟨Or.inr rfl, Or.inr rfl, Or.inr rfl, trivial⟩
theorem d193_0 : dc 193 0 = some (.aload_n 0, 1) := by decide +kernel
theorem d193_1 : dc 193 1 = some (.iconst 0, 2) := by decide +kernel
theorem d193_2 : dc 193 2 = some (.putfield 1408, 5) := by decide +kernel
theorem d193_5 : dc 193 5 = some (.aload_n 0, 6) := by decide +kernel
theorem d193_6 : dc 193 6 = some (.iconst 0, 7) := by decide +kernel
theorem d193_7 : dc 193 7 = some (.putfield 1413, 10) := by decide +kernel
theorem d193_10 : dc 193 10 = some (.aload_n 0, 11) := by decide +kernel
theorem d193_11 : dc 193 11 = some (.iconst 0, 12) := by decide +kernel
theorem d193_12 : dc 193 12 = some (.putfield 1417, 15) := by decide +kernel
theorem d193_15 : dc 193 15 = some (.return_, 16) := by decide +kernel
theorem k_D_clear {S : Shp} {G : Nat → Option Nat} {d : Nat} {h : Hp} {Q : Option MV → Hp → Prop} {d0 : Nat}  (ok : Ok S h) (h1 : 0 ≤ d) (hd0 : sK S d0 = 12) 
    (kk : ∀ h', Mo S (fun y => y = d0) h h' → DfC S h' d0 ([], [], []) → Q none h') : Cl G d 193 [vR (some d0)] h Q := by
  show Wp G d 193 0 [some (vR (some d0))] [] h Q
  refine w_aload_n d193_0 rfl ?_
  refine w_iconst d193_1 (by decide) ?_
  refine wf1408 d193_2 ok hd0 (by omega) (fun h2 e2 m2 => ?_)
  have ok2 := m2.ok
  have M2 := Mo.tr ok (Mo.refl (A := (fun ζ => ζ = d0)) ok) m2 (fun ζ e => e)
  refine w_aload_n d193_5 rfl ?_
  refine w_iconst d193_6 (by decide) ?_
  refine wf1413 d193_7 ok2 hd0 (by omega) (fun h7 e7 m7 => ?_)
  have ok7 := m7.ok
  have M7 := Mo.tr ok M2 m7 (fun ζ e => e)
  refine w_aload_n d193_10 rfl ?_
  refine w_iconst d193_11 (by decide) ?_
  refine wf1417 d193_12 ok7 hd0 (by omega) (fun h12 e12 m12 => ?_)
  have ok12 := m12.ok
  have M12 := Mo.tr ok M7 m12 (fun ζ e => e)
  refine w_return d193_15 ?_
  exact kk h12 M12 ⟨⟨by rw [e12, FI_sFI, if_neg (by simp), e7, FI_sFI, if_neg (by simp), e2, FI_sFI, if_pos ⟨rfl, rfl⟩]; rfl, by decide, fun i hi => absurd hi (Nat.not_lt_zero _)⟩, ⟨by rw [e12, FI_sFI, if_neg (by simp), e7, FI_sFI, if_pos ⟨rfl, rfl⟩]; rfl, by decide, fun i hi => absurd hi (Nat.not_lt_zero _)⟩, ⟨by rw [e12, FI_sFI, if_pos ⟨rfl, rfl⟩]; rfl, by decide, fun i hi => absurd hi (Nat.not_lt_zero _)⟩⟩
theorem d192_0 : dc 192 0 = some (.aload_n 0, 1) := by decide +kernel
theorem d192_1 : dc 192 1 = some (.dload 1664, 4) := by decide +kernel
theorem d192_4 : dc 192 4 = some (.invokevirtual 193, 7) := by decide +kernel
theorem d192_7 : dc 192 7 = some (.aload_n 0, 8) := by decide +kernel
theorem d192_8 : dc 192 8 = some (.iconst 0, 9) := by decide +kernel
theorem d192_9 : dc 192 9 = some (.putstatic 1704, 12) := by decide +kernel
theorem d192_12 : dc 192 12 = some (.aload_n 0, 13) := by decide +kernel
theorem d192_13 : dc 192 13 = some (.iconst 0, 14) := by decide +kernel
theorem d192_14 : dc 192 14 = some (.putfield 1705, 17) := by decide +kernel
theorem d192_17 : dc 192 17 = some (.aload_n 0, 18) := by decide +kernel
theorem d192_18 : dc 192 18 = some (.iconst 0, 19) := by decide +kernel
theorem d192_19 : dc 192 19 = some (.putfield 1706, 22) := by decide +kernel
theorem d192_22 : dc 192 22 = some (.aload_n 0, 23) := by decide +kernel
theorem d192_23 : dc 192 23 = some (.iconst 0, 24) := by decide +kernel
theorem d192_24 : dc 192 24 = some (.putfield 1709, 27) := by decide +kernel
theorem d192_27 : dc 192 27 = some (.aload_n 0, 28) := by decide +kernel
theorem d192_28 : dc 192 28 = some (.iconst 0, 29) := by decide +kernel
theorem d192_29 : dc 192 29 = some (.putfield 1710, 32) := by decide +kernel
theorem d192_32 : dc 192 32 = some (.aload_n 0, 33) := by decide +kernel
theorem d192_33 : dc 192 33 = some (.iconst 0, 34) := by decide +kernel
theorem d192_34 : dc 192 34 = some (.putfield 1711, 37) := by decide +kernel
theorem d192_37 : dc 192 37 = some (.aload_n 0, 38) := by decide +kernel
theorem d192_38 : dc 192 38 = some (.iconst 0, 39) := by decide +kernel
theorem d192_39 : dc 192 39 = some (.putfield 1712, 42) := by decide +kernel
theorem d192_42 : dc 192 42 = some (.aload_n 0, 43) := by decide +kernel
theorem d192_43 : dc 192 43 = some (.iconst 0, 44) := by decide +kernel
theorem d192_44 : dc 192 44 = some (.putfield 1701, 47) := by decide +kernel
theorem d192_47 : dc 192 47 = some (.aload_n 0, 48) := by decide +kernel
theorem d192_48 : dc 192 48 = some (.iconst 0, 49) := by decide +kernel
theorem d192_49 : dc 192 49 = some (.putfield 1720, 52) := by decide +kernel
theorem d192_52 : dc 192 52 = some (.aload_n 0, 53) := by decide +kernel
theorem d192_53 : dc 192 53 = some (.dload 1713, 56) := by decide +kernel
theorem d192_56 : dc 192 56 = some (.iconst 0, 57) := by decide +kernel
theorem d192_57 : dc 192 57 = some (.iconst (-1), 58) := by decide +kernel
theorem d192_58 : dc 192 58 = some (.iastore, 59) := by decide +kernel
theorem d192_59 : dc 192 59 = some (.aload_n 0, 60) := by decide +kernel
theorem d192_60 : dc 192 60 = some (.dload 1713, 63) := by decide +kernel
theorem d192_63 : dc 192 63 = some (.iconst 1, 64) := by decide +kernel
theorem d192_64 : dc 192 64 = some (.iconst (-1), 65) := by decide +kernel
theorem d192_65 : dc 192 65 = some (.iastore, 66) := by decide +kernel
theorem d192_66 : dc 192 66 = some (.iconst 0, 67) := by decide +kernel
theorem d192_67 : dc 192 67 = some (.istore_n 1, 68) := by decide +kernel
theorem d192_68 : dc 192 68 = some (.iload_n 1, 69) := by decide +kernel
theorem d192_69 : dc 192 69 = some (.bipush 14, 71) := by decide +kernel
theorem d192_71 : dc 192 71 = some (.if_icmp .ge ((115 : Nat) : Int), 74) := by decide +kernel
theorem d192_74 : dc 192 74 = some (.aload_n 0, 75) := by decide +kernel
theorem d192_75 : dc 192 75 = some (.dload 1666, 78) := by decide +kernel
theorem d192_78 : dc 192 78 = some (.iload_n 1, 79) := by decide +kernel
theorem d192_79 : dc 192 79 = some (.iconst 0, 80) := by decide +kernel
theorem d192_80 : dc 192 80 = some (.bastore, 81) := by decide +kernel
theorem d192_81 : dc 192 81 = some (.aload_n 0, 82) := by decide +kernel
theorem d192_82 : dc 192 82 = some (.dload 1671, 85) := by decide +kernel
theorem d192_85 : dc 192 85 = some (.iload_n 1, 86) := by decide +kernel
theorem d192_86 : dc 192 86 = some (.iconst 0, 87) := by decide +kernel
theorem d192_87 : dc 192 87 = some (.iastore, 88) := by decide +kernel
theorem d192_88 : dc 192 88 = some (.aload_n 0, 89) := by decide +kernel
theorem d192_89 : dc 192 89 = some (.dload 1672, 92) := by decide +kernel
theorem d192_92 : dc 192 92 = some (.iload_n 1, 93) := by decide +kernel
theorem d192_93 : dc 192 93 = some (.iconst 0, 94) := by decide +kernel
theorem d192_94 : dc 192 94 = some (.iastore, 95) := by decide +kernel
theorem d192_95 : dc 192 95 = some (.aload_n 0, 96) := by decide +kernel
theorem d192_96 : dc 192 96 = some (.dload 1674, 99) := by decide +kernel
theorem d192_99 : dc 192 99 = some (.iload_n 1, 100) := by decide +kernel
theorem d192_100 : dc 192 100 = some (.iconst 0, 101) := by decide +kernel
theorem d192_101 : dc 192 101 = some (.bastore, 102) := by decide +kernel
theorem d192_102 : dc 192 102 = some (.aload_n 0, 103) := by decide +kernel
theorem d192_103 : dc 192 103 = some (.dload 1707, 106) := by decide +kernel
theorem d192_106 : dc 192 106 = some (.iload_n 1, 107) := by decide +kernel
theorem d192_107 : dc 192 107 = some (.iconst 0, 108) := by decide +kernel
theorem d192_108 : dc 192 108 = some (.iastore, 109) := by decide +kernel
theorem d192_109 : dc 192 109 = some (.iinc 1 1, 112) := by decide +kernel
theorem d192_112 : dc 192 112 = some (.goto ((68 : Nat) : Int), 115) := by decide +kernel
theorem d192_115 : dc 192 115 = some (.return_, 116) := by decide +kernel
theorem k_M_clearHouse {S : Shp} {G : Nat → Option Nat} {d : Nat} {h : Hp} {Q : Option MV → Hp → Prop} {m : Nat} {wk bu bp : Nat → OmV} {kf : Nat → Int64} {pf : Nat → List Int64} {ks : List (Int64 × OmV)} {re : Nat → Bool} {ed : Nat → Nat → Nat} {s : GoV} (ok : Ok S h) (h1 : 1 ≤ d) (hm : sK S m = 14) (WK : WkR S h m wk) (WP : WpR S h m kf pf) (BU : OmS S h (sT S 1668 m) bu) (KP : KpR S h m ks) (PT : OmA S h m 1667 bp) (ED : EdR S h m re ed) (hs1 : ∀ t, t < 14 → (s.1 t).1 = false) (hs2 : s.2.2.1 = fun _ => 0) (hs3 : s.2.2.2.1 = []) (hs4 : rC (goR s) = fun _ => 0)
    (kk : ∀ h', Fr S m [1664, 1704, 1705, 1706, 1709, 1710, 1711, 1712, 1701, 1720, 1713, 1666, 1671, 1672, 1674, 1707] h h' → DfC S h' (sT S 1664 m) ([], [], []) → SeR S h' m s → FI h' 1704 m = 0 → FI h' 1706 m = 0 → ArI S h' m 1713 (fun _ => -1) 2 → NeR h' m 0 → RnR S h' m [] → ArI S h' m 1707 (fun _ => 0) 14 → EdR S h' m (fun _ => false) ed → FI h' 1720 m = 0 → Q none h') : Cl G d 192 [vR (some m)] h Q := by
  show Wp G d 192 0 [some (vR (some m)), none] [] h Q
  have WK_0 := WK
  have WP_0 := WP
  have BU_0 := BU
  have KP_0 := KP
  have PT_0 := PT
  have ED_0 := ED
  refine w_aload_n d192_0 rfl ?_
  refine w_dloadS d192_1 (ok.kd hm) (fr1664 ok hm) ?_
  refine w_callv1 d192_4 (by omega) rfl (ok.kd (kT1664 ok hm)) (by simp) (Nat.le_of_ble_eq_true rfl) ?_
  refine k_D_clear ok (by omega) (kT1664 ok hm) (fun h4 m4 NF => ?_)
  have f4 : Fr S m [1664] _ _ := Fr.wB ok hm m4 (fun ζ e => ⟨1664, by decide, by decide, e ▸ U_refl⟩)
  have ok4 := f4.ok
  have FR4 := Fr.le (F := [1664, 1704, 1705, 1706, 1709, 1710, 1711, 1712, 1701, 1720, 1713, 1666, 1671, 1672, 1674, 1707]) f4 (by decide)
  have WK := WK.r f4 hm
  have WP := WP.r f4 hm
  have BU := OmS.r (f := 1668) f4 hm (Or.inl rfl) (by decide) BU
  have KP := KP.r f4 hm
  have PT := PT.r f4 hm
  have ED := ED.r f4 hm
  refine w_aload_n d192_7 rfl ?_
  refine w_iconst d192_8 (by decide) ?_
  refine wf1704 d192_9 ok4 hm (by omega) (fun h9 e9 m9 => ?_)
  have f9 : Fr S m [1704] _ _ := Fr.wF ok4 m9 (FK.pI e9)
  have ok9 := f9.ok
  have FR9 := Fr.tr (F := [1664, 1704, 1705, 1706, 1709, 1710, 1711, 1712, 1701, 1720, 1713, 1666, 1671, 1672, 1674, 1707]) FR4 f9 (by decide) (by decide)
  have WK := WK.r f9 hm
  have WP := WP.r f9 hm
  have BU := OmS.r (f := 1668) f9 hm (Or.inl rfl) (by decide) BU
  have KP := KP.r f9 hm
  have PT := PT.r f9 hm
  have ED := ED.r f9 hm
  have NF := DfC.r (f := 1664) f9 hm (by decide) NF
  have GN : FI h9 1704 m = 0 := by rw [e9, FI_sFI, if_pos ⟨rfl, rfl⟩]
  refine w_aload_n d192_12 rfl ?_
  refine w_iconst d192_13 (by decide) ?_
  refine wf1705 d192_14 ok9 hm (by omega) (fun h14 e14 m14 => ?_)
  have f14 : Fr S m [1705] _ _ := Fr.wF ok9 m14 (FK.pI e14)
  have ok14 := f14.ok
  have FR14 := Fr.tr (F := [1664, 1704, 1705, 1706, 1709, 1710, 1711, 1712, 1701, 1720, 1713, 1666, 1671, 1672, 1674, 1707]) FR9 f14 (by decide) (by decide)
  have WK := WK.r f14 hm
  have WP := WP.r f14 hm
  have BU := OmS.r (f := 1668) f14 hm (Or.inl rfl) (by decide) BU
  have KP := KP.r f14 hm
  have PT := PT.r f14 hm
  have ED := ED.r f14 hm
  have NF := DfC.r (f := 1664) f14 hm (by decide) NF
  have GN := (f14.i 1704).trans GN
  have NE : NeR h14 m 0 := ⟨by rw [e14, FI_sFI, if_pos ⟨rfl, rfl⟩]; rfl, by decide⟩
  refine w_aload_n d192_17 rfl ?_
  refine w_iconst d192_18 (by decide) ?_
  refine wf1706 d192_19 ok14 hm (by omega) (fun h19 e19 m19 => ?_)
  have f19 : Fr S m [1706] _ _ := Fr.wF ok14 m19 (FK.pI e19)
  have ok19 := f19.ok
  have FR19 := Fr.tr (F := [1664, 1704, 1705, 1706, 1709, 1710, 1711, 1712, 1701, 1720, 1713, 1666, 1671, 1672, 1674, 1707]) FR14 f19 (by decide) (by decide)
  have WK := WK.r f19 hm
  have WP := WP.r f19 hm
  have BU := OmS.r (f := 1668) f19 hm (Or.inl rfl) (by decide) BU
  have KP := KP.r f19 hm
  have PT := PT.r f19 hm
  have ED := ED.r f19 hm
  have NF := DfC.r (f := 1664) f19 hm (by decide) NF
  have GN := (f19.i 1704).trans GN
  have NE := NE.r f19 hm
  have SP : FI h19 1706 m = 0 := by rw [e19, FI_sFI, if_pos ⟨rfl, rfl⟩]
  refine w_aload_n d192_22 rfl ?_
  refine w_iconst d192_23 (by decide) ?_
  refine wf1709 d192_24 ok19 hm (by omega) (fun h24 e24 m24 => ?_)
  have f24 : Fr S m [1709] _ _ := Fr.wF ok19 m24 (FK.pI e24)
  have ok24 := f24.ok
  have FR24 := Fr.tr (F := [1664, 1704, 1705, 1706, 1709, 1710, 1711, 1712, 1701, 1720, 1713, 1666, 1671, 1672, 1674, 1707]) FR19 f24 (by decide) (by decide)
  have WK := WK.r f24 hm
  have WP := WP.r f24 hm
  have BU := OmS.r (f := 1668) f24 hm (Or.inl rfl) (by decide) BU
  have KP := KP.r f24 hm
  have PT := PT.r f24 hm
  have ED := ED.r f24 hm
  have NF := DfC.r (f := 1664) f24 hm (by decide) NF
  have GN := (f24.i 1704).trans GN
  have NE := NE.r f24 hm
  have SP := (f24.i 1706).trans SP
  have RN : RnR S h24 m [] := ⟨by rw [e24, FI_sFI, if_pos ⟨rfl, rfl⟩]; rfl, by decide, fun i hi => absurd hi (Nat.not_lt_zero _)⟩
  refine w_aload_n d192_27 rfl ?_
  refine w_iconst d192_28 (by decide) ?_
  refine wf1710 d192_29 ok24 hm (by omega) (fun h29 e29 m29 => ?_)
  have f29 : Fr S m [1710] _ _ := Fr.wF ok24 m29 (FK.pI e29)
  have ok29 := f29.ok
  have FR29 := Fr.tr (F := [1664, 1704, 1705, 1706, 1709, 1710, 1711, 1712, 1701, 1720, 1713, 1666, 1671, 1672, 1674, 1707]) FR24 f29 (by decide) (by decide)
  have WK := WK.r f29 hm
  have WP := WP.r f29 hm
  have BU := OmS.r (f := 1668) f29 hm (Or.inl rfl) (by decide) BU
  have KP := KP.r f29 hm
  have PT := PT.r f29 hm
  have ED := ED.r f29 hm
  have NF := DfC.r (f := 1664) f29 hm (by decide) NF
  have GN := (f29.i 1704).trans GN
  have NE := NE.r f29 hm
  have SP := (f29.i 1706).trans SP
  have RN := RN.r f29 hm
  refine w_aload_n d192_32 rfl ?_
  refine w_iconst d192_33 (by decide) ?_
  refine wf1711 d192_34 ok29 hm (by omega) (fun h34 e34 m34 => ?_)
  have f34 : Fr S m [1711] _ _ := Fr.wF ok29 m34 (FK.pI e34)
  have ok34 := f34.ok
  have FR34 := Fr.tr (F := [1664, 1704, 1705, 1706, 1709, 1710, 1711, 1712, 1701, 1720, 1713, 1666, 1671, 1672, 1674, 1707]) FR29 f34 (by decide) (by decide)
  have WK := WK.r f34 hm
  have WP := WP.r f34 hm
  have BU := OmS.r (f := 1668) f34 hm (Or.inl rfl) (by decide) BU
  have KP := KP.r f34 hm
  have PT := PT.r f34 hm
  have ED := ED.r f34 hm
  have NF := DfC.r (f := 1664) f34 hm (by decide) NF
  have GN := (f34.i 1704).trans GN
  have NE := NE.r f34 hm
  have SP := (f34.i 1706).trans SP
  have RN := RN.r f34 hm
  refine w_aload_n d192_37 rfl ?_
  refine w_iconst d192_38 (by decide) ?_
  refine wf1712 d192_39 ok34 hm (by omega) (fun h39 e39 m39 => ?_)
  have f39 : Fr S m [1712] _ _ := Fr.wF ok34 m39 (FK.pI e39)
  have ok39 := f39.ok
  have FR39 := Fr.tr (F := [1664, 1704, 1705, 1706, 1709, 1710, 1711, 1712, 1701, 1720, 1713, 1666, 1671, 1672, 1674, 1707]) FR34 f39 (by decide) (by decide)
  have WK := WK.r f39 hm
  have WP := WP.r f39 hm
  have BU := OmS.r (f := 1668) f39 hm (Or.inl rfl) (by decide) BU
  have KP := KP.r f39 hm
  have PT := PT.r f39 hm
  have ED := ED.r f39 hm
  have NF := DfC.r (f := 1664) f39 hm (by decide) NF
  have GN := (f39.i 1704).trans GN
  have NE := NE.r f39 hm
  have SP := (f39.i 1706).trans SP
  have RN := RN.r f39 hm
  have CT : CtR S h39 m (fun _ => 0) := ⟨(f39.i 1710 (by decide)).trans ((f34.i 1710 (by decide)).trans (by rw [e29, FI_sFI, if_pos ⟨rfl, rfl⟩]; rfl)), (f39.i 1711 (by decide)).trans (by rw [e34, FI_sFI, if_pos ⟨rfl, rfl⟩]; rfl), by rw [e39, FI_sFI, if_pos ⟨rfl, rfl⟩]; rfl⟩
  refine w_aload_n d192_42 rfl ?_
  refine w_iconst d192_43 (by decide) ?_
  have KPo := KP
  refine wf1701 d192_44 ok39 hm (by omega) (fun h44 e44 m44 => ?_)
  have f44 : Fr S m [1701] _ _ := Fr.wF ok39 m44 (FK.pI e44)
  have ok44 := f44.ok
  have FR44 := Fr.tr (F := [1664, 1704, 1705, 1706, 1709, 1710, 1711, 1712, 1701, 1720, 1713, 1666, 1671, 1672, 1674, 1707]) FR39 f44 (by decide) (by decide)
  have WK := WK.r f44 hm
  have WP := WP.r f44 hm
  have BU := OmS.r (f := 1668) f44 hm (Or.inl rfl) (by decide) BU
  have PT := PT.r f44 hm
  have ED := ED.r f44 hm
  have NF := DfC.r (f := 1664) f44 hm (by decide) NF
  have GN := (f44.i 1704).trans GN
  have NE := NE.r f44 hm
  have SP := (f44.i 1706).trans SP
  have RN := RN.r f44 hm
  have CT := CT.r f44 hm
  have KP : KpR S h44 m [] := KPo.nil (by rw [e44]; rfl) (by rw [e44, FI_sFI, if_pos ⟨rfl, rfl⟩])
  refine w_aload_n d192_47 rfl ?_
  refine w_iconst d192_48 (by decide) ?_
  refine wf1720 d192_49 ok44 hm (by omega) (fun h49 e49 m49 => ?_)
  have f49 : Fr S m [1720] _ _ := Fr.wF ok44 m49 (FK.pI e49)
  have ok49 := f49.ok
  have FR49 := Fr.tr (F := [1664, 1704, 1705, 1706, 1709, 1710, 1711, 1712, 1701, 1720, 1713, 1666, 1671, 1672, 1674, 1707]) FR44 f49 (by decide) (by decide)
  have WK := WK.r f49 hm
  have WP := WP.r f49 hm
  have BU := OmS.r (f := 1668) f49 hm (Or.inl rfl) (by decide) BU
  have PT := PT.r f49 hm
  have ED := ED.r f49 hm
  have NF := DfC.r (f := 1664) f49 hm (by decide) NF
  have GN := (f49.i 1704).trans GN
  have NE := NE.r f49 hm
  have SP := (f49.i 1706).trans SP
  have RN := RN.r f49 hm
  have CT := CT.r f49 hm
  have KP := KP.r f49 hm
  have R0 : FI h49 1720 m = 0 := by rw [e49, FI_sFI, if_pos ⟨rfl, rfl⟩]
  refine w_aload_n d192_52 rfl ?_
  refine w_dloadS d192_53 (ok49.kd hm) (fr1713 ok49 hm) ?_
  refine w_iconst d192_56 (by decide) ?_
  refine w_iconst d192_57 (by decide) ?_
  refine wa1713 d192_58 ok49 hm (by omega) (by omega) (fun h58 e58 m58 => ?_)
  have f58 : Fr S m [1713] _ _ := Fr.wB ok49 hm m58 (fun ζ e => ⟨1713, by decide, by decide, e ▸ U_refl⟩)
  have ok58 := f58.ok
  have FR58 := Fr.tr (F := [1664, 1704, 1705, 1706, 1709, 1710, 1711, 1712, 1701, 1720, 1713, 1666, 1671, 1672, 1674, 1707]) FR49 f58 (by decide) (by decide)
  have WK := WK.r f58 hm
  have WP := WP.r f58 hm
  have BU := OmS.r (f := 1668) f58 hm (Or.inl rfl) (by decide) BU
  have PT := PT.r f58 hm
  have ED := ED.r f58 hm
  have NF := DfC.r (f := 1664) f58 hm (by decide) NF
  have GN := (f58.i 1704).trans GN
  have NE := NE.r f58 hm
  have SP := (f58.i 1706).trans SP
  have RN := RN.r f58 hm
  have CT := CT.r f58 hm
  have KP := KP.r f58 hm
  have R0 := (f58.i 1720).trans R0
  refine w_aload_n d192_59 rfl ?_
  refine w_dloadS d192_60 (ok58.kd hm) (fr1713 ok58 hm) ?_
  refine w_iconst d192_63 (by decide) ?_
  refine w_iconst d192_64 (by decide) ?_
  refine wa1713 d192_65 ok58 hm (by omega) (by omega) (fun h65 e65 m65 => ?_)
  have f65 : Fr S m [1713] _ _ := Fr.wB ok58 hm m65 (fun ζ e => ⟨1713, by decide, by decide, e ▸ U_refl⟩)
  have ok65 := f65.ok
  have FR65 := Fr.tr (F := [1664, 1704, 1705, 1706, 1709, 1710, 1711, 1712, 1701, 1720, 1713, 1666, 1671, 1672, 1674, 1707]) FR58 f65 (by decide) (by decide)
  have WK := WK.r f65 hm
  have WP := WP.r f65 hm
  have BU := OmS.r (f := 1668) f65 hm (Or.inl rfl) (by decide) BU
  have PT := PT.r f65 hm
  have ED := ED.r f65 hm
  have NF := DfC.r (f := 1664) f65 hm (by decide) NF
  have GN := (f65.i 1704).trans GN
  have NE := NE.r f65 hm
  have SP := (f65.i 1706).trans SP
  have RN := RN.r f65 hm
  have CT := CT.r f65 hm
  have KP := KP.r f65 hm
  have R0 := (f65.i 1720).trans R0
  have HA : ArI S h65 m 1713 (fun _ => -1) 2 := fun j hj => by
    rw [e65, sArr]
    by_cases q : j = 1
    · rw [if_pos (by rw [q]; rfl)]
    · rw [if_neg (show ¬ j = Int.toNat 1 from q), e58, sArr, if_pos (by show j = 0; omega)]
  refine w_iconst d192_66 (by decide) ?_
  refine w_istore1 d192_67 rfl ?_
  have L68 : ∀ (m68 : Nat) (g : Hp) (t : Nat), 14 - t = m68 → Fr S m [1664, 1704, 1705, 1706, 1709, 1710, 1711, 1712, 1701, 1720, 1713, 1666, 1671, 1672, 1674, 1707] h g → (t ≤ 14) → (ArI S g m 1666 (fun _ => 0) t) → (ArI S g m 1671 (fun _ => 0) t) → (ArI S g m 1672 (fun _ => 0) t) → (ArI S g m 1674 (fun _ => 0) t) → (ArI S g m 1707 (fun _ => 0) t) → (DfC S g (sT S 1664 m) ([], [], [])) → (FI g 1704 m = 0) → (NeR g m 0) → (FI g 1706 m = 0) → (RnR S g m []) → (CtR S g m (fun _ => 0)) → (KpR S g m []) → (FI g 1720 m = 0) → (ArI S g m 1713 (fun _ => -1) 2) → Wp G d 192 68 [some (vR (some m)), some (vI (t : Nat))] [] g Q := by
    intro m68
    induction m68 using Nat.strongRecOn with | ind m68 IH68 => ?_
    intro g t hm68 FRg tl Z1 Z2 Z3 Z4 Z5 NF GN NE SP RN CT KP R0 HA
    have okg := FRg.ok
    have WK := WK_0.r FRg hm
    have WP := WP_0.r FRg hm
    have BU := OmS.r (f := 1668) FRg hm (Or.inl rfl) (by decide) BU_0
    have PT := PT_0.r FRg hm
    refine w_iload_n d192_68 rfl ?_
    refine w_bipush d192_69 (by decide) ?_
    refine w_icmpge d192_71 (fun c71 => ?_) (fun c71 => ?_)
    · have et : t = 14 := by omega
      rw [et] at Z1 Z2 Z3 Z4 Z5
      refine w_return d192_115 ?_
      refine kk g FRg NF ⟨wk, bu, bp, kf, pf, fun _ => [], [], fun _ => false, WK, WP, BU, KP, fun t ht => ⟨Z2 t ht, Nat.zero_le _, fun k hk => absurd hk (Nat.not_lt_zero _)⟩, ?_, by rw [hs4]; exact CT, PT, fun t ht => Z1 t ht, fun t ht => ⟨hs1 t ht, fun z => absurd (show false = true from z) (by decide), fun _ => rfl⟩, hs3⟩ GN SP HA NE RN Z5 (fun t ht => ⟨Z4 t ht, fun i hi => ?_⟩) R0
      · rw [hs2]; exact fun t ht => ⟨Nat.zero_le _, fun _ => Z3 t ht, fun z => absurd (show (0 : Nat) = 4 from z) (by decide), fun z => absurd (show (5 : Nat) ≤ 0 from z) (by decide)⟩
      · rw [FRg.ai (by have := kT1676 ok hm; omega) (by decide) (by decide) (by decide)]; exact (ED_0 t ht).2 i hi
    · have t14 : t < 14 := by omega
      refine w_aload_n d192_74 rfl ?_
      refine w_dloadS d192_75 (okg.kd hm) (fr1666 okg hm) ?_
      refine w_iload_n d192_78 rfl ?_
      refine w_iconst d192_79 (by decide) ?_
      refine wa1666 d192_80 okg hm (by omega) (by omega) (fun h80 e80 m80 => ?_)
      have e80 : h80 = sAI g (sT S 1666 m) t 0 := e80
      have f80 : Fr S m [1666] _ _ := Fr.wB okg hm m80 (fun ζ e => ⟨1666, by decide, by decide, e ▸ U_refl⟩)
      have ok80 := f80.ok
      have FR80 := Fr.tr (F := [1664, 1704, 1705, 1706, 1709, 1710, 1711, 1712, 1701, 1720, 1713, 1666, 1671, 1672, 1674, 1707]) FRg f80 (by decide) (by decide)
      have NF := DfC.r (f := 1664) f80 hm (by decide) NF
      have GN := (f80.i 1704).trans GN
      have NE := NE.r f80 hm
      have SP := (f80.i 1706).trans SP
      have RN := RN.r f80 hm
      have CT := CT.r f80 hm
      have KP := KP.r f80 hm
      have R0 := (f80.i 1720).trans R0
      have HA := HA.r f80 hm
      have WK := WK.r f80 hm
      have WP := WP.r f80 hm
      have BU := OmS.r (f := 1668) f80 hm (Or.inl rfl) (by decide) BU
      have PT := PT.r f80 hm
      have Z2 := Z2.r f80 hm
      have Z3 := Z3.r f80 hm
      have Z4 := Z4.r f80 hm
      have Z5 := Z5.r f80 hm
      have Z1 := Z1.s e80
      refine w_aload_n d192_81 rfl ?_
      refine w_dloadS d192_82 (ok80.kd hm) (fr1671 ok80 hm) ?_
      refine w_iload_n d192_85 rfl ?_
      refine w_iconst d192_86 (by decide) ?_
      refine wa1671 d192_87 ok80 hm (by omega) (by omega) (fun h87 e87 m87 => ?_)
      have e87 : h87 = sAI h80 (sT S 1671 m) t 0 := e87
      have f87 : Fr S m [1671] _ _ := Fr.wB ok80 hm m87 (fun ζ e => ⟨1671, by decide, by decide, e ▸ U_refl⟩)
      have ok87 := f87.ok
      have FR87 := Fr.tr (F := [1664, 1704, 1705, 1706, 1709, 1710, 1711, 1712, 1701, 1720, 1713, 1666, 1671, 1672, 1674, 1707]) FR80 f87 (by decide) (by decide)
      have NF := DfC.r (f := 1664) f87 hm (by decide) NF
      have GN := (f87.i 1704).trans GN
      have NE := NE.r f87 hm
      have SP := (f87.i 1706).trans SP
      have RN := RN.r f87 hm
      have CT := CT.r f87 hm
      have KP := KP.r f87 hm
      have R0 := (f87.i 1720).trans R0
      have HA := HA.r f87 hm
      have WK := WK.r f87 hm
      have WP := WP.r f87 hm
      have BU := OmS.r (f := 1668) f87 hm (Or.inl rfl) (by decide) BU
      have PT := PT.r f87 hm
      have Z3 := Z3.r f87 hm
      have Z4 := Z4.r f87 hm
      have Z5 := Z5.r f87 hm
      have Z1 := Z1.r f87 hm
      have Z2 := Z2.s e87
      refine w_aload_n d192_88 rfl ?_
      refine w_dloadS d192_89 (ok87.kd hm) (fr1672 ok87 hm) ?_
      refine w_iload_n d192_92 rfl ?_
      refine w_iconst d192_93 (by decide) ?_
      refine wa1672 d192_94 ok87 hm (by omega) (by omega) (fun h94 e94 m94 => ?_)
      have e94 : h94 = sAI h87 (sT S 1672 m) t 0 := e94
      have f94 : Fr S m [1672] _ _ := Fr.wB ok87 hm m94 (fun ζ e => ⟨1672, by decide, by decide, e ▸ U_refl⟩)
      have ok94 := f94.ok
      have FR94 := Fr.tr (F := [1664, 1704, 1705, 1706, 1709, 1710, 1711, 1712, 1701, 1720, 1713, 1666, 1671, 1672, 1674, 1707]) FR87 f94 (by decide) (by decide)
      have NF := DfC.r (f := 1664) f94 hm (by decide) NF
      have GN := (f94.i 1704).trans GN
      have NE := NE.r f94 hm
      have SP := (f94.i 1706).trans SP
      have RN := RN.r f94 hm
      have CT := CT.r f94 hm
      have KP := KP.r f94 hm
      have R0 := (f94.i 1720).trans R0
      have HA := HA.r f94 hm
      have WK := WK.r f94 hm
      have WP := WP.r f94 hm
      have BU := OmS.r (f := 1668) f94 hm (Or.inl rfl) (by decide) BU
      have PT := PT.r f94 hm
      have Z4 := Z4.r f94 hm
      have Z5 := Z5.r f94 hm
      have Z1 := Z1.r f94 hm
      have Z2 := Z2.r f94 hm
      have Z3 := Z3.s e94
      refine w_aload_n d192_95 rfl ?_
      refine w_dloadS d192_96 (ok94.kd hm) (fr1674 ok94 hm) ?_
      refine w_iload_n d192_99 rfl ?_
      refine w_iconst d192_100 (by decide) ?_
      refine wa1674 d192_101 ok94 hm (by omega) (by omega) (fun h101 e101 m101 => ?_)
      have e101 : h101 = sAI h94 (sT S 1674 m) t 0 := e101
      have f101 : Fr S m [1674] _ _ := Fr.wB ok94 hm m101 (fun ζ e => ⟨1674, by decide, by decide, e ▸ U_refl⟩)
      have ok101 := f101.ok
      have FR101 := Fr.tr (F := [1664, 1704, 1705, 1706, 1709, 1710, 1711, 1712, 1701, 1720, 1713, 1666, 1671, 1672, 1674, 1707]) FR94 f101 (by decide) (by decide)
      have NF := DfC.r (f := 1664) f101 hm (by decide) NF
      have GN := (f101.i 1704).trans GN
      have NE := NE.r f101 hm
      have SP := (f101.i 1706).trans SP
      have RN := RN.r f101 hm
      have CT := CT.r f101 hm
      have KP := KP.r f101 hm
      have R0 := (f101.i 1720).trans R0
      have HA := HA.r f101 hm
      have WK := WK.r f101 hm
      have WP := WP.r f101 hm
      have BU := OmS.r (f := 1668) f101 hm (Or.inl rfl) (by decide) BU
      have PT := PT.r f101 hm
      have Z5 := Z5.r f101 hm
      have Z1 := Z1.r f101 hm
      have Z2 := Z2.r f101 hm
      have Z3 := Z3.r f101 hm
      have Z4 := Z4.s e101
      refine w_aload_n d192_102 rfl ?_
      refine w_dloadS d192_103 (ok101.kd hm) (fr1707 ok101 hm) ?_
      refine w_iload_n d192_106 rfl ?_
      refine w_iconst d192_107 (by decide) ?_
      refine wa1707 d192_108 ok101 hm (by omega) (by omega) (fun h108 e108 m108 => ?_)
      have e108 : h108 = sAI h101 (sT S 1707 m) t 0 := e108
      have f108 : Fr S m [1707] _ _ := Fr.wB ok101 hm m108 (fun ζ e => ⟨1707, by decide, by decide, e ▸ U_refl⟩)
      have ok108 := f108.ok
      have FR108 := Fr.tr (F := [1664, 1704, 1705, 1706, 1709, 1710, 1711, 1712, 1701, 1720, 1713, 1666, 1671, 1672, 1674, 1707]) FR101 f108 (by decide) (by decide)
      have NF := DfC.r (f := 1664) f108 hm (by decide) NF
      have GN := (f108.i 1704).trans GN
      have NE := NE.r f108 hm
      have SP := (f108.i 1706).trans SP
      have RN := RN.r f108 hm
      have CT := CT.r f108 hm
      have KP := KP.r f108 hm
      have R0 := (f108.i 1720).trans R0
      have HA := HA.r f108 hm
      have WK := WK.r f108 hm
      have WP := WP.r f108 hm
      have BU := OmS.r (f := 1668) f108 hm (Or.inl rfl) (by decide) BU
      have PT := PT.r f108 hm
      have Z1 := Z1.r f108 hm
      have Z2 := Z2.r f108 hm
      have Z3 := Z3.r f108 hm
      have Z4 := Z4.r f108 hm
      have Z5 := Z5.s e108
      refine w_iinc1 d192_109 rfl (by constructor <;> omega) ?_
      refine w_goto d192_112 ?_
      rw [show ((t : Nat) : Int) + 1 = ((t + 1 : Nat) : Int) by omega]
      refine w_less ?_ (IH68 _ (by omega) h108 (t + 1) rfl FR108 (by omega) Z1 Z2 Z3 Z4 Z5 NF GN NE SP RN CT KP R0 HA)
      exact ⟨Or.inr rfl, Or.inr rfl, trivial⟩
  refine w_less ?_ (L68 _ h65 0 rfl FR65 (Nat.zero_le _) ArI.z ArI.z ArI.z ArI.z ArI.z NF GN NE SP RN CT KP R0 HA)
  exact ⟨Or.inr rfl, Or.inr rfl, trivial⟩
