/-! the reference: a session begins -/
/-- what stays between sessions -/
def SeR (S : Shp) (h : Hp) (m : Nat) (s : GoV) : Prop := ∃ (wk bu bp : Nat → OmV) (kf : Nat → Int64) (pf lf : Nat → List Int64) (ks : List (Int64 × OmV)) (pb : Nat → Bool), WkR S h m wk ∧ WpR S h m kf pf ∧ OmS S h (sT S 1668 m) bu ∧ KpR S h m ks ∧ LpR S h m lf ∧ ReR S h m s.2.2.1 ∧ CtR S h m (rC (goR s)) ∧ OmA S h m 1667 bp ∧ PuR S h m pb ∧ PtI s.1 s.2.1 bp lf pb ∧ s.2.2.2.1 = ksO ks
theorem GoR.se {S : Shp} {h : Hp} {m nn : Nat} {P : PlV} {s : GoV} (D : GoR S h m P nn s) : SeR S h m s := by
  obtain ⟨L, Y, wk, bu, bp, kf, pf, lf, ks, pb, TF, ST, HA, NE, LF_, HW, WK, WP, BU, KP, LP, RE, RN, CT, PT, PU, I⟩ := D
  exact ⟨wk, bu, bp, kf, pf, lf, ks, pb, WK, WP, BU, KP, LP, RE, CT, PT, PU, I.2.2.1, I.2.2.2.2.1⟩
theorem SeR.r {S : Shp} {h h' : Hp} {m : Nat} {s : GoV} {F : List Nat} (D : SeR S h m s) (fr : Fr S m F h h') (hm : sK S m = 14) (h1 : (∀ f ∈ [1716, 1717, 1718, 1719, 1668, 1701, 1702, 1703, 1670, 1671, 1672, 1673, 1710, 1711, 1712, 1667, 1666], f ∉ F) ∧ ltF4 F := by decide) : SeR S h' m s := by
  obtain ⟨wk, bu, bp, kf, pf, lf, ks, pb, WK, WP, BU, KP, LP, RE, CT, PT, PU, I⟩ := D
  have k : ∀ f, f ∈ [1716, 1717, 1718, 1719, 1668, 1701, 1702, 1703, 1670, 1671, 1672, 1673, 1710, 1711, 1712, 1667, 1666] → f ∉ F := h1.1
  have q := h1.2
  exact ⟨wk, bu, bp, kf, pf, lf, ks, pb, WK.r fr hm ⟨k _ (by decide), q⟩, WP.r fr hm ⟨k _ (by decide), k _ (by decide), k _ (by decide), q⟩, OmS.r (f := 1668) fr hm (Or.inl rfl) ⟨k _ (by decide), q⟩ BU, KP.r fr hm ⟨k _ (by decide), k _ (by decide), k _ (by decide), q⟩, LP.r fr hm ⟨k _ (by decide), k _ (by decide), q⟩, RE.r fr hm ⟨k _ (by decide), k _ (by decide), q⟩, CT.r fr hm ⟨k _ (by decide), k _ (by decide), k _ (by decide)⟩, PT.r fr hm ⟨by decide, k _ (by decide), q⟩, PU.r fr hm ⟨k _ (by decide), q⟩, I⟩
/-- a session's state at its beginning -/
def go0 (s : GoV) : GoV := (s.1, s.2.1, s.2.2.1, s.2.2.2.1, run0 (goR s))
theorem GoI.beg {P : PlV} {s : GoV} {L Y : Nat → Int} {wk bu bp : Nat → OmV} {kf : Nat → Int64} {pf lf : Nat → List Int64} {ks : List (Int64 × OmV)} {pb : Nat → Bool} (I : PtI s.1 s.2.1 bp lf pb) (ke : s.2.2.2.1 = ksO ks) : GoI P (go0 s) L Y wk bu bp kf pf lf ks pb := by
  refine ⟨fun w hw h => ?_, fun h => ?_, I, ⟨fun t ht => ⟨?_, fun z => ?_, fun z => ?_⟩, fun h => ?_⟩, ke, ⟨fun t ht => absurd ht List.not_mem_nil, List.nodup_nil⟩⟩
  · exact absurd (show (0 : Int) ≤ -1 from h) (by decide)
  · exact absurd (show (0 : Int) ≤ -1 from h) (by decide)
  · show (0 : Nat) ≤ 2
    decide
  · exact absurd (show (0 : Nat) = 1 from z) (by decide)
  · exact absurd (show (0 : Nat) = 2 from z) (by decide)
  · exact absurd (show (0 : Int) ≤ -1 from h) (by decide)
theorem d242_0 : dc 242 0 = some (.aload_n 0, 1) := by decide +kernel
theorem d242_1 : dc 242 1 = some (.dload 1665, 4) := by decide +kernel
theorem d242_4 : dc 242 4 = some (.aload_n 0, 5) := by decide +kernel
theorem d242_5 : dc 242 5 = some (.dload 1664, 8) := by decide +kernel
theorem d242_8 : dc 242 8 = some (.invokevirtual 243, 11) := by decide +kernel
theorem d242_11 : dc 242 11 = some (.aload_n 0, 12) := by decide +kernel
theorem d242_12 : dc 242 12 = some (.iconst 1, 13) := by decide +kernel
theorem d242_13 : dc 242 13 = some (.putstatic 1704, 16) := by decide +kernel
theorem d242_16 : dc 242 16 = some (.aload_n 0, 17) := by decide +kernel
theorem d242_17 : dc 242 17 = some (.aload_n 0, 18) := by decide +kernel
theorem d242_18 : dc 242 18 = some (.dload 1665, 21) := by decide +kernel
theorem d242_21 : dc 242 21 = some (.iload_n 1, 22) := by decide +kernel
theorem d242_22 : dc 242 22 = some (.invokevirtual 230, 25) := by decide +kernel
theorem d242_25 : dc 242 25 = some (.putfield 1705, 28) := by decide +kernel
theorem d242_28 : dc 242 28 = some (.aload_n 0, 29) := by decide +kernel
theorem d242_29 : dc 242 29 = some (.iconst 0, 30) := by decide +kernel
theorem d242_30 : dc 242 30 = some (.putfield 1706, 33) := by decide +kernel
theorem d242_33 : dc 242 33 = some (.aload_n 0, 34) := by decide +kernel
theorem d242_34 : dc 242 34 = some (.iconst 0, 35) := by decide +kernel
theorem d242_35 : dc 242 35 = some (.putfield 1709, 38) := by decide +kernel
theorem d242_38 : dc 242 38 = some (.iconst 0, 39) := by decide +kernel
theorem d242_39 : dc 242 39 = some (.istore_n 2, 40) := by decide +kernel
theorem d242_40 : dc 242 40 = some (.iload_n 2, 41) := by decide +kernel
theorem d242_41 : dc 242 41 = some (.bipush 14, 43) := by decide +kernel
theorem d242_43 : dc 242 43 = some (.if_icmp .ge ((59 : Nat) : Int), 46) := by decide +kernel
theorem d242_46 : dc 242 46 = some (.aload_n 0, 47) := by decide +kernel
theorem d242_47 : dc 242 47 = some (.dload 1707, 50) := by decide +kernel
theorem d242_50 : dc 242 50 = some (.iload_n 2, 51) := by decide +kernel
theorem d242_51 : dc 242 51 = some (.iconst 0, 52) := by decide +kernel
theorem d242_52 : dc 242 52 = some (.iastore, 53) := by decide +kernel
theorem d242_53 : dc 242 53 = some (.iinc 2 1, 56) := by decide +kernel
theorem d242_56 : dc 242 56 = some (.goto ((40 : Nat) : Int), 59) := by decide +kernel
theorem d242_59 : dc 242 59 = some (.aload_n 0, 60) := by decide +kernel
theorem d242_60 : dc 242 60 = some (.dload 1713, 63) := by decide +kernel
theorem d242_63 : dc 242 63 = some (.iconst 0, 64) := by decide +kernel
theorem d242_64 : dc 242 64 = some (.iconst (-1), 65) := by decide +kernel
theorem d242_65 : dc 242 65 = some (.iastore, 66) := by decide +kernel
theorem d242_66 : dc 242 66 = some (.aload_n 0, 67) := by decide +kernel
theorem d242_67 : dc 242 67 = some (.dload 1713, 70) := by decide +kernel
theorem d242_70 : dc 242 70 = some (.iconst 1, 71) := by decide +kernel
theorem d242_71 : dc 242 71 = some (.iconst (-1), 72) := by decide +kernel
theorem d242_72 : dc 242 72 = some (.iastore, 73) := by decide +kernel
theorem d242_73 : dc 242 73 = some (.return_, 74) := by decide +kernel
theorem k_M_beginSession {S : Shp} {G : Nat → Option Nat} {d : Nat} {h : Hp} {Q : Option MV → Hp → Prop} {m : Nat} {t : Nat} {N0 : PlV} {s : GoV} (ok : Ok S h) (h1 : 5 ≤ d) (hm : sK S m = 14) (NF : DfC S h (sT S 1664 m) N0) (SE : SeR S h m s) (ht : t < N0.2.2.length) (hH : tH N0.2.2 t = true)
    (kk : ∀ h' (nn : Nat), Fr S m [1665, 1704, 1705, 1706, 1709, 1707, 1713] h h' → GoR S h' m N0 nn (go0 s) → FI h' 1706 m = ((0 : Nat) : Int) → FI h' 1704 m = 1 → (∀ z, bt nn z ↔ Rc N0.2.2 t z) → Q none h') : Cl G d 242 [vR (some m), vI (t : Nat)] h Q := by
  show Wp G d 242 0 [some (vR (some m)), some (vI (t : Nat)), none] [] h Q
  have NF_0 := NF
  have SE_0 := SE
  refine w_aload_n d242_0 rfl ?_
  refine w_dloadS d242_1 (ok.kd hm) (fr1665 ok hm) ?_
  refine w_aload_n d242_4 rfl ?_
  refine w_dloadS d242_5 (ok.kd hm) (fr1664 ok hm) ?_
  refine w_callv2 d242_8 (by omega) rfl (ok.kd (kT1665 ok hm)) (by simp) (Nat.le_of_ble_eq_true rfl) ?_
  refine k_D_copy ok (by omega) (kT1665 ok hm) (kT1664 ok hm) NF (fun y u z => ok.so.sib (f := 1664) (g := 1665) (by decide) (by decide) (by decide) u z) (fun h8 m8 TF => ?_)
  have f8 : Fr S m [1665] _ _ := Fr.wB ok hm m8 (fun ζ u => ⟨1665, by decide, by decide, U_trans U_refl u⟩)
  have ok8 := f8.ok
  have FR8 := Fr.le (F := [1665, 1704, 1705, 1706, 1709, 1707, 1713]) f8 (by decide)
  have NF := DfC.r (f := 1664) f8 hm (by decide) NF
  have SE := SE.r f8 hm
  refine w_aload_n d242_11 rfl ?_
  refine w_iconst d242_12 (by decide) ?_
  refine wf1704 d242_13 ok8 hm (by omega) (fun h13 e13 m13 => ?_)
  have f13 : Fr S m [1704] _ _ := Fr.wF ok8 m13 (FK.pI e13)
  have ok13 := f13.ok
  have FR13 := Fr.tr (F := [1665, 1704, 1705, 1706, 1709, 1707, 1713]) FR8 f13 (by decide) (by decide)
  have NF := DfC.r (f := 1664) f13 hm (by decide) NF
  have SE := SE.r f13 hm
  have TF := DfC.r (f := 1665) f13 hm (by decide) TF
  have GN : FI h13 1704 m = 1 := by rw [e13, FI_sFI, if_pos ⟨rfl, rfl⟩]
  refine w_aload_n d242_16 rfl ?_
  refine w_aload_n d242_17 rfl ?_
  refine w_dloadS d242_18 (ok13.kd hm) (fr1665 ok13 hm) ?_
  refine w_iload_n d242_21 rfl ?_
  refine w_callv2 d242_22 (by omega) rfl (ok13.kd (kT1665 ok13 hm)) (by simp) (Nat.le_of_ble_eq_true rfl) ?_
  refine k_D_needs ok13 (by omega) (kT1665 ok13 hm) TF.2.2 ht hH (fun nn nl nb => ?_)
  refine wf1705 d242_25 ok13 hm (by omega) (fun h25 e25 m25 => ?_)
  have f25 : Fr S m [1705] _ _ := Fr.wF ok13 m25 (FK.pI e25)
  have ok25 := f25.ok
  have FR25 := Fr.tr (F := [1665, 1704, 1705, 1706, 1709, 1707, 1713]) FR13 f25 (by decide) (by decide)
  have NF := DfC.r (f := 1664) f25 hm (by decide) NF
  have SE := SE.r f25 hm
  have TF := DfC.r (f := 1665) f25 hm (by decide) TF
  have GN := (f25.i 1704).trans GN
  have NE : NeR h25 m nn := ⟨by rw [e25, FI_sFI, if_pos ⟨rfl, rfl⟩], nl⟩
  refine w_aload_n d242_28 rfl ?_
  refine w_iconst d242_29 (by decide) ?_
  refine wf1706 d242_30 ok25 hm (by omega) (fun h30 e30 m30 => ?_)
  have f30 : Fr S m [1706] _ _ := Fr.wF ok25 m30 (FK.pI e30)
  have ok30 := f30.ok
  have FR30 := Fr.tr (F := [1665, 1704, 1705, 1706, 1709, 1707, 1713]) FR25 f30 (by decide) (by decide)
  have NF := DfC.r (f := 1664) f30 hm (by decide) NF
  have SE := SE.r f30 hm
  have TF := DfC.r (f := 1665) f30 hm (by decide) TF
  have GN := (f30.i 1704).trans GN
  have NE := NE.r f30 hm
  have SP : FI h30 1706 m = ((0 : Nat) : Int) := by rw [e30, FI_sFI, if_pos ⟨rfl, rfl⟩]; rfl
  refine w_aload_n d242_33 rfl ?_
  refine w_iconst d242_34 (by decide) ?_
  refine wf1709 d242_35 ok30 hm (by omega) (fun h35 e35 m35 => ?_)
  have f35 : Fr S m [1709] _ _ := Fr.wF ok30 m35 (FK.pI e35)
  have ok35 := f35.ok
  have FR35 := Fr.tr (F := [1665, 1704, 1705, 1706, 1709, 1707, 1713]) FR30 f35 (by decide) (by decide)
  have NF := DfC.r (f := 1664) f35 hm (by decide) NF
  have SE := SE.r f35 hm
  have TF := DfC.r (f := 1665) f35 hm (by decide) TF
  have GN := (f35.i 1704).trans GN
  have NE := NE.r f35 hm
  have SP := (f35.i 1706).trans SP
  have RN : RnR S h35 m [] := ⟨by rw [e35, FI_sFI, if_pos ⟨rfl, rfl⟩]; rfl, by decide, fun i hi => absurd hi (Nat.not_lt_zero _)⟩
  refine w_iconst d242_38 (by decide) ?_
  refine w_istore2 d242_39 rfl ?_
  have L40 : ∀ (m40 : Nat) (g : Hp) (i : Nat), 14 - i = m40 → Fr S m [1665, 1704, 1705, 1706, 1709, 1707, 1713] h g → (i ≤ 14) → (∀ j, j < i → AI g (sT S 1707 m) j = 0) → (DfC S g (sT S 1665 m) N0) → (FI g 1704 m = 1) → (NeR g m nn) → (FI g 1706 m = ((0 : Nat) : Int)) → (RnR S g m []) → Wp G d 242 40 [some (vR (some m)), some (vI (t : Nat)), some (vI (i : Nat))] [] g Q := by
    intro m40
    induction m40 using Nat.strongRecOn with | ind m40 IH40 => ?_
    intro g i hm40 FRg il hc TF GN NE SP RN
    have okg := FRg.ok
    have NF := DfC.r (f := 1664) FRg hm (by decide) NF_0
    have SE := SE_0.r FRg hm
    refine w_iload_n d242_40 rfl ?_
    refine w_bipush d242_41 (by decide) ?_
    refine w_icmpge d242_43 (fun c43 => ?_) (fun c43 => ?_)
    · have ST : ArI S g m 1707 (fun t => ((rE (goR (go0 s)) t : Nat) : Int)) 14 := fun j hj => hc j (by omega)
      refine w_aload_n d242_59 rfl ?_
      refine w_dloadS d242_60 (okg.kd hm) (fr1713 okg hm) ?_
      refine w_iconst d242_63 (by decide) ?_
      refine w_iconst d242_64 (by decide) ?_
      refine wa1713 d242_65 okg hm (by omega) (by omega) (fun h65 e65 m65 => ?_)
      have f65 : Fr S m [1713] _ _ := Fr.wB okg hm m65 (fun ζ e => ⟨1713, by decide, by decide, e ▸ U_refl⟩)
      have ok65 := f65.ok
      have FR65 := Fr.tr (F := [1665, 1704, 1705, 1706, 1709, 1707, 1713]) FRg f65 (by decide) (by decide)
      have TF := DfC.r (f := 1665) f65 hm (by decide) TF
      have GN := (f65.i 1704).trans GN
      have NE := NE.r f65 hm
      have SP := (f65.i 1706).trans SP
      have RN := RN.r f65 hm
      have NF := DfC.r (f := 1664) f65 hm (by decide) NF
      have SE := SE.r f65 hm
      have ST := ST.r f65 hm
      refine w_aload_n d242_66 rfl ?_
      refine w_dloadS d242_67 (ok65.kd hm) (fr1713 ok65 hm) ?_
      refine w_iconst d242_70 (by decide) ?_
      refine w_iconst d242_71 (by decide) ?_
      refine wa1713 d242_72 ok65 hm (by omega) (by omega) (fun h72 e72 m72 => ?_)
      have f72 : Fr S m [1713] _ _ := Fr.wB ok65 hm m72 (fun ζ e => ⟨1713, by decide, by decide, e ▸ U_refl⟩)
      have ok72 := f72.ok
      have FR72 := Fr.tr (F := [1665, 1704, 1705, 1706, 1709, 1707, 1713]) FR65 f72 (by decide) (by decide)
      have TF := DfC.r (f := 1665) f72 hm (by decide) TF
      have GN := (f72.i 1704).trans GN
      have NE := NE.r f72 hm
      have SP := (f72.i 1706).trans SP
      have RN := RN.r f72 hm
      have NF := DfC.r (f := 1664) f72 hm (by decide) NF
      have SE := SE.r f72 hm
      have ST := ST.r f72 hm
      refine w_return d242_73 ?_
      have HA : ArI S h72 m 1713 (rH (goR (go0 s))) 2 := fun j hj => by
        show AI h72 (sT S 1713 m) j = -1
        rw [e72, sArr]
        by_cases q : j = 1
        · rw [if_pos (by rw [q]; rfl)]
        · rw [if_neg (show ¬ j = Int.toNat 1 from q), e65, sArr, if_pos (by show j = 0; omega)]
      obtain ⟨wk, bu, bp, kf, pf, lf, ks, pb, WK, WP, BU, KP, LP, RE, CT, PT, PU, PI, ke⟩ := SE
      exact kk h72 nn FR72 ⟨(fun i => AI h72 (sT S 1714 m) i), (fun i => AI h72 (sT S 1715 m) i), wk, bu, bp, kf, pf, lf, ks, pb, TF, ST, HA, NE, (fun _ _ => rfl), (fun _ _ => rfl), WK, WP, BU, KP, LP, RE, RN, CT, PT, PU, GoI.beg PI ke⟩ SP GN nb
    · have hi : i < 14 := by omega
      refine w_aload_n d242_46 rfl ?_
      refine w_dloadS d242_47 (okg.kd hm) (fr1707 okg hm) ?_
      refine w_iload_n d242_50 rfl ?_
      refine w_iconst d242_51 (by decide) ?_
      refine wa1707 d242_52 okg hm (by omega) (by omega) (fun h52 e52 m52 => ?_)
      have e52 : h52 = sAI g (sT S 1707 m) i 0 := e52
      have f52 : Fr S m [1707] _ _ := Fr.wB okg hm m52 (fun ζ e => ⟨1707, by decide, by decide, e ▸ U_refl⟩)
      have ok52 := f52.ok
      have FR52 := Fr.tr (F := [1665, 1704, 1705, 1706, 1709, 1707, 1713]) FRg f52 (by decide) (by decide)
      have TF := DfC.r (f := 1665) f52 hm (by decide) TF
      have GN := (f52.i 1704).trans GN
      have NE := NE.r f52 hm
      have SP := (f52.i 1706).trans SP
      have RN := RN.r f52 hm
      have NF := DfC.r (f := 1664) f52 hm (by decide) NF
      have SE := SE.r f52 hm
      refine w_iinc2 d242_53 rfl (by constructor <;> omega) ?_
      refine w_goto d242_56 ?_
      rw [show ((i : Nat) : Int) + 1 = ((i + 1 : Nat) : Int) by omega]
      refine w_less ?_ (IH40 _ (by omega) h52 (i + 1) rfl FR52 (by omega) (fun j hj => by rw [e52, sArr]; by_cases q : j = i; rw [if_pos q]; rw [if_neg q]; exact hc j (by omega)) TF GN NE SP RN)
      exact ⟨Or.inr rfl, Or.inr rfl, Or.inr rfl, trivial⟩
  refine w_less ?_ (L40 _ h35 0 rfl FR35 (Nat.zero_le _) (fun j hj => absurd hj (Nat.not_lt_zero _)) TF GN NE SP RN)
  exact ⟨Or.inr rfl, Or.inr rfl, Or.inr rfl, trivial⟩
theorem d337_0 : dc 337 0 = some (.iconst 0, 1) := by decide +kernel
theorem d337_1 : dc 337 1 = some (.istore_n 1, 2) := by decide +kernel
theorem d337_2 : dc 337 2 = some (.iconst 0, 3) := by decide +kernel
theorem d337_3 : dc 337 3 = some (.istore_n 2, 4) := by decide +kernel
theorem d337_4 : dc 337 4 = some (.iload_n 2, 5) := by decide +kernel
theorem d337_5 : dc 337 5 = some (.aload_n 0, 6) := by decide +kernel
theorem d337_6 : dc 337 6 = some (.dload 1664, 9) := by decide +kernel
theorem d337_9 : dc 337 9 = some (.getfield 1417, 12) := by decide +kernel
theorem d337_12 : dc 337 12 = some (.if_icmp .ge ((41 : Nat) : Int), 15) := by decide +kernel
theorem d337_15 : dc 337 15 = some (.iload_n 1, 16) := by decide +kernel
theorem d337_16 : dc 337 16 = some (.aload_n 0, 17) := by decide +kernel
theorem d337_17 : dc 337 17 = some (.dload 1664, 20) := by decide +kernel
theorem d337_20 : dc 337 20 = some (.dload 1420, 23) := by decide +kernel
theorem d337_23 : dc 337 23 = some (.iload_n 2, 24) := by decide +kernel
theorem d337_24 : dc 337 24 = some (.baload, 25) := by decide +kernel
theorem d337_25 : dc 337 25 = some (.ifCond .eq ((32 : Nat) : Int), 28) := by decide +kernel
theorem d337_28 : dc 337 28 = some (.iconst 1, 29) := by decide +kernel
theorem d337_29 : dc 337 29 = some (.goto ((33 : Nat) : Int), 32) := by decide +kernel
theorem d337_32 : dc 337 32 = some (.iconst 0, 33) := by decide +kernel
theorem d337_33 : dc 337 33 = some (.iadd, 34) := by decide +kernel
theorem d337_34 : dc 337 34 = some (.istore_n 1, 35) := by decide +kernel
theorem d337_35 : dc 337 35 = some (.iinc 2 1, 38) := by decide +kernel
theorem d337_38 : dc 337 38 = some (.goto ((4 : Nat) : Int), 41) := by decide +kernel
theorem d337_41 : dc 337 41 = some (.iload_n 1, 42) := by decide +kernel
theorem d337_42 : dc 337 42 = some (.ireturn, 43) := by decide +kernel
theorem k_M_thereCount {S : Shp} {G : Nat → Option Nat} {d : Nat} {h : Hp} {Q : Option MV → Hp → Prop} {m : Nat} {N0 : PlV} (ok : Ok S h) (h1 : 1 ≤ d) (hm : sK S m = 14) (NF : DfC S h (sT S 1664 m) N0) 
    (kk : Q (some (vI (cntH N0.2.2 N0.2.2.length : Nat))) h) : Cl G d 337 [vR (some m)] h Q := by
  show Wp G d 337 0 [some (vR (some m)), none, none] [] h Q
  have NF_0 := NF
  have htl := NF.2.2.2.1
  refine w_iconst d337_0 (by decide) ?_
  refine w_istore1 d337_1 rfl ?_
  refine w_iconst d337_2 (by decide) ?_
  refine w_istore2 d337_3 rfl ?_
  have L4 : ∀ (m4 : Nat) (i : Nat), N0.2.2.length - i = m4 → (i ≤ N0.2.2.length) → Wp G d 337 4 [some (vR (some m)), some (vI (cntH N0.2.2 i : Nat)), some (vI (i : Nat))] [] h Q := by
    intro m4
    induction m4 using Nat.strongRecOn with | ind m4 IH4 => ?_
    intro i hm4 il
    refine w_iload_n d337_4 rfl ?_
    refine w_aload_n d337_5 rfl ?_
    refine w_dloadS d337_6 (ok.kd hm) (fr1664 ok hm) ?_
    refine w_getI (x := ((N0.2.2.length : Nat) : Int)) d337_9 (ok.kd (kT1664 ok hm)) NF.2.2.1 ?_
    refine w_icmpge d337_12 (fun c12 => ?_) (fun c12 => ?_)
    · have ei : i = N0.2.2.length := by omega
      rw [← ei] at kk
      refine w_iload_n d337_41 rfl ?_
      refine w_ireturn d337_42 ?_
      exact kk
    · have hi : i < N0.2.2.length := by omega
      have cl := @cntH_le N0.2.2 i
      refine w_iload_n d337_15 rfl ?_
      refine w_aload_n d337_16 rfl ?_
      refine w_dloadS d337_17 (ok.kd hm) (fr1664 ok hm) ?_
      refine w_dloadS d337_20 (ok.kd (kT1664 ok hm)) (fr1420 ok (kT1664 ok hm)) ?_
      refine w_iload_n d337_23 rfl ?_
      refine w_baloadV (x := (b2i (tH N0.2.2 i))) d337_24 (gi1420 ok (kT1664 ok hm) (by omega)) (NF.2.2.2.2 i hi).2.2.2.1 ?_
      refine w_ifeq d337_25 (fun c25 => ?_) (fun c25 => ?_)
      · have ec : cntH N0.2.2 (i + 1) = cntH N0.2.2 i := by
          rw [cntH]
          cases hz : tH N0.2.2 i with
          | true => rw [hz] at c25; exact absurd c25 (by decide)
          | false => rfl
        refine w_iconst d337_32 (by decide) ?_
        refine w_iadd d337_33 (by constructor <;> omega) ?_
        refine w_istore1 d337_34 rfl ?_
        refine w_iinc2 d337_35 rfl (by constructor <;> omega) ?_
        refine w_goto d337_38 ?_
        rw [show ((i : Nat) : Int) + 1 = ((i + 1 : Nat) : Int) by omega]
        rw [show ((cntH N0.2.2 i : Nat) : Int) + 0 = ((cntH N0.2.2 (i + 1) : Nat) : Int) by rw [ec]; omega]
        refine w_less ?_ (IH4 _ (by omega) (i + 1) rfl (by omega))
        exact ⟨Or.inr rfl, Or.inr rfl, Or.inr rfl, trivial⟩
      · have ec : cntH N0.2.2 (i + 1) = cntH N0.2.2 i + 1 := by
          rw [cntH]
          cases hz : tH N0.2.2 i with
          | true => rfl
          | false => rw [hz] at c25; exact absurd rfl c25
        refine w_iconst d337_28 (by decide) ?_
        refine w_goto d337_29 ?_
        refine w_iadd d337_33 (by constructor <;> omega) ?_
        refine w_istore1 d337_34 rfl ?_
        refine w_iinc2 d337_35 rfl (by constructor <;> omega) ?_
        refine w_goto d337_38 ?_
        rw [show ((i : Nat) : Int) + 1 = ((i + 1 : Nat) : Int) by omega]
        rw [show ((cntH N0.2.2 i : Nat) : Int) + 1 = ((cntH N0.2.2 (i + 1) : Nat) : Int) by rw [ec]; omega]
        refine w_less ?_ (IH4 _ (by omega) (i + 1) rfl (by omega))
        exact ⟨Or.inr rfl, Or.inr rfl, Or.inr rfl, trivial⟩
  refine w_less ?_ (L4 _ 0 rfl (Nat.zero_le _))
  exact ⟨Or.inr rfl, Or.inr rfl, Or.inr rfl, trivial⟩
