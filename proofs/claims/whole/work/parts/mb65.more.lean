/-! the reference: more that is asked -/
/-- what is told of rules -/
noncomputable def ouM (t : Nat) (rs : List RuV) (nu : Nat → Int) (n : Nat) (l : List Nat) : List Nat :=
  if t = 28 then rusTxt rs rs.length else if t = 29 then (if solR rs < 0 then txt 4 else slTxt (dgV (solR rs).toNat) 5) else if t = 30 then (if n ≠ 5 then txt 21 else (if lwb rs nu < 0 then txt 22 else txt 23 ++ dec (lwb rs nu).toNat))
  else if t = 31 then (if 0 ≤ solR rs then txt 24 else tmT rs 5 (fun _ => -1)) else djT rs l (l.length + 1) (fun _ => 0) (fun _ => 0) (fun _ => 0) (fun _ => -1) 0 0 9
noncomputable def moT (l : List Nat) (w : HoS) : List Nat := if qrT l = 26 ∨ qrT l = 27 then shT (qrT l) w (qrA l (qrN l)).1 (fun _ => false) false else ouM (qrT l) w.2.1 (qrN l) (qrK l) l
theorem qr_30 {l : List Nat} (t30 : qrT l = 30) : ∀ c ∈ (qrP l).2.2.2, c ≤ 3 := by
  intro c hc
  unfold qrP at hc
  rw [t30, vf_x.2.2.2.1] at hc
  have hc : c ∈ ([] : List Nat) ++ (pVer l 4096 (qrB l)).2.2 := hc
  rw [List.nil_append] at hc
  exact pVer_le _ _ c hc
theorem qr_32 {l : List Nat} (e : qrR l = true) (t32 : qrT l = 32) : qrB l = 9 ∧ pTr l 4096 1 9 = (true, l.length) := by
  have b : qrB l = 9 := by
    unfold qrR at e
    simp only [Bool.and_eq_true] at e
    obtain ⟨t, ht⟩ := Option.isSome_iff_exists.mp e.1
    have g := (vbR_le (l := l) 35 0 0 (Nat.zero_le _)).2 t ht
    have et : t = 32 := by unfold qrT at t32; rw [ht] at t32; exact t32
    rw [et] at g
    unfold qrB
    rw [g.2.2.1]; exact vw_32.2
  refine ⟨b, ?_⟩
  unfold qrR at e
  simp only [Bool.and_eq_true, decide_eq_true_eq] at e
  have e2 := e.2
  unfold qrP at e2
  rw [t32, show vf 32 = [114] by decide +kernel, b] at e2
  have a1 : (pTr l 4096 1 9).1 = true := e2.1
  have a2 : (pTr l 4096 1 9).2 = l.length := e2.2
  rw [← a1, ← a2]
theorem k_M_cutB {S : Shp} {G : Nat → Option Nat} {d : Nat} {h : Hp} {Q : Option MV → Hp → Prop} {m : Nat} {n : Nat} {la : List Nat} {lt sh : Int} {u : Nat} {bs : Nat → Int} (ok : Ok S h) (h1 : 5 ≤ d) (hm : sK S m = 14) (TE : TeR S h m la) (LT : FI h 1737 m = lt) (US : FI h 1735 m = ((u : Nat) : Int)) (BO : ArI S h m 1734 bs 2048) (SH : FI h 1736 m = sh) (tg : Tg S G) (hn : n ≤ 9999) (hu : u ≤ 2048) (hlt : lt ≤ u)
    (k0 : ∀ h', Fr S m [1734, 1736, 1732, 1733] h h' → (lt < 0 ∨ ((u : Nat) : Int) - lt < (n : Int)) → TeR S h' m (addBs 20000 la (txt 40)) → ArI S h' m 1734 bs 2048 → FI h' 1736 m = sh → Q none h')
    (k1 : ∀ h', Fr S m [1734, 1736, 1732, 1733] h h' → 0 ≤ lt → (n : Int) ≤ ((u : Nat) : Int) - lt → TeR S h' m (addBs 20000 la (txt 36)) → ArI S h' m 1734 (cuF bs (lt.toNat + n) u) 2048 → FI h' 1736 m = 1 → Q none h') : Cl G d 331 [vR (some m), vI (n : Nat)] h Q := by
  show Wp G d 331 0 [some (vR (some m)), some (vI (n : Nat)), none] [] h Q
  have TE_0 := TE
  have LT_0 := LT
  have US_0 := US
  have BO_0 := BO
  have SH_0 := SH
  refine w_aload_n d331_0 rfl ?_
  refine w_getI (x := lt) d331_1 (ok.kd hm) LT ?_
  refine w_iflt d331_4 (fun c4 => ?_) (fun c4 => ?_)
  · refine w_aload_n d331_20 rfl ?_
    obtain ⟨g21, v21, s21⟩ := tg.al ok 40 (by decide)
    refine w_getstaticS d331_21 v21 ?_
    refine w_callv2 d331_24 (by omega) rfl (ok.kd hm) (by simp) (Nat.le_of_ble_eq_true rfl) ?_
    refine k_M_say ok (by omega) hm TE s21 (fun h24 m24 q24 TE => ?_)
    have f24 : Fr S m [1732, 1733] _ _ := Fr.mk ok m24 (fun ζ q => q.elim ((fun ζ e => Or.inl e) ζ) ((fun ζ e => Or.inr ⟨1732, by decide, e ▸ U_refl⟩) ζ)) q24 (by decide)
    have ok24 := f24.ok
    have FR24 := Fr.le (F := [1734, 1736, 1732, 1733]) f24 (by decide)
    have LT := (f24.i 1737).trans LT
    have US := (f24.i 1735).trans US
    have BO := BO.r f24 hm
    have SH := (f24.i 1736).trans SH
    refine w_return d331_27 ?_
    exact k0 h24 FR24 (Or.inl (by omega)) TE BO SH
  · refine w_iload_n d331_7 rfl ?_
    refine w_aload_n d331_8 rfl ?_
    refine w_getI (x := ((u : Nat) : Int)) d331_9 (ok.kd hm) US ?_
    refine w_aload_n d331_12 rfl ?_
    refine w_getI (x := lt) d331_13 (ok.kd hm) LT ?_
    refine w_isub d331_16 (by constructor <;> omega) ?_
    refine w_icmple d331_17 (fun c17 => ?_) (fun c17 => ?_)
    · obtain ⟨f0, hf0⟩ : ∃ f0 : Nat, lt = (f0 : Int) := ⟨lt.toNat, by omega⟩
      have et : lt.toNat = f0 := by omega
      refine w_aload_n d331_28 rfl ?_
      refine w_getI (x := ((f0 : Nat) : Int)) d331_29 (ok.kd hm) (LT.trans hf0) ?_
      refine w_iload_n d331_32 rfl ?_
      refine w_iadd d331_33 (by constructor <;> omega) ?_
      rw [show ((f0 : Nat) : Int) + ((n : Nat) : Int) = ((f0 + n : Nat) : Int) by omega]
      refine w_istore2 d331_34 rfl ?_
      have L35 : ∀ (m35 : Nat) (g : Hp) (i : Nat), u - i = m35 → Fr S m [1734, 1736, 1732, 1733] h g → (f0 + n ≤ i ∧ i ≤ u) → (∀ j, j < 2048 → AI g (sT S 1734 m) j = if f0 + n ≤ j ∧ j < i then 0 else bs j) → (TeR S g m la) → Wp G d 331 35 [some (vR (some m)), some (vI (n : Nat)), some (vI (i : Nat))] [] g Q := by
        intro m35
        induction m35 using Nat.strongRecOn with | ind m35 IH35 => ?_
        intro g i hm35 FRg il hc TE
        have okg := FRg.ok
        have LT := (FRg.i 1737).trans LT_0
        have US := (FRg.i 1735).trans US_0
        refine w_iload_n d331_35 rfl ?_
        refine w_aload_n d331_36 rfl ?_
        refine w_getI (x := ((u : Nat) : Int)) d331_37 (okg.kd hm) US ?_
        refine w_icmpge d331_40 (fun c40 => ?_) (fun c40 => ?_)
        · have ei : i = u := by omega
          refine w_aload_n d331_56 rfl ?_
          refine w_iconst d331_57 (by decide) ?_
          refine wf1736 d331_58 okg hm (by omega) (fun h58 e58 m58 => ?_)
          have f58 : Fr S m [1736] _ _ := Fr.wF okg m58 (FK.pI e58)
          have ok58 := f58.ok
          have FR58 := Fr.tr (F := [1734, 1736, 1732, 1733]) FRg f58 (by decide) (by decide)
          have TE := TE.r f58 hm
          have LT := (f58.i 1737).trans LT
          have US := (f58.i 1735).trans US
          have SH : FI h58 1736 m = 1 := by rw [e58, FI_sFI, if_pos ⟨rfl, rfl⟩]
          have BO : ArI S h58 m 1734 (cuF bs (lt.toNat + n) u) 2048 := fun j hj => by rw [f58.ai (by have := kT1734 ok hm; omega) (by decide) (by decide) (by decide), hc j hj, et, ei]; rfl
          refine w_aload_n d331_61 rfl ?_
          obtain ⟨g62, v62, s62⟩ := tg.al ok58 36 (by decide)
          refine w_getstaticS d331_62 v62 ?_
          refine w_callv2 d331_65 (by omega) rfl (ok58.kd hm) (by simp) (Nat.le_of_ble_eq_true rfl) ?_
          refine k_M_say ok58 (by omega) hm TE s62 (fun h65 m65 q65 TE => ?_)
          have f65 : Fr S m [1732, 1733] _ _ := Fr.mk ok58 m65 (fun ζ q => q.elim ((fun ζ e => Or.inl e) ζ) ((fun ζ e => Or.inr ⟨1732, by decide, e ▸ U_refl⟩) ζ)) q65 (by decide)
          have ok65 := f65.ok
          have FR65 := Fr.tr (F := [1734, 1736, 1732, 1733]) FR58 f65 (by decide) (by decide)
          have LT := (f65.i 1737).trans LT
          have US := (f65.i 1735).trans US
          have SH := (f65.i 1736).trans SH
          have BO := BO.r f65 hm
          refine w_return d331_68 ?_
          exact k1 h65 FR65 (by omega) (by omega) TE BO SH
        · have hi : i < u := by omega
          refine w_aload_n d331_43 rfl ?_
          refine w_dloadS d331_44 (okg.kd hm) (fr1734 okg hm) ?_
          refine w_iload_n d331_47 rfl ?_
          refine w_iconst d331_48 (by decide) ?_
          refine wa1734 d331_49 okg hm (by omega) (by omega) (fun h49 e49 m49 => ?_)
          have e49 : h49 = sAI g (sT S 1734 m) i 0 := e49
          have f49 : Fr S m [1734] _ _ := Fr.wB okg hm m49 (fun ζ e => ⟨1734, by decide, by decide, e ▸ U_refl⟩)
          have ok49 := f49.ok
          have FR49 := Fr.tr (F := [1734, 1736, 1732, 1733]) FRg f49 (by decide) (by decide)
          have TE := TE.r f49 hm
          have LT := (f49.i 1737).trans LT
          have US := (f49.i 1735).trans US
          refine w_iinc2 d331_50 rfl (by constructor <;> omega) ?_
          refine w_goto d331_53 ?_
          rw [show ((i : Nat) : Int) + 1 = ((i + 1 : Nat) : Int) by omega]
          refine w_less ?_ (IH35 _ (by omega) h49 (i + 1) rfl FR49 ⟨by omega, by omega⟩ (fun j hj => by rw [e49, sArr]; by_cases q : j = i; rw [if_pos q, if_pos (by omega)]; rw [if_neg q, hc j hj]; by_cases q2 : f0 + n ≤ j ∧ j < i; rw [if_pos q2, if_pos (by omega)]; rw [if_neg q2, if_neg (by omega)]) TE)
          exact ⟨Or.inr rfl, Or.inr rfl, Or.inr rfl, trivial⟩
      refine w_less ?_ (L35 _ h (f0 + n) rfl (Fr.refl ok) ⟨Nat.le_refl _, by omega⟩ (fun j hj => by rw [if_neg (by omega)]; exact BO j hj) TE)
      exact ⟨Or.inr rfl, Or.inr rfl, Or.inr rfl, trivial⟩
    · refine w_aload_n d331_20 rfl ?_
      obtain ⟨g21, v21, s21⟩ := tg.al ok 40 (by decide)
      refine w_getstaticS d331_21 v21 ?_
      refine w_callv2 d331_24 (by omega) rfl (ok.kd hm) (by simp) (Nat.le_of_ble_eq_true rfl) ?_
      refine k_M_say ok (by omega) hm TE s21 (fun h24 m24 q24 TE => ?_)
      have f24 : Fr S m [1732, 1733] _ _ := Fr.mk ok m24 (fun ζ q => q.elim ((fun ζ e => Or.inl e) ζ) ((fun ζ e => Or.inr ⟨1732, by decide, e ▸ U_refl⟩) ζ)) q24 (by decide)
      have ok24 := f24.ok
      have FR24 := Fr.le (F := [1734, 1736, 1732, 1733]) f24 (by decide)
      have LT := (f24.i 1737).trans LT
      have US := (f24.i 1735).trans US
      have BO := BO.r f24 hm
      have SH := (f24.i 1736).trans SH
      refine w_return d331_27 ?_
      exact k0 h24 FR24 (Or.inr (by omega)) TE BO SH
theorem d317_0 : dc 317 0 = some (.aload_n 0, 1) := by decide +kernel
theorem d317_1 : dc 317 1 = some (.getfield 1739, 4) := by decide +kernel
theorem d317_4 : dc 317 4 = some (.tableswitch ((142 : Nat) : Int) 26 33 #[((52 : Nat) : Int), ((63 : Nat) : Int), ((94 : Nat) : Int), ((101 : Nat) : Int), ((108 : Nat) : Int), ((115 : Nat) : Int), ((122 : Nat) : Int), ((129 : Nat) : Int)], 52) := by decide +kernel
theorem d317_52 : dc 317 52 = some (.aload_n 0, 53) := by decide +kernel
theorem d317_53 : dc 317 53 = some (.aload_n 0, 54) := by decide +kernel
theorem d317_54 : dc 317 54 = some (.getfield 1701, 57) := by decide +kernel
theorem d317_57 : dc 317 57 = some (.invokevirtual 219, 60) := by decide +kernel
theorem d317_60 : dc 317 60 = some (.goto ((146 : Nat) : Int), 63) := by decide +kernel
theorem d317_63 : dc 317 63 = some (.iload_n 1, 64) := by decide +kernel
theorem d317_64 : dc 317 64 = some (.ifCond .lt ((76 : Nat) : Int), 67) := by decide +kernel
theorem d317_67 : dc 317 67 = some (.aload_n 0, 68) := by decide +kernel
theorem d317_68 : dc 317 68 = some (.dload 1674, 71) := by decide +kernel
theorem d317_71 : dc 317 71 = some (.iload_n 1, 72) := by decide +kernel
theorem d317_72 : dc 317 72 = some (.baload, 73) := by decide +kernel
theorem d317_73 : dc 317 73 = some (.ifCond .ne ((86 : Nat) : Int), 76) := by decide +kernel
theorem d317_76 : dc 317 76 = some (.aload_n 0, 77) := by decide +kernel
theorem d317_77 : dc 317 77 = some (.getstatic 54, 80) := by decide +kernel
theorem d317_80 : dc 317 80 = some (.invokevirtual 217, 83) := by decide +kernel
theorem d317_83 : dc 317 83 = some (.goto ((146 : Nat) : Int), 86) := by decide +kernel
theorem d317_86 : dc 317 86 = some (.aload_n 0, 87) := by decide +kernel
theorem d317_87 : dc 317 87 = some (.iload_n 1, 88) := by decide +kernel
theorem d317_88 : dc 317 88 = some (.invokevirtual 298, 91) := by decide +kernel
theorem d317_91 : dc 317 91 = some (.goto ((146 : Nat) : Int), 94) := by decide +kernel
theorem d317_94 : dc 317 94 = some (.aload_n 0, 95) := by decide +kernel
theorem d317_95 : dc 317 95 = some (.invokevirtual 318, 98) := by decide +kernel
theorem d317_98 : dc 317 98 = some (.goto ((146 : Nat) : Int), 101) := by decide +kernel
theorem d317_101 : dc 317 101 = some (.aload_n 0, 102) := by decide +kernel
theorem d317_102 : dc 317 102 = some (.invokevirtual 319, 105) := by decide +kernel
theorem d317_105 : dc 317 105 = some (.goto ((146 : Nat) : Int), 108) := by decide +kernel
theorem d317_108 : dc 317 108 = some (.aload_n 0, 109) := by decide +kernel
theorem d317_109 : dc 317 109 = some (.invokevirtual 325, 112) := by decide +kernel
theorem d317_112 : dc 317 112 = some (.goto ((146 : Nat) : Int), 115) := by decide +kernel
theorem d317_115 : dc 317 115 = some (.aload_n 0, 116) := by decide +kernel
theorem d317_116 : dc 317 116 = some (.invokevirtual 326, 119) := by decide +kernel
theorem d317_119 : dc 317 119 = some (.goto ((146 : Nat) : Int), 122) := by decide +kernel
theorem d317_122 : dc 317 122 = some (.aload_n 0, 123) := by decide +kernel
theorem d317_123 : dc 317 123 = some (.invokevirtual 328, 126) := by decide +kernel
theorem d317_126 : dc 317 126 = some (.goto ((146 : Nat) : Int), 129) := by decide +kernel
theorem d317_146 : dc 317 146 = some (.return_, 147) := by decide +kernel
theorem k_M_askMoreA {S : Shp} {G : Nat → Option Nat} {d : Nat} {h : Hp} {Q : Option MV → Hp → Prop} {m : Nat} {u : Int} {w : HoS} {l la : List Nat} {k : Nat} (ok : Ok S h) (h1 : 13 ≤ d) (hm : sK S m = 14) (NF : DfC S h (sT S 1664 m) w.1) (RS : RsR S h m w.2.1) (SX : SxR S h m w.2.2) (TE : TeR S h m la) (RQ : RqR S h m l) (NK : FI h 1739 m = ((qrT l : Nat) : Int)) (RD : RdF S h m l (qrB l) (qrT l)) (tg : Tg S G) (er : qrR l = true) (ht : 26 ≤ qrT l ∧ qrT l ≤ 32) (hu : qrT l = 27 → u = tix w.1.2.2 (qrA l (qrN l)).1) (h4 : l.length ≤ 4096) (I : wInv k w) (hk : k ≤ 100000)
    (kk : ∀ h', Fr S m [1726, 1727, 1732, 1733, 1762, 1763] h h' → TeR S h' m (addBs 20000 la (moT l w)) → Q none h') : Cl G d 317 [vR (some m), vI u] h Q := by
  show Wp G d 317 0 [some (vR (some m)), some (vI u)] [] h Q
  have NF_0 := NF
  have RS_0 := RS
  have SX_0 := SX
  have TE_0 := TE
  have RQ_0 := RQ
  have NK_0 := NK
  refine w_aload_n d317_0 rfl ?_
  refine w_getI (x := ((qrT l : Nat) : Int)) d317_1 (ok.kd hm) NK ?_
  by_cases s26 : qrT l = 26
  · refine w_tsw 52 d317_4 (by rw [s26]; decide) ?_
    obtain ⟨nn, br, TF, SE, ST, HA, NE, nb, RN, GN, SP, ED, RL, rb, GR⟩ := SX
    obtain ⟨wk, bu, bp, kf, pf, lf, ks, pb, WK, WP, BU, KP, LP, RE, CT, PT, PU, I_, ke⟩ := SE
    have kl : (seGo w.2.2).2.2.2.1.length = ks.length := by rw [ke, ksO_len]
    have k24 := KP.2.1
    refine w_aload_n d317_52 rfl ?_
    refine w_aload_n d317_53 rfl ?_
    refine w_getI (x := ((ks.length : Nat) : Int)) d317_54 (ok.kd hm) KP.1 ?_
    refine w_callv2 d317_57 (by omega) rfl (ok.kd hm) (by simp) (Nat.le_of_ble_eq_true rfl) ?_
    refine k_M_number (n := 9) ok (by omega) hm (by omega) TE (by omega) (by decide) (fun h57 m57 q57 TE => ?_)
    have f57 : Fr S m [1732, 1733] _ _ := Fr.mk ok m57 (fun ζ q => q.elim ((fun ζ e => Or.inl e) ζ) ((fun ζ e => Or.inr ⟨1732, by decide, e ▸ U_refl⟩) ζ)) q57 (by decide)
    have ok57 := f57.ok
    have FR57 := Fr.le (F := [1726, 1727, 1732, 1733, 1762, 1763]) f57 (by decide)
    have NF := DfC.r (f := 1664) f57 hm (by decide) NF
    have RS := RsR.s f57 hm RS
    have RQ := RQ.r f57 hm
    have NK := (f57.i 1739).trans NK
    refine w_goto d317_60 ?_
    refine w_return d317_146 ?_
    have eT : moT l w = dec ks.length := by unfold moT; rw [if_pos (by omega)]; unfold shT; rw [if_neg (by omega), if_neg (by omega), if_neg (by omega), if_neg (by omega), if_neg (by omega), if_neg (by omega), if_neg (by omega), if_neg (by omega), if_neg (by omega), if_pos (by omega)]; rw [kl]
    refine kk _ FR57 ?_
    rw [eT]
    exact TE
  by_cases s27 : qrT l = 27
  · refine w_tsw 63 d317_4 (by rw [s27]; decide) ?_
    obtain ⟨nn, br, TF, SE, ST, HA, NE, nb, RN, GN, SP, ED, RL, rb, GR⟩ := SX
    have tr := tix_rg w.1.2.2 (qrA l (qrN l)).1
    have hl14 := NF.2.2.2.1
    have hu := hu s27
    refine w_iload_n d317_63 rfl ?_
    refine w_iflt d317_64 (fun c64 => ?_) (fun c64 => ?_)
    · refine w_aload_n d317_76 rfl ?_
      obtain ⟨g77, v77, s77⟩ := tg.al ok 4 (by decide)
      refine w_getstaticS d317_77 v77 ?_
      refine w_callv2 d317_80 (by omega) rfl (ok.kd hm) (by simp) (Nat.le_of_ble_eq_true rfl) ?_
      refine k_M_say ok (by omega) hm TE s77 (fun h80 m80 q80 TE => ?_)
      have f80 : Fr S m [1732, 1733] _ _ := Fr.mk ok m80 (fun ζ q => q.elim ((fun ζ e => Or.inl e) ζ) ((fun ζ e => Or.inr ⟨1732, by decide, e ▸ U_refl⟩) ζ)) q80 (by decide)
      have ok80 := f80.ok
      have FR80 := Fr.le (F := [1726, 1727, 1732, 1733, 1762, 1763]) f80 (by decide)
      have NF := DfC.r (f := 1664) f80 hm (by decide) NF
      have RS := RsR.s f80 hm RS
      have RQ := RQ.r f80 hm
      have NK := (f80.i 1739).trans NK
      refine w_goto d317_83 ?_
      refine w_return d317_146 ?_
      have eT : moT l w = txt 4 := by unfold moT; rw [if_pos (by omega)]; unfold shT; rw [if_neg (by omega), if_neg (by omega), if_neg (by omega), if_neg (by omega), if_neg (by omega), if_neg (by omega), if_neg (by omega), if_neg (by omega), if_neg (by omega), if_neg (by omega), if_pos (by omega)]; rw [if_neg (fun z => by omega)]
      refine kk _ FR80 ?_
      rw [eT]
      exact TE
    · obtain ⟨j, hj⟩ : ∃ j : Nat, u = (j : Int) := ⟨u.toNat, by omega⟩
      have ej : (tix w.1.2.2 (qrA l (qrN l)).1).toNat = j := by omega
      rw [hj]
      refine w_aload_n d317_67 rfl ?_
      refine w_dloadS d317_68 (ok.kd hm) (fr1674 ok hm) ?_
      refine w_iload_n d317_71 rfl ?_
      refine w_baloadV (x := (b2i (w.2.2.2.1 j).1)) d317_72 (gi1674 ok hm (by omega)) (ED j (by omega)).1 ?_
      refine w_ifne d317_73 (fun c73 => ?_) (fun c73 => ?_)
      · have rt : (w.2.2.2.1 j).1 = true := by
          cases hz : (w.2.2.2.1 j).1 with
          | true => rfl
          | false => rw [hz] at c73; exact absurd rfl c73
        refine w_aload_n d317_86 rfl ?_
        refine w_iload_n d317_87 rfl ?_
        refine w_callv2 d317_88 (by omega) rfl (ok.kd hm) (by simp) (Nat.le_of_ble_eq_true rfl) ?_
        refine k_M_sayEdition (t := j) ok (by omega) hm TE ED (by omega) (fun i _ => by have := I.2.2.2.2 j i; omega) (fun h88 f88 TE => ?_)
        have ok88 := f88.ok
        have FR88 := Fr.le (F := [1726, 1727, 1732, 1733, 1762, 1763]) f88 (by decide)
        have NF := DfC.r (f := 1664) f88 hm (by decide) NF
        have RS := RsR.s f88 hm RS
        have RQ := RQ.r f88 hm
        have NK := (f88.i 1739).trans NK
        refine w_goto d317_91 ?_
        refine w_return d317_146 ?_
        have eT : moT l w = ediTxt (w.2.2.2.2.1 j) 3 := by unfold moT; rw [if_pos (by omega)]; unfold shT; rw [if_neg (by omega), if_neg (by omega), if_neg (by omega), if_neg (by omega), if_neg (by omega), if_neg (by omega), if_neg (by omega), if_neg (by omega), if_neg (by omega), if_neg (by omega), if_pos (by omega)]; rw [ej, if_pos ⟨⟨by omega, by omega⟩, rt⟩]
        refine kk _ FR88 ?_
        rw [eT]
        exact TE
      · have rf : (w.2.2.2.1 j).1 = false := by
          cases hz : (w.2.2.2.1 j).1 with
          | true => rw [hz] at c73; exact absurd c73 (by decide)
          | false => rfl
        refine w_aload_n d317_76 rfl ?_
        obtain ⟨g77, v77, s77⟩ := tg.al ok 4 (by decide)
        refine w_getstaticS d317_77 v77 ?_
        refine w_callv2 d317_80 (by omega) rfl (ok.kd hm) (by simp) (Nat.le_of_ble_eq_true rfl) ?_
        refine k_M_say ok (by omega) hm TE s77 (fun h80 m80 q80 TE => ?_)
        have f80 : Fr S m [1732, 1733] _ _ := Fr.mk ok m80 (fun ζ q => q.elim ((fun ζ e => Or.inl e) ζ) ((fun ζ e => Or.inr ⟨1732, by decide, e ▸ U_refl⟩) ζ)) q80 (by decide)
        have ok80 := f80.ok
        have FR80 := Fr.le (F := [1726, 1727, 1732, 1733, 1762, 1763]) f80 (by decide)
        have NF := DfC.r (f := 1664) f80 hm (by decide) NF
        have RS := RsR.s f80 hm RS
        have RQ := RQ.r f80 hm
        have NK := (f80.i 1739).trans NK
        refine w_goto d317_83 ?_
        refine w_return d317_146 ?_
        have eT : moT l w = txt 4 := by unfold moT; rw [if_pos (by omega)]; unfold shT; rw [if_neg (by omega), if_neg (by omega), if_neg (by omega), if_neg (by omega), if_neg (by omega), if_neg (by omega), if_neg (by omega), if_neg (by omega), if_neg (by omega), if_neg (by omega), if_pos (by omega)]; rw [ej, if_neg (fun z => by rw [rf] at z; exact absurd z.2 Bool.false_ne_true)]
        refine kk _ FR80 ?_
        rw [eT]
        exact TE
  by_cases s28 : qrT l = 28
  · refine w_tsw 94 d317_4 (by rw [s28]; decide) ?_
    refine w_aload_n d317_94 rfl ?_
    refine w_callv1 d317_95 (by omega) rfl (ok.kd hm) (by simp) (Nat.le_of_ble_eq_true rfl) ?_
    refine k_M_tellRules ok (by omega) hm RS TE (fun h95 f95 TE => ?_)
    have ok95 := f95.ok
    have FR95 := Fr.le (F := [1726, 1727, 1732, 1733, 1762, 1763]) f95 (by decide)
    have NF := DfC.r (f := 1664) f95 hm (by decide) NF
    have RS := RsR.s f95 hm RS
    have SX := SxR.r f95 hm SX
    have RQ := RQ.r f95 hm
    have NK := (f95.i 1739).trans NK
    refine w_goto d317_98 ?_
    refine w_return d317_146 ?_
    have eT : moT l w = rusTxt w.2.1 w.2.1.length := by unfold moT; rw [if_neg (by omega)]; unfold ouM; rw [if_pos (by omega)]
    refine kk _ FR95 ?_
    rw [eT]
    exact TE
  by_cases s29 : qrT l = 29
  · refine w_tsw 101 d317_4 (by rw [s29]; decide) ?_
    refine w_aload_n d317_101 rfl ?_
    refine w_callv1 d317_102 (by omega) rfl (ok.kd hm) (by simp) (Nat.le_of_ble_eq_true rfl) ?_
    refine k_M_tellSolution ok (by omega) hm RS TE tg (fun h102 f102 TE => ?_)
    have ok102 := f102.ok
    have FR102 := Fr.le (F := [1726, 1727, 1732, 1733, 1762, 1763]) f102 (by decide)
    have NF := DfC.r (f := 1664) f102 hm (by decide) NF
    have RS := RsR.s f102 hm RS
    have SX := SxR.r f102 hm SX
    have RQ := RQ.r f102 hm
    have NK := (f102.i 1739).trans NK
    refine w_goto d317_105 ?_
    refine w_return d317_146 ?_
    have eT : moT l w = if solR w.2.1 < 0 then txt 4 else slTxt (dgV (solR w.2.1).toNat) 5 := by unfold moT; rw [if_neg (by omega)]; unfold ouM; rw [if_neg (by omega), if_pos (by omega)]
    refine kk _ FR102 ?_
    rw [eT]
    exact TE
  by_cases s30 : qrT l = 30
  · refine w_tsw 108 d317_4 (by rw [s30]; decide) ?_
    refine w_aload_n d317_108 rfl ?_
    refine w_callv1 d317_109 (by omega) rfl (ok.kd hm) (by simp) (Nat.le_of_ble_eq_true rfl) ?_
    refine k_M_meets (xs := (qrP l).2.2.2) ok (by omega) hm RS TE (RD.2.2.2.2.2.2 s30).1 (RD.2.2.2.2.2.2 s30).2 tg (qr_30 s30) (fun h109 f109 TE => ?_)
    have ok109 := f109.ok
    have FR109 := Fr.le (F := [1726, 1727, 1732, 1733, 1762, 1763]) f109 (by decide)
    have NF := DfC.r (f := 1664) f109 hm (by decide) NF
    have RS := RsR.s f109 hm RS
    have SX := SxR.r f109 hm SX
    have RQ := RQ.r f109 hm
    have NK := (f109.i 1739).trans NK
    refine w_goto d317_112 ?_
    refine w_return d317_146 ?_
    have eT : moT l w = if qrK l ≠ 5 then txt 21 else (if lwb w.2.1 (qrN l) < 0 then txt 22 else txt 23 ++ dec (lwb w.2.1 (qrN l)).toNat) := by unfold moT; rw [if_neg (by omega)]; unfold ouM; rw [if_neg (by omega), if_neg (by omega), if_pos (by omega)]
    refine kk _ FR109 ?_
    rw [eT]
    exact TE
  by_cases s31 : qrT l = 31
  · refine w_tsw 115 d317_4 (by rw [s31]; decide) ?_
    refine w_aload_n d317_115 rfl ?_
    refine w_callv1 d317_116 (by omega) rfl (ok.kd hm) (by simp) (Nat.le_of_ble_eq_true rfl) ?_
    refine k_M_refute ok (by omega) hm RS TE tg (fun h116 f116 TE => ?_)
    have ok116 := f116.ok
    have FR116 := Fr.le (F := [1726, 1727, 1732, 1733, 1762, 1763]) f116 (by decide)
    have NF := DfC.r (f := 1664) f116 hm (by decide) NF
    have RS := RsR.s f116 hm RS
    have SX := SxR.r f116 hm SX
    have RQ := RQ.r f116 hm
    have NK := (f116.i 1739).trans NK
    refine w_goto d317_119 ?_
    refine w_return d317_146 ?_
    have eT : moT l w = if 0 ≤ solR w.2.1 then txt 24 else tmT w.2.1 5 (fun _ => -1) := by unfold moT; rw [if_neg (by omega)]; unfold ouM; rw [if_neg (by omega), if_neg (by omega), if_neg (by omega), if_pos (by omega)]
    refine kk _ FR116 ?_
    rw [eT]
    exact TE
  refine w_tsw 122 d317_4 (by rw [show qrT l = 32 by omega]; decide) ?_
  have s32 : qrT l = 32 := by omega
  obtain ⟨b9, p32⟩ := qr_32 er s32
  refine w_aload_n d317_122 rfl ?_
  refine w_callv1 d317_123 (by omega) rfl (ok.kd hm) (by simp) (Nat.le_of_ble_eq_true rfl) ?_
  refine k_M_disprove (f0 := 4096) ok (by omega) hm RS TE RQ (by rw [RD.2.2.2.2.2.1 s32, b9]) tg h4 rfl p32 (fun h123 f123 TE => ?_)
  have ok123 := f123.ok
  have FR123 := Fr.le (F := [1726, 1727, 1732, 1733, 1762, 1763]) f123 (by decide)
  have NF := DfC.r (f := 1664) f123 hm (by decide) NF
  have RS := RsR.s f123 hm RS
  have SX := SxR.r f123 hm SX
  have RQ := RQ.r f123 hm
  have NK := (f123.i 1739).trans NK
  refine w_goto d317_126 ?_
  refine w_return d317_146 ?_
  have eT : moT l w = djT w.2.1 l (l.length + 1) (fun _ => 0) (fun _ => 0) (fun _ => 0) (fun _ => -1) 0 0 9 := by unfold moT; rw [if_neg (by omega)]; unfold ouM; rw [if_neg (by omega), if_neg (by omega), if_neg (by omega), if_neg (by omega)]
  refine kk _ FR123 ?_
  rw [eT]
  exact TE
theorem d317_129 : dc 317 129 = some (.aload_n 0, 130) := by decide +kernel
theorem d317_130 : dc 317 130 = some (.aload_n 0, 131) := by decide +kernel
theorem d317_131 : dc 317 131 = some (.dload 1741, 134) := by decide +kernel
theorem d317_134 : dc 317 134 = some (.iconst 0, 135) := by decide +kernel
theorem d317_135 : dc 317 135 = some (.iaload, 136) := by decide +kernel
theorem d317_136 : dc 317 136 = some (.invokevirtual 331, 139) := by decide +kernel
theorem d317_139 : dc 317 139 = some (.goto ((146 : Nat) : Int), 142) := by decide +kernel
theorem k_M_askMoreB {S : Shp} {G : Nat → Option Nat} {d : Nat} {h : Hp} {Q : Option MV → Hp → Prop} {m : Nat} {u : Int} {l la : List Nat} {b : BkV} (ok : Ok S h) (h1 : 6 ≤ d) (hm : sK S m = 14) (TE : TeR S h m la) (NK : FI h 1739 m = ((qrT l : Nat) : Int)) (BR : BoR S h m b) (RD : RdF S h m l (qrB l) (qrT l)) (tg : Tg S G) (ht : qrT l = 33) (hu2 : b.2.1 ≤ 2048 ∧ b.2.2.1 ≤ b.2.1)
    (kk : ∀ h' cu b', Fr S m [1734, 1736, 1732, 1733] h h' → (cu = true ↔ 0 ≤ b.2.2.1 ∧ ((qrN l 0).toNat : Int) ≤ ((b.2.1 : Nat) : Int) - b.2.2.1) → b' = (if cu = true then (clB b.1 (b.2.2.1.toNat + (qrN l 0).toNat) b.2.1, b.2.1, b.2.2.1, true) else b) → TeR S h' m (addBs 20000 la (if cu = true then txt 36 else txt 40)) → BoR S h' m b' → Q none h') : Cl G d 317 [vR (some m), vI u] h Q := by
  show Wp G d 317 0 [some (vR (some m)), some (vI u)] [] h Q
  have TE_0 := TE
  have NK_0 := NK
  have BR_0 := BR
  refine w_aload_n d317_0 rfl ?_
  refine w_getI (x := ((qrT l : Nat) : Int)) d317_1 (ok.kd hm) NK ?_
  refine w_tsw 129 d317_4 (by rw [ht]; decide) ?_
  refine w_aload_n d317_129 rfl ?_
  refine w_aload_n d317_130 rfl ?_
  refine w_dloadS d317_131 (ok.kd hm) (fr1741 ok hm) ?_
  refine w_iconst d317_134 (by decide) ?_
  refine w_ialoadV (x := (((qrN l 0).toNat : Nat) : Int)) d317_135 (gi1741 ok hm (by omega)) (RD.2.2.2.2.1 0 (by rw [ht]; decide)) ?_
  refine w_callv2 d317_136 (by omega) rfl (ok.kd hm) (by simp) (Nat.le_of_ble_eq_true rfl) ?_
  have n9 := qrN_9 l 0
  refine k_M_cutB (n := (qrN l 0).toNat) ok (by omega) hm TE BR.2.2.1 BR.2.1 BR.1 BR.2.2.2 tg (by omega) hu2.1 hu2.2 (fun h1 f1 z TE BO SH => w_goto d317_139 (w_return d317_146 (kk h1 false _ f1 ⟨fun y => absurd y (by decide), fun y => by omega⟩ rfl TE ⟨BO, (f1.i 1735).trans BR.2.1, (f1.i 1737).trans BR.2.2.1, SH⟩))) (fun h136 f136 z1 z2 TE BO SH => ?_)
  have ok136 := f136.ok
  have FR136 := Fr.le (F := [1734, 1736, 1732, 1733]) f136 (by decide)
  have NK := (f136.i 1739).trans NK
  refine w_goto d317_139 ?_
  refine w_return d317_146 ?_
  exact kk _ true _ FR136 ⟨fun _ => ⟨z1, z2⟩, fun _ => rfl⟩ rfl TE ⟨fun j hj => by
    rw [BO j hj]
    show cuF _ _ _ j = ((clB b.1 (b.2.2.1.toNat + (qrN l 0).toNat) b.2.1 j : Nat) : Int)
    unfold cuF clB
    split <;> rfl, (FR136.i 1735).trans BR_0.2.1, (FR136.i 1737).trans BR_0.2.2.1, SH⟩
theorem d317_142 : dc 317 142 = some (.aload_n 0, 143) := by decide +kernel
theorem d317_143 : dc 317 143 = some (.invokevirtual 332, 146) := by decide +kernel
theorem k_M_askMoreC {S : Shp} {G : Nat → Option Nat} {d : Nat} {h : Hp} {Q : Option MV → Hp → Prop} {m : Nat} {u : Int} {w : HoS} {la l : List Nat} {B : Nat → Nat} {k : Nat} (ok : Ok S h) (h1 : 21 ≤ d) (hm : sK S m = 14) (NF : DfC S h (sT S 1664 m) w.1) (RS : RsR S h m w.2.1) (SX : SxR S h m w.2.2) (TE : TeR S h m la) (BO : ArI S h m 1734 (fun j => ((B j : Nat) : Int)) 2048) (NI : NmI h m) (RQ : RqR S h m l) (NK : FI h 1739 m = ((qrT l : Nat) : Int)) (tg : Tg S G) (I : wInv k w) (hk : k ≤ 50000) (ht : qrT l = 34)
    (kk : ∀ h' l', Fr S m [1664, 1665, 1666, 1667, 1668, 1670, 1671, 1672, 1673, 1674, 1675, 1676, 1677, 1678, 1679, 1680, 1681, 1682, 1683, 1684, 1685, 1686, 1687, 1688, 1689, 1690, 1691, 1692, 1693, 1694, 1695, 1696, 1697, 1698, 1699, 1700, 1701, 1702, 1703, 1704, 1705, 1706, 1707, 1708, 1709, 1710, 1711, 1712, 1713, 1714, 1715, 1716, 1717, 1718, 1719, 1720, 1721, 1722, 1723, 1724, 1725, 1730, 1731, 1732, 1733, 1734, 1735, 1736, 1737, 1738, 1739, 1740, 1741, 1742, 1743, 1744, 1745, 1746, 1747, 1748, 1749, 1750, 1751, 1752, 1753, 1754, 1755, 1756, 1757, 1758, 1759, 1760, 1761] h h' → DfC S h' (sT S 1664 m) (mdM B 2048 ((([], [], []), [], (w.2.2.1, (seNo w.2.2).2)) : HoS) 0 0).1.1 → RsR S h' m (mdM B 2048 ((([], [], []), [], (w.2.2.1, (seNo w.2.2).2)) : HoS) 0 0).1.2.1 → SxR S h' m (mdM B 2048 ((([], [], []), [], (w.2.2.1, (seNo w.2.2).2)) : HoS) 0 0).1.2.2 → TeR S h' m (addBs 20000 [] (dec (mdM B 2048 ((([], [], []), [], (w.2.2.1, (seNo w.2.2).2)) : HoS) 0 0).2.2)) → NmI h' m → RqR S h' m l' → BoR S h' m (clB B (mdM B 2048 ((([], [], []), [], (w.2.2.1, (seNo w.2.2).2)) : HoS) 0 0).2.1 2048, (mdM B 2048 ((([], [], []), [], (w.2.2.1, (seNo w.2.2).2)) : HoS) 0 0).2.1, -1, false) → Q none h') : Cl G d 317 [vR (some m), vI u] h Q := by
  show Wp G d 317 0 [some (vR (some m)), some (vI u)] [] h Q
  have NF_0 := NF
  have RS_0 := RS
  have SX_0 := SX
  have TE_0 := TE
  have BO_0 := BO
  have NI_0 := NI
  have RQ_0 := RQ
  have NK_0 := NK
  refine w_aload_n d317_0 rfl ?_
  refine w_getI (x := ((qrT l : Nat) : Int)) d317_1 (ok.kd hm) NK ?_
  refine w_tsw 142 d317_4 (by rw [ht]; decide) ?_
  refine w_aload_n d317_142 rfl ?_
  refine w_callv1 d317_143 (by omega) rfl (ok.kd hm) (by simp) (Nat.le_of_ble_eq_true rfl) ?_
  refine k_M_mend ok (by omega) hm NF RS SX TE BO NI RQ tg I hk (fun h143 l1 f143 NF RS SX TE NI RQ BR => ?_)
  have ok143 := f143.ok
  have FR143 := Fr.le (F := [1664, 1665, 1666, 1667, 1668, 1670, 1671, 1672, 1673, 1674, 1675, 1676, 1677, 1678, 1679, 1680, 1681, 1682, 1683, 1684, 1685, 1686, 1687, 1688, 1689, 1690, 1691, 1692, 1693, 1694, 1695, 1696, 1697, 1698, 1699, 1700, 1701, 1702, 1703, 1704, 1705, 1706, 1707, 1708, 1709, 1710, 1711, 1712, 1713, 1714, 1715, 1716, 1717, 1718, 1719, 1720, 1721, 1722, 1723, 1724, 1725, 1730, 1731, 1732, 1733, 1734, 1735, 1736, 1737, 1738, 1739, 1740, 1741, 1742, 1743, 1744, 1745, 1746, 1747, 1748, 1749, 1750, 1751, 1752, 1753, 1754, 1755, 1756, 1757, 1758, 1759, 1760, 1761]) f143 (by decide)
  refine w_return d317_146 ?_
  exact kk _ _ FR143 NF RS SX TE NI RQ BR
