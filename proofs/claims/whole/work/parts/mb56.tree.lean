/-! the reference: a tree is told -/
theorem ChR.zero {S : Shp} {h : Hp} {m : Nat} (e : ∀ p, p < 5 → AI h (sT S 1727 m) p = 0) : ChR S h m (fun _ => -1) := fun p hp => Or.inl ⟨rfl, e p hp⟩
theorem d327_0 : dc 327 0 = some (.aload_n 0, 1) := by decide +kernel
theorem d327_1 : dc 327 1 = some (.invokevirtual 322, 4) := by decide +kernel
theorem d327_4 : dc 327 4 = some (.istore_n 1, 5) := by decide +kernel
theorem d327_5 : dc 327 5 = some (.iload_n 1, 6) := by decide +kernel
theorem d327_6 : dc 327 6 = some (.ifCond .lt ((38 : Nat) : Int), 9) := by decide +kernel
theorem d327_9 : dc 327 9 = some (.aload_n 0, 10) := by decide +kernel
theorem d327_10 : dc 327 10 = some (.bipush 33, 12) := by decide +kernel
theorem d327_12 : dc 327 12 = some (.invokevirtual 218, 15) := by decide +kernel
theorem d327_15 : dc 327 15 = some (.aload_n 0, 16) := by decide +kernel
theorem d327_16 : dc 327 16 = some (.bipush 48, 18) := by decide +kernel
theorem d327_18 : dc 327 18 = some (.iload_n 1, 19) := by decide +kernel
theorem d327_19 : dc 327 19 = some (.bipush 10, 21) := by decide +kernel
theorem d327_21 : dc 327 21 = some (.idiv, 22) := by decide +kernel
theorem d327_22 : dc 327 22 = some (.iadd, 23) := by decide +kernel
theorem d327_23 : dc 327 23 = some (.invokevirtual 218, 26) := by decide +kernel
theorem d327_26 : dc 327 26 = some (.aload_n 0, 27) := by decide +kernel
theorem d327_27 : dc 327 27 = some (.bipush 48, 29) := by decide +kernel
theorem d327_29 : dc 327 29 = some (.iload_n 1, 30) := by decide +kernel
theorem d327_30 : dc 327 30 = some (.bipush 10, 32) := by decide +kernel
theorem d327_32 : dc 327 32 = some (.irem, 33) := by decide +kernel
theorem d327_33 : dc 327 33 = some (.iadd, 34) := by decide +kernel
theorem d327_34 : dc 327 34 = some (.invokevirtual 218, 37) := by decide +kernel
theorem d327_37 : dc 327 37 = some (.return_, 38) := by decide +kernel
theorem d327_38 : dc 327 38 = some (.iconst 0, 39) := by decide +kernel
theorem d327_39 : dc 327 39 = some (.istore_n 2, 40) := by decide +kernel
theorem d327_40 : dc 327 40 = some (.aload_n 0, 41) := by decide +kernel
theorem d327_41 : dc 327 41 = some (.dload 1727, 44) := by decide +kernel
theorem d327_44 : dc 327 44 = some (.iload_n 2, 45) := by decide +kernel
theorem d327_45 : dc 327 45 = some (.baload, 46) := by decide +kernel
theorem d327_46 : dc 327 46 = some (.ifCond .eq ((55 : Nat) : Int), 49) := by decide +kernel
theorem d327_49 : dc 327 49 = some (.iinc 2 1, 52) := by decide +kernel
theorem d327_52 : dc 327 52 = some (.goto ((40 : Nat) : Int), 55) := by decide +kernel
theorem d327_55 : dc 327 55 = some (.aload_n 0, 56) := by decide +kernel
theorem d327_56 : dc 327 56 = some (.bipush 63, 58) := by decide +kernel
theorem d327_58 : dc 327 58 = some (.invokevirtual 218, 61) := by decide +kernel
theorem d327_61 : dc 327 61 = some (.aload_n 0, 62) := by decide +kernel
theorem d327_62 : dc 327 62 = some (.bipush 48, 64) := by decide +kernel
theorem d327_64 : dc 327 64 = some (.iload_n 2, 65) := by decide +kernel
theorem d327_65 : dc 327 65 = some (.iadd, 66) := by decide +kernel
theorem d327_66 : dc 327 66 = some (.invokevirtual 218, 69) := by decide +kernel
theorem d327_69 : dc 327 69 = some (.aload_n 0, 70) := by decide +kernel
theorem d327_70 : dc 327 70 = some (.dload 1727, 73) := by decide +kernel
theorem d327_73 : dc 327 73 = some (.iload_n 2, 74) := by decide +kernel
theorem d327_74 : dc 327 74 = some (.iconst 1, 75) := by decide +kernel
theorem d327_75 : dc 327 75 = some (.bastore, 76) := by decide +kernel
theorem d327_76 : dc 327 76 = some (.iconst 0, 77) := by decide +kernel
theorem d327_77 : dc 327 77 = some (.istore_n 3, 78) := by decide +kernel
theorem d327_78 : dc 327 78 = some (.iload_n 3, 79) := by decide +kernel
theorem d327_79 : dc 327 79 = some (.iconst 4, 80) := by decide +kernel
theorem d327_80 : dc 327 80 = some (.if_icmp .ge ((100 : Nat) : Int), 83) := by decide +kernel
theorem d327_83 : dc 327 83 = some (.aload_n 0, 84) := by decide +kernel
theorem d327_84 : dc 327 84 = some (.dload 1726, 87) := by decide +kernel
theorem d327_87 : dc 327 87 = some (.iload_n 2, 88) := by decide +kernel
theorem d327_88 : dc 327 88 = some (.iload_n 3, 89) := by decide +kernel
theorem d327_89 : dc 327 89 = some (.iastore, 90) := by decide +kernel
theorem d327_90 : dc 327 90 = some (.aload_n 0, 91) := by decide +kernel
theorem d327_91 : dc 327 91 = some (.invokevirtual 327, 94) := by decide +kernel
theorem d327_94 : dc 327 94 = some (.iinc 3 1, 97) := by decide +kernel
theorem d327_97 : dc 327 97 = some (.goto ((78 : Nat) : Int), 100) := by decide +kernel
theorem d327_100 : dc 327 100 = some (.aload_n 0, 101) := by decide +kernel
theorem d327_101 : dc 327 101 = some (.dload 1727, 104) := by decide +kernel
theorem d327_104 : dc 327 104 = some (.iload_n 2, 105) := by decide +kernel
theorem d327_105 : dc 327 105 = some (.iconst 0, 106) := by decide +kernel
theorem d327_106 : dc 327 106 = some (.bastore, 107) := by decide +kernel
theorem d327_107 : dc 327 107 = some (.return_, 108) := by decide +kernel
theorem k_M_tellTree {S : Shp} {G : Nat → Option Nat} {d : Nat} {h : Hp} {Q : Option MV → Hp → Prop} {m : Nat} {rs : List RuV} {vl : Nat → Int} {la : List Nat} {n : Nat} (ok : Ok S h) (h1 : 4 ≤ d) (hm : sK S m = 14) (RS : RsR S h m rs) (CH : ChR S h m vl) (TE : TeR S h m la) (hd : n + 4 ≤ d) (n5 : n ≤ 5) (hv : vlN n vl) (hno : ∀ vl, (∀ p, p < 5 → 0 ≤ vl p ∧ vl p ≤ 3) → 0 ≤ lwb rs vl)
    (kk : ∀ h', Fr S m [1726, 1727, 1732, 1733] h h' → TeR S h' m (addBs 20000 la (tmT rs n vl)) → ChR S h' m vl → Q none h') : Cl G d 327 [vR (some m)] h Q := by
  show Wp G d 327 0 [some (vR (some m)), none, none, none] [] h Q
  have RS_0 := RS
  have CH_0 := CH
  have TE_0 := TE
  have lr := lwb_rg rs vl
  have r20 := RS.2.1
  refine w_aload_n d327_0 rfl ?_
  refine w_callv1 d327_1 (by omega) rfl (ok.kd hm) (by simp) (Nat.le_of_ble_eq_true rfl) ?_
  refine k_M_firstBroken ok (by omega) hm RS CH ?_
  refine w_istore1 d327_4 rfl ?_
  refine w_iload_n d327_5 rfl ?_
  refine w_iflt d327_6 (fun c6 => ?_) (fun c6 => ?_)
  · have n0 : 0 < n := by
      rcases Nat.eq_zero_or_pos n with z | z
      · rw [z] at hv
        have := hno vl (fun p hp => hv.1 p (by omega))
        omega
      · exact z
    obtain ⟨e, rfl⟩ : ∃ e, n = e + 1 := ⟨n - 1, by omega⟩
    have de : 4 - e < 5 := by omega
    refine w_iconst d327_38 (by decide) ?_
    refine w_istore2 d327_39 rfl ?_
    have L40 : ∀ (m40 : Nat) (q : Nat), 5 - q = m40 → (q ≤ 4 - e) → Wp G d 327 40 [some (vR (some m)), some (vI (lwb rs vl)), some (vI (q : Nat)), none] [] h Q := by
      intro m40
      induction m40 using Nat.strongRecOn with | ind m40 IH40 => ?_
      intro q hm40 ql
      refine w_aload_n d327_40 rfl ?_
      refine w_dloadS d327_41 (ok.kd hm) (fr1727 ok hm) ?_
      refine w_iload_n d327_44 rfl ?_
      have dc := CH q (by omega)
      refine w_baloadV (x := (AI h (sT S 1727 m) q)) d327_45 (gi1727 ok hm (by omega)) rfl ?_
      refine w_ifeq d327_46 (fun c46 => ?_) (fun c46 => ?_)
      · have eq4 : q = 4 - e := by
          rcases Nat.lt_or_ge q (4 - e) with z | z
          · have := hv.1 q (by omega)
            omega
          · omega
        rw [eq4]
        refine w_aload_n d327_55 rfl ?_
        refine w_bipush d327_56 (by decide) ?_
        refine w_callv2 d327_58 (by omega) rfl (ok.kd hm) (by simp) (Nat.le_of_ble_eq_true rfl) ?_
        refine k_M_put (c := 63) ok (by omega) hm TE (by omega) (fun h58 m58 q58 TE => ?_)
        have f58 : Fr S m [1732, 1733] _ _ := Fr.mk ok m58 (fun ζ q => q.elim ((fun ζ e => Or.inl e) ζ) ((fun ζ e => Or.inr ⟨1732, by decide, e ▸ U_refl⟩) ζ)) q58 (by decide)
        have ok58 := f58.ok
        have FR58 := Fr.le (F := [1726, 1727, 1732, 1733]) f58 (by decide)
        have RS := RsR.s f58 hm RS
        have CH := ChR.s f58 hm CH
        refine w_aload_n d327_61 rfl ?_
        refine w_bipush d327_62 (by decide) ?_
        refine w_iload_n d327_64 rfl ?_
        refine w_iadd d327_65 (by constructor <;> omega) ?_
        rw [show (48 : Int) + ((4 - e : Nat) : Int) = ((48 + (4 - e) : Nat) : Int) by omega]
        refine w_callv2 d327_66 (by omega) rfl (ok58.kd hm) (by simp) (Nat.le_of_ble_eq_true rfl) ?_
        refine k_M_put (c := (48 + (4 - e))) ok58 (by omega) hm TE (by omega) (fun h66 m66 q66 TE => ?_)
        have f66 : Fr S m [1732, 1733] _ _ := Fr.mk ok58 m66 (fun ζ q => q.elim ((fun ζ e => Or.inl e) ζ) ((fun ζ e => Or.inr ⟨1732, by decide, e ▸ U_refl⟩) ζ)) q66 (by decide)
        have ok66 := f66.ok
        have FR66 := Fr.tr (F := [1726, 1727, 1732, 1733]) FR58 f66 (by decide) (by decide)
        have RS := RsR.s f66 hm RS
        have CH := ChR.s f66 hm CH
        rw [← addBs_app] at TE
        have TE : TeR S h66 m (addBs 20000 la [63, 48 + (4 - e)]) := TE
        refine w_aload_n d327_69 rfl ?_
        refine w_dloadS d327_70 (ok66.kd hm) (fr1727 ok66 hm) ?_
        refine w_iload_n d327_73 rfl ?_
        refine w_iconst d327_74 (by decide) ?_
        refine wa1727 d327_75 ok66 hm (by omega) (by omega) (fun h75 e75 m75 => ?_)
        have e75 : h75 = sAI h66 (sT S 1727 m) (4 - e) 1 := e75
        have f75 : Fr S m [1727] _ _ := Fr.wB ok66 hm m75 (fun ζ e => ⟨1727, by decide, by decide, e ▸ U_refl⟩)
        have ok75 := f75.ok
        have FR75 := Fr.tr (F := [1726, 1727, 1732, 1733]) FR66 f75 (by decide) (by decide)
        have RS := RsR.s f75 hm RS
        have TE := TE.r f75 hm
        have CHx : ChR S h75 m (up vl (4 - e) (AI h66 (sT S 1726 m) (4 - e))) := CH.on de e75 ok66.so (ra1726 ok66 hm (4 - e))
        have rx := ra1726 ok66 hm (4 - e)
        obtain ⟨x, hx⟩ : ∃ x, AI h66 (sT S 1726 m) (4 - e) = x := ⟨_, rfl⟩
        rw [hx] at CHx rx
        refine w_iconst d327_76 (by decide) ?_
        refine w_istore3 d327_77 rfl ?_
        have L78 : ∀ (m78 : Nat) (g_ : Hp) (v : Nat) (x : Int), 4 - v = m78 → Fr S m [1726, 1727, 1732, 1733] h g_ → (v ≤ 4) → (ChR S g_ m (up vl (4 - e) x)) → (0 ≤ x ∧ x ≤ 3) → (TeR S g_ m (addBs 20000 la ([63, 48 + (4 - e)] ++ tmC rs e vl v))) → Wp G d 327 78 [some (vR (some m)), some (vI (lwb rs vl)), some (vI (4 - e : Nat)), some (vI (v : Nat))] [] g_ Q := by
          intro m78
          induction m78 using Nat.strongRecOn with | ind m78 IH78 => ?_
          intro g_ v x hm78 FRg_ vle CHx rx TE
          have okg_ := FRg_.ok
          have RS := RsR.s FRg_ hm RS_0
          refine w_iload_n d327_78 rfl ?_
          refine w_iconst d327_79 (by decide) ?_
          refine w_icmpge d327_80 (fun c80 => ?_) (fun c80 => ?_)
          · have ev : v = 4 := by omega
            rw [ev] at TE
            refine w_aload_n d327_100 rfl ?_
            refine w_dloadS d327_101 (okg_.kd hm) (fr1727 okg_ hm) ?_
            refine w_iload_n d327_104 rfl ?_
            refine w_iconst d327_105 (by decide) ?_
            refine wa1727 d327_106 okg_ hm (by omega) (by omega) (fun h106 e106 m106 => ?_)
            have e106 : h106 = sAI g_ (sT S 1727 m) (4 - e) 0 := e106
            have f106 : Fr S m [1727] _ _ := Fr.wB okg_ hm m106 (fun ζ e => ⟨1727, by decide, by decide, e ▸ U_refl⟩)
            have ok106 := f106.ok
            have FR106 := Fr.tr (F := [1726, 1727, 1732, 1733]) FRg_ f106 (by decide) (by decide)
            have RS := RsR.s f106 hm RS
            have TE := TE.r f106 hm
            have CH := CHx.off (hv.2 (4 - e) (by omega)) e106 okg_.so
            refine w_return d327_107 ?_
            exact kk h106 FR106 (by rw [tmT_q (by omega)]; exact TE) CH
          · have hv4 : v < 4 := by omega
            refine w_aload_n d327_83 rfl ?_
            refine w_dloadS d327_84 (okg_.kd hm) (fr1726 okg_ hm) ?_
            refine w_iload_n d327_87 rfl ?_
            refine w_iload_n d327_88 rfl ?_
            refine wa1726 d327_89 okg_ hm (by omega) (by omega) (fun h89 e89 m89 => ?_)
            have e89 : h89 = sAI g_ (sT S 1726 m) (4 - e) ((v : Nat) : Int) := e89
            have f89 : Fr S m [1726] _ _ := Fr.wB okg_ hm m89 (fun ζ e => ⟨1726, by decide, by decide, e ▸ U_refl⟩)
            have ok89 := f89.ok
            have FR89 := Fr.tr (F := [1726, 1727, 1732, 1733]) FRg_ f89 (by decide) (by decide)
            have RS := RsR.s f89 hm RS
            have TE := TE.r f89 hm
            have CH := CHx.put (v := ((v : Nat) : Int)) de rx ⟨by omega, by omega⟩ e89 okg_.so
            refine w_aload_n d327_90 rfl ?_
            refine w_callv1 d327_91 (by omega) rfl (ok89.kd hm) (by simp) (Nat.le_of_ble_eq_true rfl) ?_
            refine k_M_tellTree (n := e) ok89 (by omega) hm RS CH TE (by omega) (by omega) (hv.up (by omega) ⟨by omega, by omega⟩) hno (fun h91 f91 TE CH => ?_)
            have ok91 := f91.ok
            have FR91 := Fr.tr (F := [1726, 1727, 1732, 1733]) FR89 f91 (by decide) (by decide)
            have RS := RsR.s f91 hm RS
            rw [← addBs_app] at TE
            rw [List.append_assoc] at TE
            refine w_iinc3 d327_94 rfl (by constructor <;> omega) ?_
            refine w_goto d327_97 ?_
            rw [show ((v : Nat) : Int) + 1 = ((v + 1 : Nat) : Int) by omega]
            refine w_less ?_ (IH78 _ (by omega) h91 (v + 1) ((v : Nat) : Int) rfl FR91 (by omega) CH ⟨by omega, by omega⟩ TE)
            exact ⟨Or.inr rfl, Or.inr rfl, Or.inr rfl, Or.inr rfl, trivial⟩
        refine w_less ?_ (L78 _ h75 0 x rfl FR75 (by decide) CHx rx TE)
        exact ⟨Or.inr rfl, Or.inr rfl, Or.inr rfl, Or.inr rfl, trivial⟩
      · have q4 : q < 4 - e := by
          rcases Nat.lt_or_ge q (4 - e) with z | z
          · exact z
          · have := hv.2 q (by omega)
            omega
        refine w_iinc2 d327_49 rfl (by constructor <;> omega) ?_
        refine w_goto d327_52 ?_
        rw [show ((q : Nat) : Int) + 1 = ((q + 1 : Nat) : Int) by omega]
        refine w_less ?_ (IH40 _ (by omega) (q + 1) rfl (by omega))
        exact ⟨Or.inr rfl, Or.inr rfl, Or.inr rfl, Or.inl rfl, trivial⟩
    refine w_less ?_ (L40 _ 0 rfl (Nat.zero_le _))
    exact ⟨Or.inr rfl, Or.inr rfl, Or.inr rfl, Or.inl rfl, trivial⟩
  · obtain ⟨r, hr⟩ : ∃ r : Nat, lwb rs vl = (r : Int) := ⟨(lwb rs vl).toNat, by omega⟩
    have hr2 : (lwb rs vl).toNat = r := by omega
    rw [hr]
    refine w_aload_n d327_9 rfl ?_
    refine w_bipush d327_10 (by decide) ?_
    refine w_callv2 d327_12 (by omega) rfl (ok.kd hm) (by simp) (Nat.le_of_ble_eq_true rfl) ?_
    refine k_M_put (c := 33) ok (by omega) hm TE (by omega) (fun h12 m12 q12 TE => ?_)
    have f12 : Fr S m [1732, 1733] _ _ := Fr.mk ok m12 (fun ζ q => q.elim ((fun ζ e => Or.inl e) ζ) ((fun ζ e => Or.inr ⟨1732, by decide, e ▸ U_refl⟩) ζ)) q12 (by decide)
    have ok12 := f12.ok
    have FR12 := Fr.le (F := [1726, 1727, 1732, 1733]) f12 (by decide)
    have RS := RsR.s f12 hm RS
    have CH := ChR.s f12 hm CH
    refine w_aload_n d327_15 rfl ?_
    refine w_bipush d327_16 (by decide) ?_
    refine w_iload_n d327_18 rfl ?_
    refine w_bipush d327_19 (by decide) ?_
    refine w_idiv d327_21 (by decide) ?_
    rw [show ((r : Nat) : Int).tdiv 10 = ((r / 10 : Nat) : Int) by rw [Int.tdiv_eq_ediv_of_nonneg (by omega)]; omega]
    refine w_iadd d327_22 (by constructor <;> omega) ?_
    rw [show (48 : Int) + ((r / 10 : Nat) : Int) = ((48 + r / 10 : Nat) : Int) by omega]
    refine w_callv2 d327_23 (by omega) rfl (ok12.kd hm) (by simp) (Nat.le_of_ble_eq_true rfl) ?_
    refine k_M_put (c := (48 + r / 10)) ok12 (by omega) hm TE (by omega) (fun h23 m23 q23 TE => ?_)
    have f23 : Fr S m [1732, 1733] _ _ := Fr.mk ok12 m23 (fun ζ q => q.elim ((fun ζ e => Or.inl e) ζ) ((fun ζ e => Or.inr ⟨1732, by decide, e ▸ U_refl⟩) ζ)) q23 (by decide)
    have ok23 := f23.ok
    have FR23 := Fr.tr (F := [1726, 1727, 1732, 1733]) FR12 f23 (by decide) (by decide)
    have RS := RsR.s f23 hm RS
    have CH := ChR.s f23 hm CH
    refine w_aload_n d327_26 rfl ?_
    refine w_bipush d327_27 (by decide) ?_
    refine w_iload_n d327_29 rfl ?_
    refine w_bipush d327_30 (by decide) ?_
    refine w_irem d327_32 (by decide) ?_
    rw [show ((r : Nat) : Int).tmod 10 = ((r % 10 : Nat) : Int) by rw [Int.tmod_eq_emod_of_nonneg (by omega)]; omega]
    refine w_iadd d327_33 (by constructor <;> omega) ?_
    rw [show (48 : Int) + ((r % 10 : Nat) : Int) = ((48 + r % 10 : Nat) : Int) by omega]
    refine w_callv2 d327_34 (by omega) rfl (ok23.kd hm) (by simp) (Nat.le_of_ble_eq_true rfl) ?_
    refine k_M_put (c := (48 + r % 10)) ok23 (by omega) hm TE (by omega) (fun h34 m34 q34 TE => ?_)
    have f34 : Fr S m [1732, 1733] _ _ := Fr.mk ok23 m34 (fun ζ q => q.elim ((fun ζ e => Or.inl e) ζ) ((fun ζ e => Or.inr ⟨1732, by decide, e ▸ U_refl⟩) ζ)) q34 (by decide)
    have ok34 := f34.ok
    have FR34 := Fr.tr (F := [1726, 1727, 1732, 1733]) FR23 f34 (by decide) (by decide)
    have RS := RsR.s f34 hm RS
    have CH := ChR.s f34 hm CH
    rw [← addBs_app, ← addBs_app] at TE
    refine w_return d327_37 ?_
    exact kk h34 FR34 (by rw [tmT_l (by omega)]; unfold lfT; rw [hr2]; exact TE) CH
termination_by n
decreasing_by omega
theorem d326_0 : dc 326 0 = some (.aload_n 0, 1) := by decide +kernel
theorem d326_1 : dc 326 1 = some (.invokevirtual 320, 4) := by decide +kernel
theorem d326_4 : dc 326 4 = some (.ifCond .lt ((15 : Nat) : Int), 7) := by decide +kernel
theorem d326_7 : dc 326 7 = some (.aload_n 0, 8) := by decide +kernel
theorem d326_8 : dc 326 8 = some (.getstatic 74, 11) := by decide +kernel
theorem d326_11 : dc 326 11 = some (.invokevirtual 217, 14) := by decide +kernel
theorem d326_14 : dc 326 14 = some (.return_, 15) := by decide +kernel
theorem d326_15 : dc 326 15 = some (.iconst 0, 16) := by decide +kernel
theorem d326_16 : dc 326 16 = some (.istore_n 1, 17) := by decide +kernel
theorem d326_17 : dc 326 17 = some (.iload_n 1, 18) := by decide +kernel
theorem d326_18 : dc 326 18 = some (.iconst 5, 19) := by decide +kernel
theorem d326_19 : dc 326 19 = some (.if_icmp .ge ((35 : Nat) : Int), 22) := by decide +kernel
theorem d326_22 : dc 326 22 = some (.aload_n 0, 23) := by decide +kernel
theorem d326_23 : dc 326 23 = some (.dload 1727, 26) := by decide +kernel
theorem d326_26 : dc 326 26 = some (.iload_n 1, 27) := by decide +kernel
theorem d326_27 : dc 326 27 = some (.iconst 0, 28) := by decide +kernel
theorem d326_28 : dc 326 28 = some (.bastore, 29) := by decide +kernel
theorem d326_29 : dc 326 29 = some (.iinc 1 1, 32) := by decide +kernel
theorem d326_32 : dc 326 32 = some (.goto ((17 : Nat) : Int), 35) := by decide +kernel
theorem d326_35 : dc 326 35 = some (.aload_n 0, 36) := by decide +kernel
theorem d326_36 : dc 326 36 = some (.invokevirtual 327, 39) := by decide +kernel
theorem d326_39 : dc 326 39 = some (.return_, 40) := by decide +kernel
theorem k_M_refute {S : Shp} {G : Nat → Option Nat} {d : Nat} {h : Hp} {Q : Option MV → Hp → Prop} {m : Nat} {rs : List RuV} {la : List Nat} (ok : Ok S h) (h1 : 10 ≤ d) (hm : sK S m = 14) (RS : RsR S h m rs) (TE : TeR S h m la) (tg : Tg S G)
    (kk : ∀ h', Fr S m [1726, 1727, 1732, 1733] h h' → TeR S h' m (addBs 20000 la (if 0 ≤ solR rs then txt 24 else tmT rs 5 (fun _ => -1))) → Q none h') : Cl G d 326 [vR (some m)] h Q := by
  show Wp G d 326 0 [some (vR (some m)), none] [] h Q
  have RS_0 := RS
  have TE_0 := TE
  have rr : ∀ k, k < rs.length → rOf rs k ≤ 4 ∧ rPa rs k ≤ 4 := fun k hk => by obtain ⟨-, -, -, -, -, z1, -, z2, -⟩ := RS.2.2 k hk; omega
  refine w_aload_n d326_0 rfl ?_
  refine w_callv1 d326_1 (by omega) rfl (ok.kd hm) (by simp) (Nat.le_of_ble_eq_true rfl) ?_
  refine k_M_solution ok (by omega) hm RS (fun h1 f1 => ?_)
  have ok1 := f1.ok
  have FR1 := Fr.le (F := [1726, 1727, 1732, 1733]) f1 (by decide)
  have RS := RsR.s f1 hm RS
  have TE := TE.r f1 hm
  refine w_iflt d326_4 (fun c4 => ?_) (fun c4 => ?_)
  · refine w_iconst d326_15 (by decide) ?_
    refine w_istore1 d326_16 rfl ?_
    have L17 : ∀ (m17 : Nat) (g_ : Hp) (i : Nat), 5 - i = m17 → Fr S m [1726, 1727, 1732, 1733] h g_ → (i ≤ 5) → (∀ p, p < i → AI g_ (sT S 1727 m) p = 0) → (TeR S g_ m la) → Wp G d 326 17 [some (vR (some m)), some (vI (i : Nat))] [] g_ Q := by
      intro m17
      induction m17 using Nat.strongRecOn with | ind m17 IH17 => ?_
      intro g_ i hm17 FRg_ il hc TE
      have okg_ := FRg_.ok
      have RS := RsR.s FRg_ hm RS_0
      refine w_iload_n d326_17 rfl ?_
      refine w_iconst d326_18 (by decide) ?_
      refine w_icmpge d326_19 (fun c19 => ?_) (fun c19 => ?_)
      · have CH : ChR S g_ m (fun _ => -1) := ChR.zero (fun p hp => hc p (by omega))
        refine w_aload_n d326_35 rfl ?_
        refine w_callv1 d326_36 (by omega) rfl (okg_.kd hm) (by simp) (Nat.le_of_ble_eq_true rfl) ?_
        refine k_M_tellTree (n := 5) okg_ (by omega) hm RS CH TE (by omega) (by omega) ⟨fun p hp => by omega, fun p _ => rfl⟩ (fun vl hvl => sol_none rr (by omega) hvl) (fun h36 f36 TE CH => ?_)
        have ok36 := f36.ok
        have FR36 := Fr.tr (F := [1726, 1727, 1732, 1733]) FRg_ f36 (by decide) (by decide)
        have RS := RsR.s f36 hm RS
        refine w_return d326_39 ?_
        exact kk h36 FR36 (by rw [if_neg (by omega)]; exact TE)
      · have hi : i < 5 := by omega
        refine w_aload_n d326_22 rfl ?_
        refine w_dloadS d326_23 (okg_.kd hm) (fr1727 okg_ hm) ?_
        refine w_iload_n d326_26 rfl ?_
        refine w_iconst d326_27 (by decide) ?_
        refine wa1727 d326_28 okg_ hm (by omega) (by omega) (fun h28 e28 m28 => ?_)
        have e28 : h28 = sAI g_ (sT S 1727 m) i 0 := e28
        have f28 : Fr S m [1727] _ _ := Fr.wB okg_ hm m28 (fun ζ e => ⟨1727, by decide, by decide, e ▸ U_refl⟩)
        have ok28 := f28.ok
        have FR28 := Fr.tr (F := [1726, 1727, 1732, 1733]) FRg_ f28 (by decide) (by decide)
        have TE := TE.r f28 hm
        have RS := RsR.s f28 hm RS
        refine w_iinc1 d326_29 rfl (by constructor <;> omega) ?_
        refine w_goto d326_32 ?_
        rw [show ((i : Nat) : Int) + 1 = ((i + 1 : Nat) : Int) by omega]
        refine w_less ?_ (IH17 _ (by omega) h28 (i + 1) rfl FR28 (by omega) (fun p hp => by rw [e28, sArr]; by_cases z : p = i; rw [if_pos z]; rw [if_neg z]; exact hc p (by omega)) TE)
        exact ⟨Or.inr rfl, Or.inr rfl, trivial⟩
    refine w_less ?_ (L17 _ h1 0 rfl FR1 (by decide) (fun p hp => absurd hp (Nat.not_lt_zero _)) TE)
    exact ⟨Or.inr rfl, Or.inr rfl, trivial⟩
  · refine w_aload_n d326_7 rfl ?_
    obtain ⟨g8, v8, s8⟩ := tg.al ok1 24 (by decide)
    refine w_getstaticS d326_8 v8 ?_
    refine w_callv2 d326_11 (by omega) rfl (ok1.kd hm) (by simp) (Nat.le_of_ble_eq_true rfl) ?_
    refine k_M_say ok1 (by omega) hm TE s8 (fun h11 m11 q11 TE => ?_)
    have f11 : Fr S m [1732, 1733] _ _ := Fr.mk ok1 m11 (fun ζ q => q.elim ((fun ζ e => Or.inl e) ζ) ((fun ζ e => Or.inr ⟨1732, by decide, e ▸ U_refl⟩) ζ)) q11 (by decide)
    have ok11 := f11.ok
    have FR11 := Fr.tr (F := [1726, 1727, 1732, 1733]) FR1 f11 (by decide) (by decide)
    have RS := RsR.s f11 hm RS
    refine w_return d326_14 ?_
    exact kk h11 FR11 (by rw [if_pos (by omega)]; exact TE)
theorem d325_0 : dc 325 0 = some (.aload_n 0, 1) := by decide +kernel
theorem d325_1 : dc 325 1 = some (.getfield 1760, 4) := by decide +kernel
theorem d325_4 : dc 325 4 = some (.iconst 5, 5) := by decide +kernel
theorem d325_5 : dc 325 5 = some (.if_icmp .eq ((16 : Nat) : Int), 8) := by decide +kernel
theorem d325_8 : dc 325 8 = some (.aload_n 0, 9) := by decide +kernel
theorem d325_9 : dc 325 9 = some (.getstatic 71, 12) := by decide +kernel
theorem d325_12 : dc 325 12 = some (.invokevirtual 217, 15) := by decide +kernel
theorem d325_15 : dc 325 15 = some (.return_, 16) := by decide +kernel
theorem d325_16 : dc 325 16 = some (.iconst 0, 17) := by decide +kernel
theorem d325_17 : dc 325 17 = some (.istore_n 1, 18) := by decide +kernel
theorem d325_18 : dc 325 18 = some (.iload_n 1, 19) := by decide +kernel
theorem d325_19 : dc 325 19 = some (.iconst 5, 20) := by decide +kernel
theorem d325_20 : dc 325 20 = some (.if_icmp .ge ((48 : Nat) : Int), 23) := by decide +kernel
theorem d325_23 : dc 325 23 = some (.aload_n 0, 24) := by decide +kernel
theorem d325_24 : dc 325 24 = some (.dload 1726, 27) := by decide +kernel
theorem d325_27 : dc 325 27 = some (.iload_n 1, 28) := by decide +kernel
theorem d325_28 : dc 325 28 = some (.aload_n 0, 29) := by decide +kernel
theorem d325_29 : dc 325 29 = some (.dload 1759, 32) := by decide +kernel
theorem d325_32 : dc 325 32 = some (.iload_n 1, 33) := by decide +kernel
theorem d325_33 : dc 325 33 = some (.iaload, 34) := by decide +kernel
theorem d325_34 : dc 325 34 = some (.iastore, 35) := by decide +kernel
theorem d325_35 : dc 325 35 = some (.aload_n 0, 36) := by decide +kernel
theorem d325_36 : dc 325 36 = some (.dload 1727, 39) := by decide +kernel
theorem d325_39 : dc 325 39 = some (.iload_n 1, 40) := by decide +kernel
theorem d325_40 : dc 325 40 = some (.iconst 1, 41) := by decide +kernel
theorem d325_41 : dc 325 41 = some (.bastore, 42) := by decide +kernel
theorem d325_42 : dc 325 42 = some (.iinc 1 1, 45) := by decide +kernel
theorem d325_45 : dc 325 45 = some (.goto ((18 : Nat) : Int), 48) := by decide +kernel
theorem d325_48 : dc 325 48 = some (.aload_n 0, 49) := by decide +kernel
theorem d325_49 : dc 325 49 = some (.invokevirtual 322, 52) := by decide +kernel
theorem d325_52 : dc 325 52 = some (.istore_n 1, 53) := by decide +kernel
theorem d325_53 : dc 325 53 = some (.iload_n 1, 54) := by decide +kernel
theorem d325_54 : dc 325 54 = some (.ifCond .ge ((67 : Nat) : Int), 57) := by decide +kernel
theorem d325_57 : dc 325 57 = some (.aload_n 0, 58) := by decide +kernel
theorem d325_58 : dc 325 58 = some (.getstatic 72, 61) := by decide +kernel
theorem d325_61 : dc 325 61 = some (.invokevirtual 217, 64) := by decide +kernel
theorem d325_64 : dc 325 64 = some (.goto ((79 : Nat) : Int), 67) := by decide +kernel
theorem d325_67 : dc 325 67 = some (.aload_n 0, 68) := by decide +kernel
theorem d325_68 : dc 325 68 = some (.getstatic 73, 71) := by decide +kernel
theorem d325_71 : dc 325 71 = some (.invokevirtual 217, 74) := by decide +kernel
theorem d325_74 : dc 325 74 = some (.aload_n 0, 75) := by decide +kernel
theorem d325_75 : dc 325 75 = some (.iload_n 1, 76) := by decide +kernel
theorem d325_76 : dc 325 76 = some (.invokevirtual 219, 79) := by decide +kernel
theorem d325_79 : dc 325 79 = some (.return_, 80) := by decide +kernel
theorem k_M_meets {S : Shp} {G : Nat → Option Nat} {d : Nat} {h : Hp} {Q : Option MV → Hp → Prop} {m : Nat} {rs : List RuV} {la xs : List Nat} (ok : Ok S h) (h1 : 12 ≤ d) (hm : sK S m = 14) (RS : RsR S h m rs) (TE : TeR S h m la) (VC : FI h 1760 m = ((xs.length : Nat) : Int)) (VA : LsA S h m 1759 xs) (tg : Tg S G) (hx : ∀ c ∈ xs, c ≤ 3)
    (kk : ∀ h', Fr S m [1726, 1727, 1732, 1733] h h' → TeR S h' m (addBs 20000 la (if xs.length ≠ 5 then txt 21 else if lwb rs (fun p => ((xs.getD p 0 : Nat) : Int)) < 0 then txt 22 else txt 23 ++ dec (lwb rs (fun p => ((xs.getD p 0 : Nat) : Int))).toNat)) → Q none h') : Cl G d 325 [vR (some m)] h Q := by
  show Wp G d 325 0 [some (vR (some m)), none] [] h Q
  have RS_0 := RS
  have TE_0 := TE
  have VC_0 := VC
  have VA_0 := VA
  refine w_aload_n d325_0 rfl ?_
  refine w_getI (x := ((xs.length : Nat) : Int)) d325_1 (ok.kd hm) VC ?_
  refine w_iconst d325_4 (by decide) ?_
  refine w_icmpeq d325_5 (fun c5 => ?_) (fun c5 => ?_)
  · have x5 : xs.length = 5 := by omega
    rw [if_neg (fun z => z x5)] at kk
    refine w_iconst d325_16 (by decide) ?_
    refine w_istore1 d325_17 rfl ?_
    have L18 : ∀ (m18 : Nat) (g_ : Hp) (i : Nat), 5 - i = m18 → Fr S m [1726, 1727, 1732, 1733] h g_ → (i ≤ 5) → (∀ p, p < i → AI g_ (sT S 1726 m) p = ((xs.getD p 0 : Nat) : Int) ∧ AI g_ (sT S 1727 m) p = 1) → (TeR S g_ m la) → Wp G d 325 18 [some (vR (some m)), some (vI (i : Nat))] [] g_ Q := by
      intro m18
      induction m18 using Nat.strongRecOn with | ind m18 IH18 => ?_
      intro g_ i hm18 FRg_ il hc TE
      have okg_ := FRg_.ok
      have RS := RsR.s FRg_ hm RS_0
      have VC := (FRg_.i 1760).trans VC_0
      have VA := VA_0.r FRg_ hm
      refine w_iload_n d325_18 rfl ?_
      refine w_iconst d325_19 (by decide) ?_
      refine w_icmpge d325_20 (fun c20 => ?_) (fun c20 => ?_)
      · have CH : ChR S g_ m (fun p => ((xs.getD p 0 : Nat) : Int)) := fun p hp => by
          obtain ⟨a, b⟩ := hc p (by omega)
          have := hx (xs.getD p 0) (by rw [List.getD_eq_getElem?_getD, List.getElem?_eq_getElem (by omega)]; exact List.getElem_mem _)
          exact Or.inr ⟨by show (0 : Int) ≤ ((xs.getD p 0 : Nat) : Int); omega, by show ((xs.getD p 0 : Nat) : Int) ≤ 3; omega, b, a⟩
        refine w_aload_n d325_48 rfl ?_
        refine w_callv1 d325_49 (by omega) rfl (okg_.kd hm) (by simp) (Nat.le_of_ble_eq_true rfl) ?_
        refine k_M_firstBroken okg_ (by omega) hm RS CH ?_
        have lr := lwb_rg rs (fun p => ((xs.getD p 0 : Nat) : Int))
        have r20 := RS.2.1
        obtain ⟨b, hb⟩ : ∃ b, lwb rs (fun p => ((xs.getD p 0 : Nat) : Int)) = b := ⟨_, rfl⟩
        rw [hb] at kk lr
        rw [hb]
        refine w_istore1 d325_52 rfl ?_
        refine w_iload_n d325_53 rfl ?_
        refine w_ifge d325_54 (fun c54 => ?_) (fun c54 => ?_)
        · obtain ⟨r, hr⟩ : ∃ r : Nat, b = (r : Int) := ⟨b.toNat, by omega⟩
          rw [hr]
          rw [if_neg (by omega), show b.toNat = r by omega] at kk
          refine w_aload_n d325_67 rfl ?_
          obtain ⟨g68, v68, s68⟩ := tg.al okg_ 23 (by decide)
          refine w_getstaticS d325_68 v68 ?_
          refine w_callv2 d325_71 (by omega) rfl (okg_.kd hm) (by simp) (Nat.le_of_ble_eq_true rfl) ?_
          refine k_M_say okg_ (by omega) hm TE s68 (fun h71 m71 q71 TE => ?_)
          have f71 : Fr S m [1732, 1733] _ _ := Fr.mk okg_ m71 (fun ζ q => q.elim ((fun ζ e => Or.inl e) ζ) ((fun ζ e => Or.inr ⟨1732, by decide, e ▸ U_refl⟩) ζ)) q71 (by decide)
          have ok71 := f71.ok
          have FR71 := Fr.tr (F := [1726, 1727, 1732, 1733]) FRg_ f71 (by decide) (by decide)
          have RS := RsR.s f71 hm RS
          have VC := (f71.i 1760).trans VC
          have VA := VA.r f71 hm
          have CH := ChR.s f71 hm CH
          refine w_aload_n d325_74 rfl ?_
          refine w_iload_n d325_75 rfl ?_
          refine w_callv2 d325_76 (by omega) rfl (ok71.kd hm) (by simp) (Nat.le_of_ble_eq_true rfl) ?_
          refine k_M_number (n := 9) ok71 (by omega) hm (by omega) TE (by omega) (by decide) (fun h76 m76 q76 TE => ?_)
          have f76 : Fr S m [1732, 1733] _ _ := Fr.mk ok71 m76 (fun ζ q => q.elim ((fun ζ e => Or.inl e) ζ) ((fun ζ e => Or.inr ⟨1732, by decide, e ▸ U_refl⟩) ζ)) q76 (by decide)
          have ok76 := f76.ok
          have FR76 := Fr.tr (F := [1726, 1727, 1732, 1733]) FR71 f76 (by decide) (by decide)
          have RS := RsR.s f76 hm RS
          have VC := (f76.i 1760).trans VC
          have VA := VA.r f76 hm
          have CH := ChR.s f76 hm CH
          rw [← addBs_app] at TE
          refine w_return d325_79 ?_
          exact kk h76 FR76 TE
        · refine w_aload_n d325_57 rfl ?_
          obtain ⟨g58, v58, s58⟩ := tg.al okg_ 22 (by decide)
          refine w_getstaticS d325_58 v58 ?_
          refine w_callv2 d325_61 (by omega) rfl (okg_.kd hm) (by simp) (Nat.le_of_ble_eq_true rfl) ?_
          refine k_M_say okg_ (by omega) hm TE s58 (fun h61 m61 q61 TE => ?_)
          have f61 : Fr S m [1732, 1733] _ _ := Fr.mk okg_ m61 (fun ζ q => q.elim ((fun ζ e => Or.inl e) ζ) ((fun ζ e => Or.inr ⟨1732, by decide, e ▸ U_refl⟩) ζ)) q61 (by decide)
          have ok61 := f61.ok
          have FR61 := Fr.tr (F := [1726, 1727, 1732, 1733]) FRg_ f61 (by decide) (by decide)
          have RS := RsR.s f61 hm RS
          have VC := (f61.i 1760).trans VC
          have VA := VA.r f61 hm
          have CH := ChR.s f61 hm CH
          refine w_goto d325_64 ?_
          refine w_return d325_79 ?_
          exact kk h61 FR61 (by rw [if_pos (by omega)]; exact TE)
      · have hi : i < 5 := by omega
        have xv := VA i (by omega)
        have xr := hx (xs.getD i 0) (by rw [List.getD_eq_getElem?_getD, List.getElem?_eq_getElem (by omega)]; exact List.getElem_mem _)
        refine w_aload_n d325_23 rfl ?_
        refine w_dloadS d325_24 (okg_.kd hm) (fr1726 okg_ hm) ?_
        refine w_iload_n d325_27 rfl ?_
        refine w_aload_n d325_28 rfl ?_
        refine w_dloadS d325_29 (okg_.kd hm) (fr1759 okg_ hm) ?_
        refine w_iload_n d325_32 rfl ?_
        refine w_ialoadV (x := ((xs.getD i 0 : Nat) : Int)) d325_33 (gi1759 okg_ hm (by omega)) xv ?_
        refine wa1726 d325_34 okg_ hm (by omega) (by omega) (fun h34 e34 m34 => ?_)
        have e34 : h34 = sAI g_ (sT S 1726 m) i ((xs.getD i 0 : Nat) : Int) := e34
        have f34 : Fr S m [1726] _ _ := Fr.wB okg_ hm m34 (fun ζ e => ⟨1726, by decide, by decide, e ▸ U_refl⟩)
        have ok34 := f34.ok
        have FR34 := Fr.tr (F := [1726, 1727, 1732, 1733]) FRg_ f34 (by decide) (by decide)
        have TE := TE.r f34 hm
        have RS := RsR.s f34 hm RS
        have VC := (f34.i 1760).trans VC
        have VA := VA.r f34 hm
        refine w_aload_n d325_35 rfl ?_
        refine w_dloadS d325_36 (ok34.kd hm) (fr1727 ok34 hm) ?_
        refine w_iload_n d325_39 rfl ?_
        refine w_iconst d325_40 (by decide) ?_
        refine wa1727 d325_41 ok34 hm (by omega) (by omega) (fun h41 e41 m41 => ?_)
        have e41 : h41 = sAI h34 (sT S 1727 m) i 1 := e41
        have f41 : Fr S m [1727] _ _ := Fr.wB ok34 hm m41 (fun ζ e => ⟨1727, by decide, by decide, e ▸ U_refl⟩)
        have ok41 := f41.ok
        have FR41 := Fr.tr (F := [1726, 1727, 1732, 1733]) FR34 f41 (by decide) (by decide)
        have TE := TE.r f41 hm
        have RS := RsR.s f41 hm RS
        have VC := (f41.i 1760).trans VC
        have VA := VA.r f41 hm
        refine w_iinc1 d325_42 rfl (by constructor <;> omega) ?_
        refine w_goto d325_45 ?_
        rw [show ((i : Nat) : Int) + 1 = ((i + 1 : Nat) : Int) by omega]
        refine w_less ?_ (IH18 _ (by omega) h41 (i + 1) rfl FR41 (by omega) (fun p hp => by
            rw [f41.ai (g := 1726) (by have := kT1726 ok hm; omega) (by decide) (by decide) (by decide), e34, sArr, e41, sArr, f34.ai (g := 1727) (by have := kT1727 ok hm; omega) (by decide) (by decide) (by decide)]
            by_cases z : p = i
            · rw [if_pos z, if_pos z, z]; exact ⟨rfl, rfl⟩
            · rw [if_neg z, if_neg z]; exact hc p (by omega)) TE)
        exact ⟨Or.inr rfl, Or.inr rfl, trivial⟩
    refine w_less ?_ (L18 _ h 0 rfl (Fr.refl ok) (by decide) (fun p hp => absurd hp (Nat.not_lt_zero _)) TE)
    exact ⟨Or.inr rfl, Or.inr rfl, trivial⟩
  · refine w_aload_n d325_8 rfl ?_
    obtain ⟨g9, v9, s9⟩ := tg.al ok 21 (by decide)
    refine w_getstaticS d325_9 v9 ?_
    refine w_callv2 d325_12 (by omega) rfl (ok.kd hm) (by simp) (Nat.le_of_ble_eq_true rfl) ?_
    refine k_M_say ok (by omega) hm TE s9 (fun h12 m12 q12 TE => ?_)
    have f12 : Fr S m [1732, 1733] _ _ := Fr.mk ok m12 (fun ζ q => q.elim ((fun ζ e => Or.inl e) ζ) ((fun ζ e => Or.inr ⟨1732, by decide, e ▸ U_refl⟩) ζ)) q12 (by decide)
    have ok12 := f12.ok
    have FR12 := Fr.le (F := [1726, 1727, 1732, 1733]) f12 (by decide)
    have RS := RsR.s f12 hm RS
    have VC := (f12.i 1760).trans VC
    have VA := VA.r f12 hm
    refine w_return d325_15 ?_
    exact kk h12 FR12 (by rw [if_pos (by omega)]; exact TE)
