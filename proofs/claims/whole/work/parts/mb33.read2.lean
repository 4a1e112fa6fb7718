/-! the reference: names, paths, texts of a request -/
/-- where a text ends -/
def rtE (l : List Nat) (s : Nat × Int) : Nat := if 0 ≤ s.2 then s.1 else scan l isTx s.1 160
theorem tx_in {l : List Nat} {p : Nat} (h : 32 ≤ bHe l p ∧ bHe l p ≤ 126) (h2 : ¬ bHe l p = 62) : p < l.length ∧ isTx (l.getD p 0) = true := by
  obtain ⟨q, e⟩ := bHe_in (l := l) (a := p) (by omega)
  rw [e] at h h2
  exact ⟨q, isTx_t.mpr ⟨by omega, by omega, by omega⟩⟩
theorem tx_no {l : List Nat} {p : Nat} (h : ¬ (32 ≤ bHe l p ∧ bHe l p ≤ 126) ∨ bHe l p = 62) : l.length ≤ p ∨ isTx (l.getD p 0) = false := by
  rcases Nat.lt_or_ge p l.length with q | q
  · refine Or.inr ?_
    have e : bHe l p = ((l.getD p 0 : Nat) : Int) := if_pos q
    rw [e] at h
    cases hz : isTx (l.getD p 0) with
    | false => rfl
    | true =>
      exfalso
      have := isTx_t.mp hz
      omega
  · exact Or.inl q
theorem d213_0 : dc 213 0 = some (.aload_n 0, 1) := by decide +kernel
theorem d213_1 : dc 213 1 = some (.aload_n 0, 2) := by decide +kernel
theorem d213_2 : dc 213 2 = some (.getfield 1740, 5) := by decide +kernel
theorem d213_5 : dc 213 5 = some (.putfield 1742, 8) := by decide +kernel
theorem d213_8 : dc 213 8 = some (.aload_n 0, 9) := by decide +kernel
theorem d213_9 : dc 213 9 = some (.iconst 0, 10) := by decide +kernel
theorem d213_10 : dc 213 10 = some (.invokevirtual 209, 13) := by decide +kernel
theorem d213_13 : dc 213 13 = some (.aload_n 0, 14) := by decide +kernel
theorem d213_14 : dc 213 14 = some (.aload_n 0, 15) := by decide +kernel
theorem d213_15 : dc 213 15 = some (.getfield 1740, 18) := by decide +kernel
theorem d213_18 : dc 213 18 = some (.putfield 1743, 21) := by decide +kernel
theorem d213_21 : dc 213 21 = some (.return_, 22) := by decide +kernel
theorem k_M_readName {S : Shp} {G : Nat → Option Nat} {d : Nat} {h : Hp} {Q : Option MV → Hp → Prop} {m : Nat} {l : List Nat} {a : Nat} {w : Int} (ok : Ok S h) (h1 : 3 ≤ d) (hm : sK S m = 14) (RQ : RqR S h m l) (PW : PwR h m a w) 
    (kk : ∀ h', Fr S m [1740, 1738, 1742, 1743] h h' → RqR S h' m l → PwR h' m (rsg l false a w).1 (rsg l false a w).2 → NmR h' m a (rsg l false a w).1 → Q none h') : Cl G d 213 [vR (some m)] h Q := by
  show Wp G d 213 0 [some (vR (some m))] [] h Q
  have RQ_0 := RQ
  have PW_0 := PW
  have rp := rg1740 ok hm
  rw [PW.1] at rp
  refine w_aload_n d213_0 rfl ?_
  refine w_aload_n d213_1 rfl ?_
  refine w_getI (x := ((a : Nat) : Int)) d213_2 (ok.kd hm) PW.1 ?_
  refine wf1742 d213_5 ok hm (by omega) (fun h5 e5 m5 => ?_)
  have f5 : Fr S m [1742] _ _ := Fr.wF ok m5 (FK.pI e5)
  have ok5 := f5.ok
  have FR5 := Fr.le (F := [1740, 1738, 1742, 1743]) f5 (by decide)
  have RQ := RQ.r f5 hm
  have PW := PW.r f5 hm
  refine w_aload_n d213_8 rfl ?_
  refine w_iconst d213_9 (by decide) ?_
  refine w_callv2 d213_10 (by omega) rfl (ok5.kd hm) (by simp) (Nat.le_of_ble_eq_true rfl) ?_
  refine k_M_readSigns (b := false) ok5 (by omega) hm RQ PW (fun h10 f10 RQ PW => ?_)
  have ok10 := f10.ok
  have FR10 := Fr.tr (F := [1740, 1738, 1742, 1743]) FR5 f10 (by decide) (by decide)
  have rp2 := rg1740 ok10 hm
  rw [PW.1] at rp2
  refine w_aload_n d213_13 rfl ?_
  refine w_aload_n d213_14 rfl ?_
  refine w_getI (x := (((rsg l false a w).1 : Nat) : Int)) d213_15 (ok10.kd hm) PW.1 ?_
  refine wf1743 d213_18 ok10 hm (by omega) (fun h18 e18 m18 => ?_)
  have f18 : Fr S m [1743] _ _ := Fr.wF ok10 m18 (FK.pI e18)
  have ok18 := f18.ok
  have FR18 := Fr.tr (F := [1740, 1738, 1742, 1743]) FR10 f18 (by decide) (by decide)
  have RQ := RQ.r f18 hm
  have PW := PW.r f18 hm
  refine w_return d213_21 ?_
  exact kk h18 FR18 RQ PW ⟨(f18.i 1742 (by decide)).trans ((f10.i 1742 (by decide)).trans (by rw [e5, FI_sFI, if_pos ⟨rfl, rfl⟩])), by rw [e18, FI_sFI, if_pos ⟨rfl, rfl⟩]⟩
theorem d208_0 : dc 208 0 = some (.aload_n 0, 1) := by decide +kernel
theorem d208_1 : dc 208 1 = some (.aload_n 0, 2) := by decide +kernel
theorem d208_2 : dc 208 2 = some (.getfield 1740, 5) := by decide +kernel
theorem d208_5 : dc 208 5 = some (.putfield 1742, 8) := by decide +kernel
theorem d208_8 : dc 208 8 = some (.aload_n 0, 9) := by decide +kernel
theorem d208_9 : dc 208 9 = some (.iconst 1, 10) := by decide +kernel
theorem d208_10 : dc 208 10 = some (.invokevirtual 209, 13) := by decide +kernel
theorem d208_13 : dc 208 13 = some (.aload_n 0, 14) := by decide +kernel
theorem d208_14 : dc 208 14 = some (.aload_n 0, 15) := by decide +kernel
theorem d208_15 : dc 208 15 = some (.getfield 1740, 18) := by decide +kernel
theorem d208_18 : dc 208 18 = some (.putfield 1743, 21) := by decide +kernel
theorem d208_21 : dc 208 21 = some (.return_, 22) := by decide +kernel
theorem k_M_readPath {S : Shp} {G : Nat → Option Nat} {d : Nat} {h : Hp} {Q : Option MV → Hp → Prop} {m : Nat} {l : List Nat} {a : Nat} {w : Int} (ok : Ok S h) (h1 : 3 ≤ d) (hm : sK S m = 14) (RQ : RqR S h m l) (PW : PwR h m a w) 
    (kk : ∀ h', Fr S m [1740, 1738, 1742, 1743] h h' → RqR S h' m l → PwR h' m (rsg l true a w).1 (rsg l true a w).2 → NmR h' m a (rsg l true a w).1 → Q none h') : Cl G d 208 [vR (some m)] h Q := by
  show Wp G d 208 0 [some (vR (some m))] [] h Q
  have RQ_0 := RQ
  have PW_0 := PW
  have rp := rg1740 ok hm
  rw [PW.1] at rp
  refine w_aload_n d208_0 rfl ?_
  refine w_aload_n d208_1 rfl ?_
  refine w_getI (x := ((a : Nat) : Int)) d208_2 (ok.kd hm) PW.1 ?_
  refine wf1742 d208_5 ok hm (by omega) (fun h5 e5 m5 => ?_)
  have f5 : Fr S m [1742] _ _ := Fr.wF ok m5 (FK.pI e5)
  have ok5 := f5.ok
  have FR5 := Fr.le (F := [1740, 1738, 1742, 1743]) f5 (by decide)
  have RQ := RQ.r f5 hm
  have PW := PW.r f5 hm
  refine w_aload_n d208_8 rfl ?_
  refine w_iconst d208_9 (by decide) ?_
  refine w_callv2 d208_10 (by omega) rfl (ok5.kd hm) (by simp) (Nat.le_of_ble_eq_true rfl) ?_
  refine k_M_readSigns (b := true) ok5 (by omega) hm RQ PW (fun h10 f10 RQ PW => ?_)
  have ok10 := f10.ok
  have FR10 := Fr.tr (F := [1740, 1738, 1742, 1743]) FR5 f10 (by decide) (by decide)
  have rp2 := rg1740 ok10 hm
  rw [PW.1] at rp2
  refine w_aload_n d208_13 rfl ?_
  refine w_aload_n d208_14 rfl ?_
  refine w_getI (x := (((rsg l true a w).1 : Nat) : Int)) d208_15 (ok10.kd hm) PW.1 ?_
  refine wf1743 d208_18 ok10 hm (by omega) (fun h18 e18 m18 => ?_)
  have f18 : Fr S m [1743] _ _ := Fr.wF ok10 m18 (FK.pI e18)
  have ok18 := f18.ok
  have FR18 := Fr.tr (F := [1740, 1738, 1742, 1743]) FR10 f18 (by decide) (by decide)
  have RQ := RQ.r f18 hm
  have PW := PW.r f18 hm
  refine w_return d208_21 ?_
  exact kk h18 FR18 RQ PW ⟨(f18.i 1742 (by decide)).trans ((f10.i 1742 (by decide)).trans (by rw [e5, FI_sFI, if_pos ⟨rfl, rfl⟩])), by rw [e18, FI_sFI, if_pos ⟨rfl, rfl⟩]⟩
theorem d211_0 : dc 211 0 = some (.aload_n 0, 1) := by decide +kernel
theorem d211_1 : dc 211 1 = some (.bipush 60, 3) := by decide +kernel
theorem d211_3 : dc 211 3 = some (.invokevirtual 204, 6) := by decide +kernel
theorem d211_6 : dc 211 6 = some (.aload_n 0, 7) := by decide +kernel
theorem d211_7 : dc 211 7 = some (.aload_n 0, 8) := by decide +kernel
theorem d211_8 : dc 211 8 = some (.getfield 1740, 11) := by decide +kernel
theorem d211_11 : dc 211 11 = some (.putfield 1746, 14) := by decide +kernel
theorem d211_14 : dc 211 14 = some (.aload_n 0, 15) := by decide +kernel
theorem d211_15 : dc 211 15 = some (.getfield 1738, 18) := by decide +kernel
theorem d211_18 : dc 211 18 = some (.ifCond .ge ((72 : Nat) : Int), 21) := by decide +kernel
theorem d211_21 : dc 211 21 = some (.aload_n 0, 22) := by decide +kernel
theorem d211_22 : dc 211 22 = some (.invokevirtual 205, 25) := by decide +kernel
theorem d211_25 : dc 211 25 = some (.bipush 32, 27) := by decide +kernel
theorem d211_27 : dc 211 27 = some (.bipush 126, 29) := by decide +kernel
theorem d211_29 : dc 211 29 = some (.invokevirtual 206, 32) := by decide +kernel
theorem d211_32 : dc 211 32 = some (.ifCond .eq ((72 : Nat) : Int), 35) := by decide +kernel
theorem d211_35 : dc 211 35 = some (.aload_n 0, 36) := by decide +kernel
theorem d211_36 : dc 211 36 = some (.invokevirtual 205, 39) := by decide +kernel
theorem d211_39 : dc 211 39 = some (.bipush 62, 41) := by decide +kernel
theorem d211_41 : dc 211 41 = some (.if_icmp .eq ((72 : Nat) : Int), 44) := by decide +kernel
theorem d211_44 : dc 211 44 = some (.aload_n 0, 45) := by decide +kernel
theorem d211_45 : dc 211 45 = some (.getfield 1740, 48) := by decide +kernel
theorem d211_48 : dc 211 48 = some (.aload_n 0, 49) := by decide +kernel
theorem d211_49 : dc 211 49 = some (.getfield 1746, 52) := by decide +kernel
theorem d211_52 : dc 211 52 = some (.sipush 160, 55) := by decide +kernel
theorem d211_55 : dc 211 55 = some (.iadd, 56) := by decide +kernel
theorem d211_56 : dc 211 56 = some (.if_icmp .ge ((72 : Nat) : Int), 59) := by decide +kernel
theorem d211_59 : dc 211 59 = some (.aload_n 0, 60) := by decide +kernel
theorem d211_60 : dc 211 60 = some (.dup, 61) := by decide +kernel
theorem d211_61 : dc 211 61 = some (.getfield 1740, 64) := by decide +kernel
theorem d211_64 : dc 211 64 = some (.iconst 1, 65) := by decide +kernel
theorem d211_65 : dc 211 65 = some (.iadd, 66) := by decide +kernel
theorem d211_66 : dc 211 66 = some (.putfield 1740, 69) := by decide +kernel
theorem d211_69 : dc 211 69 = some (.goto ((14 : Nat) : Int), 72) := by decide +kernel
theorem d211_72 : dc 211 72 = some (.aload_n 0, 73) := by decide +kernel
theorem d211_73 : dc 211 73 = some (.aload_n 0, 74) := by decide +kernel
theorem d211_74 : dc 211 74 = some (.getfield 1740, 77) := by decide +kernel
theorem d211_77 : dc 211 77 = some (.putfield 1747, 80) := by decide +kernel
theorem d211_80 : dc 211 80 = some (.aload_n 0, 81) := by decide +kernel
theorem d211_81 : dc 211 81 = some (.bipush 62, 83) := by decide +kernel
theorem d211_83 : dc 211 83 = some (.invokevirtual 204, 86) := by decide +kernel
theorem d211_86 : dc 211 86 = some (.return_, 87) := by decide +kernel
theorem k_M_readText {S : Shp} {G : Nat → Option Nat} {d : Nat} {h : Hp} {Q : Option MV → Hp → Prop} {m : Nat} {l : List Nat} {a : Nat} {w : Int} (ok : Ok S h) (h1 : 3 ≤ d) (hm : sK S m = 14) (RQ : RqR S h m l) (PW : PwR h m a w) (hal : a ≤ l.length)
    (kk : ∀ h', Fr S m [1740, 1738, 1746, 1747] h h' → RqR S h' m l → PwR h' m (rxp l 62 (rtE l (rxp l 60 a w)) (rxp l 60 a w).2).1 (rxp l 62 (rtE l (rxp l 60 a w)) (rxp l 60 a w).2).2 → FI h' 1746 m = (((rxp l 60 a w).1 : Nat) : Int) → FI h' 1747 m = (((rtE l (rxp l 60 a w)) : Nat) : Int) → Q none h') : Cl G d 211 [vR (some m)] h Q := by
  show Wp G d 211 0 [some (vR (some m))] [] h Q
  have RQ_0 := RQ
  have PW_0 := PW
  have x1l : (rxp l 60 a w).1 ≤ l.length := by
    unfold rxp
    split
    · exact hal
    · split
      · rename_i z
        exact (bHe_in (l := l) (a := a) (by omega)).1
      · exact hal
  have l9 := RQ.2.1
  refine w_aload_n d211_0 rfl ?_
  refine w_bipush d211_1 (by decide) ?_
  refine w_callv2 d211_3 (by omega) rfl (ok.kd hm) (by simp) (Nat.le_of_ble_eq_true rfl) ?_
  refine k_M_expect ok (by omega) hm RQ PW (by decide) (fun h3 f3 RQ PW => ?_)
  have ok3 := f3.ok
  have FR3 := Fr.le (F := [1740, 1738, 1746, 1747]) f3 (by decide)
  refine w_aload_n d211_6 rfl ?_
  refine w_aload_n d211_7 rfl ?_
  refine w_getI (x := (((rxp l 60 a w).1 : Nat) : Int)) d211_8 (ok3.kd hm) PW.1 ?_
  refine wf1746 d211_11 ok3 hm (by omega) (fun h11 e11 m11 => ?_)
  have f11 : Fr S m [1746] _ _ := Fr.wF ok3 m11 (FK.pI e11)
  have ok11 := f11.ok
  have FR11 := Fr.tr (F := [1740, 1738, 1746, 1747]) FR3 f11 (by decide) (by decide)
  have RQ := RQ.r f11 hm
  have PW := PW.r f11 hm
  have L14 : ∀ (m14 : Nat) (g : Hp) (p : Nat), (rxp l 60 a w).1 + 160 - p = m14 → Fr S m [1740, 1738, 1746, 1747] h g → ((rxp l 60 a w).1 ≤ p ∧ p ≤ l.length ∧ p ≤ (rxp l 60 a w).1 + 160 ∧ (0 ≤ (rxp l 60 a w).2 → p = (rxp l 60 a w).1)) → (PwR g m p (rxp l 60 a w).2) → (FI g 1746 m = (((rxp l 60 a w).1 : Nat) : Int)) → (scan l isTx (rxp l 60 a w).1 160 = scan l isTx p ((rxp l 60 a w).1 + 160 - p)) → Wp G d 211 14 [some (vR (some m))] [] g Q := by
    intro m14
    induction m14 using Nat.strongRecOn with | ind m14 IH14 => ?_
    intro g p hm14 FRg pr PW TF1 E1
    have okg := FRg.ok
    have RQ := RQ_0.r FRg hm
    refine w_aload_n d211_14 rfl ?_
    refine w_getI (x := (rxp l 60 a w).2) d211_15 (okg.kd hm) PW.2 ?_
    have L72 : ∀ (m72 : Nat) (b : Hp) , 0 = m72 → Fr S m [1740, 1738, 1746, 1747] h b → (PwR b m (rtE l (rxp l 60 a w)) (rxp l 60 a w).2) → (FI b 1746 m = (((rxp l 60 a w).1 : Nat) : Int)) → ((rtE l (rxp l 60 a w)) ≤ l.length) → Wp G d 211 72 [some (vR (some m))] [] b Q := by
      intro m72
      induction m72 using Nat.strongRecOn with | ind m72 IH72 => ?_
      intro b  hm72 FRb PW TF1 el
      have okb := FRb.ok
      have RQ := RQ_0.r FRb hm
      refine w_aload_n d211_72 rfl ?_
      refine w_aload_n d211_73 rfl ?_
      refine w_getI (x := (((rtE l (rxp l 60 a w)) : Nat) : Int)) d211_74 (okb.kd hm) PW.1 ?_
      refine wf1747 d211_77 okb hm (by omega) (fun h77 e77 m77 => ?_)
      have f77 : Fr S m [1747] _ _ := Fr.wF okb m77 (FK.pI e77)
      have ok77 := f77.ok
      have FR77 := Fr.tr (F := [1740, 1738, 1746, 1747]) FRb f77 (by decide) (by decide)
      have RQ := RQ.r f77 hm
      have PW := PW.r f77 hm
      refine w_aload_n d211_80 rfl ?_
      refine w_bipush d211_81 (by decide) ?_
      refine w_callv2 d211_83 (by omega) rfl (ok77.kd hm) (by simp) (Nat.le_of_ble_eq_true rfl) ?_
      refine k_M_expect ok77 (by omega) hm RQ PW (by decide) (fun h83 f83 RQ PW => ?_)
      have ok83 := f83.ok
      have FR83 := Fr.tr (F := [1740, 1738, 1746, 1747]) FR77 f83 (by decide) (by decide)
      refine w_return d211_86 ?_
      exact kk h83 FR83 RQ PW ((f83.i 1746 (by decide)).trans ((f77.i 1746 (by decide)).trans TF1)) ((f83.i 1747 (by decide)).trans (by rw [e77, FI_sFI, if_pos ⟨rfl, rfl⟩]))
    refine w_ifge d211_18 (fun c18 => ?_) (fun c18 => ?_)
    · have eE : (rtE l (rxp l 60 a w)) = p := by
        unfold rtE
        rw [if_pos (by omega)]
        exact (pr.2.2.2 (by omega)).symm
      refine w_less ?_ (L72 _ g  rfl FRg (by rw [eE]; exact PW) TF1 (by rw [eE]; omega))
      exact ⟨Or.inr rfl, trivial⟩
    · have nw : ¬ 0 ≤ (rxp l 60 a w).2 := by omega
      refine w_aload_n d211_21 rfl ?_
      refine w_callv1 d211_22 (by omega) rfl (okg.kd hm) (by simp) (Nat.le_of_ble_eq_true rfl) ?_
      refine k_M_byteHere okg (by omega) hm RQ PW ?_
      refine w_bipush d211_25 (by decide) ?_
      refine w_bipush d211_27 (by decide) ?_
      refine w_calls3 d211_29 (by omega) rfl rfl (by simp) (Nat.le_of_ble_eq_true rfl) ?_
      refine k_M_in (by omega) ?_
      refine w_ifeq d211_32 (fun c32 => ?_) (fun c32 => ?_)
      · have nin : ¬ (32 ≤ bHe l p ∧ bHe l p ≤ 126) := fun z => by rw [decide_eq_true z] at c32; exact absurd c32 (by decide)
        have eE : (rtE l (rxp l 60 a w)) = p := by
          unfold rtE
          rw [if_neg nw, E1]
          exact scan_stop ((tx_no (Or.inl nin)).imp id Or.inr)
        refine w_less ?_ (L72 _ g  rfl FRg (by rw [eE]; exact PW) TF1 (by rw [eE]; omega))
        exact ⟨Or.inr rfl, trivial⟩
      · have hin : 32 ≤ bHe l p ∧ bHe l p ≤ 126 := by
          by_cases z : 32 ≤ bHe l p ∧ bHe l p ≤ 126
          · exact z
          · rw [decide_eq_false z] at c32; exact absurd rfl c32
        refine w_aload_n d211_35 rfl ?_
        refine w_callv1 d211_36 (by omega) rfl (okg.kd hm) (by simp) (Nat.le_of_ble_eq_true rfl) ?_
        refine k_M_byteHere okg (by omega) hm RQ PW ?_
        refine w_bipush d211_39 (by decide) ?_
        refine w_icmpeq d211_41 (fun c41 => ?_) (fun c41 => ?_)
        · have eE : (rtE l (rxp l 60 a w)) = p := by
            unfold rtE
            rw [if_neg nw, E1]
            exact scan_stop ((tx_no (Or.inr (by omega))).imp id Or.inr)
          refine w_less ?_ (L72 _ g  rfl FRg (by rw [eE]; exact PW) TF1 (by rw [eE]; omega))
          exact ⟨Or.inr rfl, trivial⟩
        · have lt := tx_in hin (by omega)
          refine w_aload_n d211_44 rfl ?_
          refine w_getI (x := ((p : Nat) : Int)) d211_45 (okg.kd hm) PW.1 ?_
          refine w_aload_n d211_48 rfl ?_
          refine w_getI (x := (((rxp l 60 a w).1 : Nat) : Int)) d211_49 (okg.kd hm) TF1 ?_
          refine w_sipush d211_52 (by decide) ?_
          refine w_iadd d211_55 (by constructor <;> omega) ?_
          refine w_icmpge d211_56 (fun c56 => ?_) (fun c56 => ?_)
          · have n0 : (rxp l 60 a w).1 + 160 - p = 0 := by omega
            have eE : (rtE l (rxp l 60 a w)) = p := by
              unfold rtE
              rw [if_neg nw, E1]
              exact scan_stop (Or.inr (Or.inl n0))
            refine w_less ?_ (L72 _ g  rfl FRg (by rw [eE]; exact PW) TF1 (by rw [eE]; omega))
            exact ⟨Or.inr rfl, trivial⟩
          · refine w_aload_n d211_59 rfl ?_
            refine w_dupR d211_60 ?_
            refine w_getI (x := ((p : Nat) : Int)) d211_61 (okg.kd hm) PW.1 ?_
            refine w_iconst d211_64 (by decide) ?_
            refine w_iadd d211_65 (by constructor <;> omega) ?_
            refine wf1740 d211_66 okg hm (by omega) (fun h66 e66 m66 => ?_)
            have f66 : Fr S m [1740] _ _ := Fr.wF okg m66 (FK.pI e66)
            have ok66 := f66.ok
            have FR66 := Fr.tr (F := [1740, 1738, 1746, 1747]) FRg f66 (by decide) (by decide)
            have RQ := RQ.r f66 hm
            have PW : PwR h66 m (p + 1) (rxp l 60 a w).2 := ⟨by rw [e66, FI_sFI, if_pos ⟨rfl, rfl⟩]; rfl, (f66.i 1738 (by decide)).trans PW.2⟩
            refine w_goto d211_69 ?_
            have E2 := scan_go (n := (rxp l 60 a w).1 + 160 - (p + 1)) lt.1 lt.2
            rw [show (rxp l 60 a w).1 + 160 - (p + 1) + 1 = (rxp l 60 a w).1 + 160 - p by omega] at E2
            refine w_less ?_ (IH14 _ (by omega) h66 (p + 1) rfl FR66 ⟨by omega, by omega, by omega, fun z => absurd z nw⟩ PW ((f66.i 1746 (by decide)).trans TF1) (E1.trans E2))
            exact ⟨Or.inr rfl, trivial⟩
  refine w_less ?_ (L14 _ h11 (rxp l 60 a w).1 rfl FR11 ⟨Nat.le_refl _, x1l, by omega, fun _ => rfl⟩ PW (by rw [e11, FI_sFI, if_pos ⟨rfl, rfl⟩]) (by rw [Nat.add_sub_cancel_left]))
  exact ⟨Or.inr rfl, trivial⟩
