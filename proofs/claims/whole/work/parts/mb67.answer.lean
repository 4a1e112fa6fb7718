/-! the reference: a request is answered -/
/-- what the reference answers -/
def anM (w : HoS) (b : BkV) (l T0 : List Nat) (w' : HoS) (b' : BkV) (T' : List Nat) : Prop :=
  if qrR l = false then w' = w ∧ b' = b ∧ T' = txt 27 ++ dec (qrE l)
  else if b.2.2.2 = true ∧ qrT l ≠ 34 ∧ qrT l ≠ 0 then w' = w ∧ b' = b ∧ T' = txt 37
  else if qrT l = 34 then w' = (mdM b.1 2048 ((([], [], []), [], (w.2.2.1, (seNo w.2.2).2)) : HoS) 0 0).1 ∧ b' = (clB b.1 (mdM b.1 2048 ((([], [], []), [], (w.2.2.1, (seNo w.2.2).2)) : HoS) 0 0).2.1 2048, (mdM b.1 2048 ((([], [], []), [], (w.2.2.1, (seNo w.2.2).2)) : HoS) 0 0).2.1, -1, false) ∧ T' = dec (mdM b.1 2048 ((([], [], []), [], (w.2.2.1, (seNo w.2.2).2)) : HoS) 0 0).2.2
  else if qrT l = 33 then w' = w ∧ ∃ cu : Bool, (cu = true ↔ 0 ≤ b.2.2.1 ∧ ((qrN l 0).toNat : Int) ≤ ((b.2.1 : Nat) : Int) - b.2.2.1) ∧ b' = (if cu = true then (clB b.1 (b.2.2.1.toNat + (qrN l 0).toNat) b.2.1, b.2.1, b.2.2.1, true) else b) ∧ T' = (if cu = true then txt 36 else txt 40)
  else if 12 < qrT l then w' = w ∧ b' = b ∧ (T' = T0 ∨ (qrT l = 21 ∧ 0 ≤ tat w.1.2.2 (qrA l (qrN l)).1 ∧ anR w (tat w.1.2.2 (qrA l (qrN l)).1).toNat T'))
  else if rfQ l w = 19 ∧ (qrT l = 0 ∨ (l.length ≤ 200 ∧ b.2.1 + l.length + 2 ≤ 2048)) then w' = (caM (qrT l) (qrA l (qrN l)) w).1 ∧ b' = bkW (bk0 true (qrT l) b) l ∧ T' = (if (caM (qrT l) (qrA l (qrN l)) w).2 = [] then txt 36 else (caM (qrT l) (qrA l (qrN l)) w).2)
  else w' = w ∧ b' = b ∧ T' = txt (if rfQ l w = 19 then 18 else rfQ l w)
theorem qr_0 {l : List Nat} (e : qrR l = true) (t0 : qrT l = 0) : l.length ≤ 200 := by
  unfold qrR at e
  simp only [Bool.and_eq_true, decide_eq_true_eq] at e
  obtain ⟨t, ht⟩ := Option.isSome_iff_exists.mp e.1
  have g := (vbR_le (l := l) 35 0 0 (Nat.zero_le _)).2 t ht
  have et : t = 0 := by unfold qrT at t0; rw [ht] at t0; exact t0
  rw [et] at g
  have e2 := e.2.2
  unfold qrP at e2
  rw [t0, show vf 0 = [] by decide +kernel] at e2
  have e2 : qrB l = l.length := e2
  unfold qrB at e2
  rw [← e2, g.2.2.1]
  decide +kernel
theorem k_M_askItB {S : Shp} {G : Nat → Option Nat} {d : Nat} {h : Hp} {Q : Option MV → Hp → Prop} {m : Nat} {w : HoS} {l la n0 : List Nat} {f e : Nat} {b : BkV} (ok : Ok S h) (h1 : 7 ≤ d) (hm : sK S m = 14) (NF : DfC S h (sT S 1664 m) w.1) (RS : RsR S h m w.2.1) (SX : SxR S h m w.2.2) (TE : TeR S h m la) (RQ : RqR S h m l) (NK : FI h 1739 m = ((qrT l : Nat) : Int)) (NM : NmR h m f e) (NI : NmI h m) (BR : BoR S h m b) (RD : RdF S h m l (qrB l) (qrT l)) (tg : Tg S G) (ht : qrT l = 33) (hu2 : b.2.1 ≤ 2048 ∧ b.2.2.1 ≤ b.2.1) (hn : f + n0.length = e) (sg : SgC S h (sT S 1730 m) f n0) (e20 : e ≤ 20020)
    (kk : ∀ h' cu b', Fr S m [1734, 1736, 1732, 1733] h h' → (cu = true ↔ 0 ≤ b.2.2.1 ∧ ((qrN l 0).toNat : Int) ≤ ((b.2.1 : Nat) : Int) - b.2.2.1) → b' = (if cu = true then (clB b.1 (b.2.2.1.toNat + (qrN l 0).toNat) b.2.1, b.2.1, b.2.2.1, true) else b) → TeR S h' m (addBs 20000 la (if cu = true then txt 36 else txt 40)) → BoR S h' m b' → Q none h') : Cl G d 300 [vR (some m)] h Q := by
  show Wp G d 300 0 [some (vR (some m)), none, none, none] [] h Q
  have NF_0 := NF
  have RS_0 := RS
  have SX_0 := SX
  have TE_0 := TE
  have RQ_0 := RQ
  have NK_0 := NK
  have NM_0 := NM
  have NI_0 := NI
  have BR_0 := BR
  have rq9 := RQ.2.1
  refine w_aload_n d300_0 rfl ?_
  refine w_callv1 d300_1 (by omega) rfl (ok.kd hm) (by simp) (Nat.le_of_ble_eq_true rfl) ?_
  refine k_M_target ok (by omega) hm NF NM hn sg ?_
  refine w_istore1 d300_4 rfl ?_
  refine w_aload_n d300_5 rfl ?_
  refine w_getI (x := ((qrT l : Nat) : Int)) d300_6 (ok.kd hm) NK ?_
  refine w_bipush d300_9 (by decide) ?_
  have L41 : ∀ (m41 : Nat) (u : Int), 0 = m41 → Wp G d 300 41 [some (vR (some m)), some (vI (tat w.1.2.2 n0)), none, none] [vI u] h Q := by
    intro m41
    induction m41 using Nat.strongRecOn with | ind m41 IH41 => ?_
    intro u hm41 
    refine w_istore2 d300_41 rfl ?_
    refine w_aload_n d300_42 rfl ?_
    refine w_getI (x := ((qrT l : Nat) : Int)) d300_43 (ok.kd hm) NK ?_
    refine w_tsw 477 d300_46 (by rw [ht]; decide) ?_
    refine w_aload_n d300_477 rfl ?_
    refine w_iload_n d300_478 rfl ?_
    refine w_callv2 d300_479 (by omega) rfl (ok.kd hm) (by simp) (Nat.le_of_ble_eq_true rfl) ?_
    refine k_M_askMoreB (l := l) ok (by omega) hm TE NK BR RD tg ht hu2 (fun h479 cu b1 f479 c1 c2 TE BR => ?_)
    have ok479 := f479.ok
    have FR479 := Fr.le (F := [1734, 1736, 1732, 1733]) f479 (by decide)
    have NF := DfC.r (f := 1664) f479 hm (by decide) NF
    have RS := RsR.s f479 hm RS
    have SX := SxR.r f479 hm SX
    have RQ := RQ.r f479 hm
    have NK := (f479.i 1739).trans NK
    have NM := NM.r f479 hm
    have NI := NI.r f479 hm
    refine w_return d300_482 ?_
    exact kk _ cu b1 FR479 c1 c2 TE BR
  refine w_icmpeq d300_11 (fun c11 => ?_) (fun c11 => ?_)
  · omega
  · refine w_aload_n d300_14 rfl ?_
    refine w_getI (x := ((e : Nat) : Int)) d300_15 (ok.kd hm) NM.2 ?_
    refine w_aload_n d300_18 rfl ?_
    refine w_getI (x := ((l.length : Nat) : Int)) d300_19 (ok.kd hm) RQ.1 ?_
    refine w_icmple d300_22 (fun c22 => ?_) (fun c22 => ?_)
    · refine w_aload_n d300_29 rfl ?_
      refine w_aload_n d300_30 rfl ?_
      refine w_getI (x := ((f : Nat) : Int)) d300_31 (ok.kd hm) NM.1 ?_
      refine w_aload_n d300_34 rfl ?_
      refine w_getI (x := ((e : Nat) : Int)) d300_35 (ok.kd hm) NM.2 ?_
      refine w_callv3 d300_38 (by omega) rfl (ok.kd hm) (by simp) (Nat.le_of_ble_eq_true rfl) ?_
      refine k_M_numberOf ok (by omega) hm NF hn sg ?_
      refine w_less ?_ (L41 _ (tix w.1.2.2 n0) rfl )
      exact ⟨Or.inr rfl, Or.inr rfl, Or.inl rfl, Or.inl rfl, trivial⟩
    · have nn_ : True := trivial
      refine w_iconst d300_25 (by decide) ?_
      refine w_goto d300_26 ?_
      refine w_less ?_ (L41 _ (-1) rfl )
      exact ⟨Or.inr rfl, Or.inr rfl, Or.inl rfl, Or.inl rfl, trivial⟩
theorem k_M_askItC {S : Shp} {G : Nat → Option Nat} {d : Nat} {h : Hp} {Q : Option MV → Hp → Prop} {m : Nat} {w : HoS} {l la n0 : List Nat} {f e k : Nat} {b : BkV} (ok : Ok S h) (h1 : 22 ≤ d) (hm : sK S m = 14) (NF : DfC S h (sT S 1664 m) w.1) (RS : RsR S h m w.2.1) (SX : SxR S h m w.2.2) (TE : TeR S h m la) (RQ : RqR S h m l) (NK : FI h 1739 m = ((qrT l : Nat) : Int)) (NM : NmR h m f e) (NI : NmI h m) (BR : BoR S h m b) (tg : Tg S G) (I : wInv k w) (hk : k ≤ 50000) (ht : qrT l = 34) (hn : f + n0.length = e) (sg : SgC S h (sT S 1730 m) f n0) (e20 : e ≤ 20020)
    (kk : ∀ h' l', Fr S m [1664, 1665, 1666, 1667, 1668, 1670, 1671, 1672, 1673, 1674, 1675, 1676, 1677, 1678, 1679, 1680, 1681, 1682, 1683, 1684, 1685, 1686, 1687, 1688, 1689, 1690, 1691, 1692, 1693, 1694, 1695, 1696, 1697, 1698, 1699, 1700, 1701, 1702, 1703, 1704, 1705, 1706, 1707, 1708, 1709, 1710, 1711, 1712, 1713, 1714, 1715, 1716, 1717, 1718, 1719, 1720, 1721, 1722, 1723, 1724, 1725, 1730, 1731, 1732, 1733, 1734, 1735, 1736, 1737, 1738, 1739, 1740, 1741, 1742, 1743, 1744, 1745, 1746, 1747, 1748, 1749, 1750, 1751, 1752, 1753, 1754, 1755, 1756, 1757, 1758, 1759, 1760, 1761] h h' → DfC S h' (sT S 1664 m) (mdM b.1 2048 ((([], [], []), [], (w.2.2.1, (seNo w.2.2).2)) : HoS) 0 0).1.1 → RsR S h' m (mdM b.1 2048 ((([], [], []), [], (w.2.2.1, (seNo w.2.2).2)) : HoS) 0 0).1.2.1 → SxR S h' m (mdM b.1 2048 ((([], [], []), [], (w.2.2.1, (seNo w.2.2).2)) : HoS) 0 0).1.2.2 → TeR S h' m (addBs 20000 [] (dec (mdM b.1 2048 ((([], [], []), [], (w.2.2.1, (seNo w.2.2).2)) : HoS) 0 0).2.2)) → NmI h' m → RqR S h' m l' → BoR S h' m (clB b.1 (mdM b.1 2048 ((([], [], []), [], (w.2.2.1, (seNo w.2.2).2)) : HoS) 0 0).2.1 2048, (mdM b.1 2048 ((([], [], []), [], (w.2.2.1, (seNo w.2.2).2)) : HoS) 0 0).2.1, -1, false) → Q none h') : Cl G d 300 [vR (some m)] h Q := by
  show Wp G d 300 0 [some (vR (some m)), none, none, none] [] h Q
  have NF_0 := NF
  have RS_0 := RS
  have SX_0 := SX
  have TE_0 := TE
  have RQ_0 := RQ
  have NK_0 := NK
  have NM_0 := NM
  have NI_0 := NI
  have BR_0 := BR
  have rq9 := RQ.2.1
  refine w_aload_n d300_0 rfl ?_
  refine w_callv1 d300_1 (by omega) rfl (ok.kd hm) (by simp) (Nat.le_of_ble_eq_true rfl) ?_
  refine k_M_target ok (by omega) hm NF NM hn sg ?_
  refine w_istore1 d300_4 rfl ?_
  refine w_aload_n d300_5 rfl ?_
  refine w_getI (x := ((qrT l : Nat) : Int)) d300_6 (ok.kd hm) NK ?_
  refine w_bipush d300_9 (by decide) ?_
  have L41 : ∀ (m41 : Nat) (u : Int), 0 = m41 → Wp G d 300 41 [some (vR (some m)), some (vI (tat w.1.2.2 n0)), none, none] [vI u] h Q := by
    intro m41
    induction m41 using Nat.strongRecOn with | ind m41 IH41 => ?_
    intro u hm41 
    refine w_istore2 d300_41 rfl ?_
    refine w_aload_n d300_42 rfl ?_
    refine w_getI (x := ((qrT l : Nat) : Int)) d300_43 (ok.kd hm) NK ?_
    refine w_tsw 477 d300_46 (by rw [ht]; decide) ?_
    refine w_aload_n d300_477 rfl ?_
    refine w_iload_n d300_478 rfl ?_
    refine w_callv2 d300_479 (by omega) rfl (ok.kd hm) (by simp) (Nat.le_of_ble_eq_true rfl) ?_
    refine k_M_askMoreC ok (by omega) hm NF RS SX TE BR.1 NI RQ NK tg I hk ht (fun h479 l1 f479 NF RS SX TE NI RQ BR => ?_)
    have ok479 := f479.ok
    have FR479 := Fr.le (F := [1664, 1665, 1666, 1667, 1668, 1670, 1671, 1672, 1673, 1674, 1675, 1676, 1677, 1678, 1679, 1680, 1681, 1682, 1683, 1684, 1685, 1686, 1687, 1688, 1689, 1690, 1691, 1692, 1693, 1694, 1695, 1696, 1697, 1698, 1699, 1700, 1701, 1702, 1703, 1704, 1705, 1706, 1707, 1708, 1709, 1710, 1711, 1712, 1713, 1714, 1715, 1716, 1717, 1718, 1719, 1720, 1721, 1722, 1723, 1724, 1725, 1730, 1731, 1732, 1733, 1734, 1735, 1736, 1737, 1738, 1739, 1740, 1741, 1742, 1743, 1744, 1745, 1746, 1747, 1748, 1749, 1750, 1751, 1752, 1753, 1754, 1755, 1756, 1757, 1758, 1759, 1760, 1761]) f479 (by decide)
    refine w_return d300_482 ?_
    exact kk _ _ FR479 NF RS SX TE NI RQ BR
  refine w_icmpeq d300_11 (fun c11 => ?_) (fun c11 => ?_)
  · omega
  · refine w_aload_n d300_14 rfl ?_
    refine w_getI (x := ((e : Nat) : Int)) d300_15 (ok.kd hm) NM.2 ?_
    refine w_aload_n d300_18 rfl ?_
    refine w_getI (x := ((l.length : Nat) : Int)) d300_19 (ok.kd hm) RQ.1 ?_
    refine w_icmple d300_22 (fun c22 => ?_) (fun c22 => ?_)
    · refine w_aload_n d300_29 rfl ?_
      refine w_aload_n d300_30 rfl ?_
      refine w_getI (x := ((f : Nat) : Int)) d300_31 (ok.kd hm) NM.1 ?_
      refine w_aload_n d300_34 rfl ?_
      refine w_getI (x := ((e : Nat) : Int)) d300_35 (ok.kd hm) NM.2 ?_
      refine w_callv3 d300_38 (by omega) rfl (ok.kd hm) (by simp) (Nat.le_of_ble_eq_true rfl) ?_
      refine k_M_numberOf ok (by omega) hm NF hn sg ?_
      refine w_less ?_ (L41 _ (tix w.1.2.2 n0) rfl )
      exact ⟨Or.inr rfl, Or.inr rfl, Or.inl rfl, Or.inl rfl, trivial⟩
    · have nn_ : True := trivial
      refine w_iconst d300_25 (by decide) ?_
      refine w_goto d300_26 ?_
      refine w_less ?_ (L41 _ (-1) rfl )
      exact ⟨Or.inr rfl, Or.inr rfl, Or.inl rfl, Or.inl rfl, trivial⟩
theorem k_M_askItN {S : Shp} {G : Nat → Option Nat} {d : Nat} {h : Hp} {Q : Option MV → Hp → Prop} {m : Nat} {w : HoS} {b : BkV} {l T0 : List Nat} {fl : List (List Nat × List Nat)} {k : Nat} {bu0 : Nat → OmV} (ok : Ok S h) (h1 : 22 ≤ d) (hm : sK S m = 14) (NF : DfC S h (sT S 1664 m) w.1) (RS : RsR S h m w.2.1) (SX : SxR S h m w.2.2) (TE : TeR S h m []) (RQ : RqR S h m l) (NK : FI h 1739 m = ((qrT l : Nat) : Int)) (NI : NmI h m) (BR : BoR S h m b) (FO : OmS S h (sT S 1669 m) bu0)
    (RD : RdF S h m l (qrB l) (qrT l)) (tg : Tg S G) (er : qrR l = true) (t35 : qrT l < 35) (hg : 12 < qrT l) (nsh : ¬ (b.2.2.2 = true ∧ qrT l ≠ 34 ∧ qrT l ≠ 0)) (h4 : l.length ≤ 4096) (I : wInv k w) (hk : k ≤ 50000) (AP : qrT l ≤ 32 → asP w l fl T0) (fp : List.Pairwise (fun a b => ltP a.1 b.1) fl) (fs : ∀ x, x ∈ fl ↔ x ∈ w.1.1) (hR : ∀ t ∈ rR (goR (seGo w.2.2)), t < (sePl w.2.2).2.2.length) (hu2 : b.2.1 ≤ 2048 ∧ b.2.2.1 ≤ b.2.1)
    (kk : ∀ h' w' b' T' l', Fr S m [1664, 1665, 1666, 1667, 1668, 1669, 1670, 1671, 1672, 1673, 1674, 1675, 1676, 1677, 1678, 1679, 1680, 1681, 1682, 1683, 1684, 1685, 1686, 1687, 1688, 1689, 1690, 1691, 1692, 1693, 1694, 1695, 1696, 1697, 1698, 1699, 1700, 1701, 1702, 1703, 1704, 1705, 1706, 1707, 1708, 1709, 1710, 1711, 1712, 1713, 1714, 1715, 1716, 1717, 1718, 1719, 1720, 1721, 1722, 1723, 1724, 1725, 1726, 1727, 1730, 1731, 1732, 1733, 1734, 1735, 1736, 1737, 1738, 1739, 1740, 1741, 1742, 1743, 1744, 1745, 1746, 1747, 1748, 1749, 1750, 1751, 1752, 1753, 1754, 1755, 1756, 1757, 1758, 1759, 1760, 1761, 1762, 1763] h h' → DfC S h' (sT S 1664 m) w'.1 → RsR S h' m w'.2.1 → SxR S h' m w'.2.2 → BoR S h' m b' → TeR S h' m (addBs 20000 [] T') → NmI h' m → RqR S h' m l' → (∃ bu, OmS S h' (sT S 1669 m) bu) → anM w b l T0 w' b' T' → Q none h') : Cl G d 300 [vR (some m)] h Q := by
  obtain ⟨f, e, n0, NM, hn, sg, e20, hnm⟩ := RdF.nm ok hm RQ RD NI
  have nr : ¬ qrR l = false := by rw [er]; exact Bool.noConfusion
  by_cases s34 : qrT l = 34
  · refine k_M_askItC ok h1 hm NF RS SX TE RQ NK NM NI BR tg I hk s34 hn sg e20 (fun h' l' fr nf rs sx te ni rq br => kk h' _ _ _ l' (fr.le (by decide)) nf rs sx br te ni rq ⟨_, OmS.r (f := 1669) fr hm (Or.inr rfl) (by decide) FO⟩ ?_)
    unfold anM
    rw [if_neg nr, if_neg nsh, if_pos s34]
    exact ⟨rfl, rfl, rfl⟩
  by_cases s33 : qrT l = 33
  · refine k_M_askItB ok (by omega) hm NF RS SX TE RQ NK NM NI BR RD tg s33 hu2 hn sg e20 (fun h' cu b' fr c1 c2 te br => kk h' w b' _ l (fr.le (by decide)) (DfC.r (f := 1664) fr hm (by decide) NF) (RsR.s fr hm RS) (SxR.r fr hm SX) br te (NI.r fr hm) (RQ.r fr hm) ⟨_, OmS.r (f := 1669) fr hm (Or.inr rfl) (by decide) FO⟩ ?_)
    unfold anM
    rw [if_neg nr, if_neg nsh, if_neg s34, if_pos s33]
    exact ⟨rfl, cu, c1, c2, rfl⟩
  refine k_M_askItA ok h1 hm NF RS SX TE RQ NK NM FO RD tg er ⟨by omega, by omega⟩ h4 I (by omega) hn sg e20 hnm (AP (by omega)) fp fs hR (fun h' T' fr c1 fo te => kk h' w b T' l (fr.le (by decide)) (DfC.r (f := 1664) fr hm (by decide) NF) (RsR.s fr hm RS) (SxR.r fr hm SX) (BR.r fr hm) te (NI.r fr hm) (RQ.r fr hm) fo ?_)
  unfold anM
  rw [if_neg nr, if_neg nsh, if_neg s34, if_neg s33, if_pos hg]
  exact ⟨rfl, rfl, c1⟩
theorem qrE_le {l : List Nat} : qrE l ≤ l.length := by
  unfold qrE
  split
  · exact qrB_le
  · exact pFo_le qrB_le _
