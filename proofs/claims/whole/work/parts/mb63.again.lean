/-! the reference: a record is done again -/
theorem refN_n {t : Nat} {P : PlV} {rs : List RuV} {pu : Nat → OutV} {g : Bool} {n n' : List Nat} {D : TgV} {nu : Nat → Int} {ci : Bool} (h : t ≠ 1 ∧ t ≠ 2 ∧ t ≠ 3 ∧ t ≠ 5 ∧ t ≠ 6 ∧ t ≠ 9) : refN t P rs pu g n D nu ci = refN t P rs pu g n' D nu ci := by
  unfold refN
  simp only [if_neg h.1, if_neg h.2.1, if_neg h.2.2.1, if_neg h.2.2.2.1, if_neg h.2.2.2.2.1, if_neg h.2.2.2.2.2]
theorem SxR.rx {S : Shp} {h : Hp} {m : Nat} {z : SeP} (D : SxR S h m z) : ∀ t, t < (sePl z).2.2.length → ∃ r : Nat, rix (tgR (tD (sePl z).2.2 t)) = (r : Int) := fun t ht => by
  obtain ⟨nn, br, TF, rest⟩ := D
  have a := (TF.2.2.2.2 t ht).2.2.2.2.2.1
  exact ⟨(rix (tgR (tD (sePl z).2.2 t))).toNat, by omega⟩
theorem rfG_no {S : Shp} {h : Hp} {G : Nat → Option Nat} {c : Nat} (tg : Tg S G) (ok : Ok S h) (hc : c < 89) : rfG G c = none ↔ c = 19 := by
  unfold rfG
  by_cases q : c = 19
  · rw [if_pos q]; exact ⟨fun _ => q, fun _ => rfl⟩
  · rw [if_neg q]
    obtain ⟨a, e, -⟩ := tg.tx ok c hc
    rw [e]
    exact ⟨fun z => absurd z (by simp), fun z => absurd z q⟩
theorem refN_89 {t : Nat} {P : PlV} {rs : List RuV} {pu : Nat → OutV} {g : Bool} {n : List Nat} {D : TgV} {nu : Nat → Int} {ci : Bool} : refN t P rs pu g n D nu ci < 89 := by
  have r : ∀ f k, rfs nu f k < 89 := fun f k => by
    unfold rfs
    by_cases a : 5 ≤ nu f ∨ 0 < f ∧ 5 ≤ nu 0
    · rw [if_pos a]; decide
    · rw [if_neg a]
      by_cases b : nu (f + 1) < 1 ∨ 3 < nu (f + 2) ∨ nu (f + 2) < nu (f + 1) ∨ 0 < f ∧ (nu 1 < 1 ∨ 3 < nu 1)
      · rw [if_pos b]; decide
      · rw [if_neg b]; split <;> decide
  unfold refN
  have r0 := r 0 rs.length
  have r2 := r 2 rs.length
  repeat' split
  all_goals first | omega | decide
theorem k_M_refusalN {S : Shp} {G : Nat → Option Nat} {d : Nat} {h : Hp} {Q : Option MV → Hp → Prop} {m : Nat} {w : HoS} {l : List Nat} (ok : Ok S h) (h1 : 10 ≤ d) (hm : sK S m = 14) (NF : DfC S h (sT S 1664 m) w.1) (RS : RsR S h m w.2.1) (SX : SxR S h m w.2.2) (RQ : RqR S h m l) (NI : NmI h m) (NK : FI h 1739 m = ((qrT l : Nat) : Int)) (RD : RdF S h m l (qrB l) (qrT l)) (tg : Tg S G) (ht : qrT l ≤ 12)
    (kk : Q (some (vR (rfG G (rfQ l w)))) h) : Cl G d 220 [vR (some m)] h Q := by
  obtain ⟨nn, br, TF, SE, ST, HA, NE, nb, RN, GN, SP, ED, RL, rb, GR⟩ := SX
  obtain ⟨wk, bu, bp, kf, pf, lf, ks, pb, WK, WP, BU, KP, LP, RE, CT, PT, PU, I, ke⟩ := SE
  have hpu : ∀ t, t < 14 → pb t = ((seGo w.2.2).1 t).1 := fun t ht => (I t ht).1.symm
  have ag : ∀ i, i < nmK (qrT l) → AI h (sT S 1741 m) i = qrN l i := fun i hi => RD.2.2.2.2.1 i hi
  have go : ∀ (f e : Nat) (n : List Nat), NmR h m f e → f + n.length = e → SgC S h (sT S 1730 m) f n → (qrT l = 4 → TdR S h m l (qrA l (qrN l)).2.2.1 ∧ n = tgN (qrA l (qrN l)).2.2.1) → refN (qrT l) w.1 w.2.1 (seGo w.2.2).1 (seOn w.2.2) n (qrA l (qrN l)).2.2.1 (qrN l) (ciB w.1.2.2 (qrA l (qrN l)).2.2.1) = rfQ l w → Cl G d 220 [vR (some m)] h Q := fun f e n NM hn sg hD er =>
    k_M_refusal ok h1 hm NF NM RQ NK GN RS.1 PU tg ht hn sg hpu hD ag rfl RS.2.1 (by rw [er]; exact kk)
  by_cases q : nmQ (qrT l) = true
  · obtain ⟨f, e, NM, o1, o2, eN⟩ := RD.1 q
    have nl := sl_len ⟨o1, o2⟩
    have eN : sl l f e = (qrA l (qrN l)).1 := eN
    rw [eN] at nl
    exact go f e (qrA l (qrN l)).1 NM (by omega) (by rw [← eN]; exact RQ.2.2.sub ⟨o1, o2⟩) (fun z => by rw [z] at q; exact absurd q (by decide)) rfl
  · have nq : qrT l ≠ 1 ∧ qrT l ≠ 2 ∧ qrT l ≠ 3 ∧ qrT l ≠ 5 ∧ qrT l ≠ 6 ∧ qrT l ≠ 9 := by
      refine ⟨?_, ?_, ?_, ?_, ?_, ?_⟩ <;> (intro z; rw [z] at q; exact q (by decide))
    by_cases q4 : qrT l = 4
    · have T := RD.2.2.1 q4
      have T0 := T
      obtain ⟨nf, nt, rf, rt, wf, wt, NM, RU, WO, ⟨o1, o2, o3, o4, o5, o6⟩, eN, eR⟩ := T
      have nl := sl_len ⟨o1, o2⟩
      rw [eN] at nl
      exact go nf nt (tgN (pDef l (qrB l)).2.2) NM (by omega) (by rw [← eN]; exact RQ.2.2.sub ⟨o1, o2⟩) (fun _ => ⟨T0, rfl⟩) (refN_n nq)
    · obtain ⟨f, e, NM, o1, o2⟩ := NI
      obtain ⟨n, n1, n2⟩ := SgC.any ok hm o1 o2
      exact go f e n NM n1 n2 (fun z => absurd z q4) (refN_n nq)
/-- a record of the book lies in the request -/
theorem RqR.rec {S : Shp} {h : Hp} {m a : Nat} {B : Nat → Nat} (ok : Ok S h) (hm : sK S m = 14) (hb : B a ≤ 200) (C : FI h 1731 m = ((B a : Nat) : Int)) (D : ∀ j, j < B a → AI h (sT S 1730 m) j = ((B (a + 1 + j) : Nat) : Int)) : RqR S h m (recL B a) := by
  have sl := sLT ok (f := 1730) (n := 20020) hm (by decide) rfl (by decide)
  refine ⟨by rw [C, recL_len], by rw [recL_len]; omega, kT1730 ok hm, ?_, by omega, fun i hi => ?_⟩
  · rw [recL_len]; omega
  · rw [recL_len] at hi
    rw [Nat.zero_add, D i hi]
    unfold recL
    rw [List.getD_eq_getElem?_getD, List.getElem?_eq_getElem (by simpa using hi)]
    simp
theorem d333_0 : dc 333 0 = some (.aload_n 0, 1) := by decide +kernel
theorem d333_1 : dc 333 1 = some (.dload 1734, 4) := by decide +kernel
theorem d333_4 : dc 333 4 = some (.iload_n 1, 5) := by decide +kernel
theorem d333_5 : dc 333 5 = some (.iaload, 6) := by decide +kernel
theorem d333_6 : dc 333 6 = some (.istore_n 2, 7) := by decide +kernel
theorem d333_7 : dc 333 7 = some (.iload_n 2, 8) := by decide +kernel
theorem d333_8 : dc 333 8 = some (.iconst 1, 9) := by decide +kernel
theorem d333_9 : dc 333 9 = some (.if_icmp .lt ((30 : Nat) : Int), 12) := by decide +kernel
theorem d333_12 : dc 333 12 = some (.iload_n 2, 13) := by decide +kernel
theorem d333_13 : dc 333 13 = some (.sipush 200, 16) := by decide +kernel
theorem d333_16 : dc 333 16 = some (.if_icmp .gt ((30 : Nat) : Int), 19) := by decide +kernel
theorem d333_19 : dc 333 19 = some (.iload_n 1, 20) := by decide +kernel
theorem d333_20 : dc 333 20 = some (.iload_n 2, 21) := by decide +kernel
theorem d333_21 : dc 333 21 = some (.iadd, 22) := by decide +kernel
theorem d333_22 : dc 333 22 = some (.iconst 2, 23) := by decide +kernel
theorem d333_23 : dc 333 23 = some (.iadd, 24) := by decide +kernel
theorem d333_24 : dc 333 24 = some (.sipush 2048, 27) := by decide +kernel
theorem d333_27 : dc 333 27 = some (.if_icmp .le ((32 : Nat) : Int), 30) := by decide +kernel
theorem d333_30 : dc 333 30 = some (.iconst 0, 31) := by decide +kernel
theorem d333_31 : dc 333 31 = some (.freturn, 32) := by decide +kernel
theorem d333_32 : dc 333 32 = some (.aload_n 0, 33) := by decide +kernel
theorem d333_33 : dc 333 33 = some (.iload_n 2, 34) := by decide +kernel
theorem d333_34 : dc 333 34 = some (.putfield 1731, 37) := by decide +kernel
theorem d333_37 : dc 333 37 = some (.iconst 0, 38) := by decide +kernel
theorem d333_38 : dc 333 38 = some (.istore_n 3, 39) := by decide +kernel
theorem d333_39 : dc 333 39 = some (.iload_n 3, 40) := by decide +kernel
theorem d333_40 : dc 333 40 = some (.iload_n 2, 41) := by decide +kernel
theorem d333_41 : dc 333 41 = some (.if_icmp .ge ((66 : Nat) : Int), 44) := by decide +kernel
theorem d333_44 : dc 333 44 = some (.aload_n 0, 45) := by decide +kernel
theorem d333_45 : dc 333 45 = some (.dload 1730, 48) := by decide +kernel
theorem d333_48 : dc 333 48 = some (.iload_n 3, 49) := by decide +kernel
theorem d333_49 : dc 333 49 = some (.aload_n 0, 50) := by decide +kernel
theorem d333_50 : dc 333 50 = some (.dload 1734, 53) := by decide +kernel
theorem d333_53 : dc 333 53 = some (.iload_n 1, 54) := by decide +kernel
theorem d333_54 : dc 333 54 = some (.iconst 1, 55) := by decide +kernel
theorem d333_55 : dc 333 55 = some (.iadd, 56) := by decide +kernel
theorem d333_56 : dc 333 56 = some (.iload_n 3, 57) := by decide +kernel
theorem d333_57 : dc 333 57 = some (.iadd, 58) := by decide +kernel
theorem d333_58 : dc 333 58 = some (.iaload, 59) := by decide +kernel
theorem d333_59 : dc 333 59 = some (.iastore, 60) := by decide +kernel
theorem d333_60 : dc 333 60 = some (.iinc 3 1, 63) := by decide +kernel
theorem d333_63 : dc 333 63 = some (.goto ((39 : Nat) : Int), 66) := by decide +kernel
theorem d333_66 : dc 333 66 = some (.aload_n 0, 67) := by decide +kernel
theorem d333_67 : dc 333 67 = some (.dload 1734, 70) := by decide +kernel
theorem d333_70 : dc 333 70 = some (.iload_n 1, 71) := by decide +kernel
theorem d333_71 : dc 333 71 = some (.iconst 1, 72) := by decide +kernel
theorem d333_72 : dc 333 72 = some (.iadd, 73) := by decide +kernel
theorem d333_73 : dc 333 73 = some (.iload_n 2, 74) := by decide +kernel
theorem d333_74 : dc 333 74 = some (.iadd, 75) := by decide +kernel
theorem d333_75 : dc 333 75 = some (.iaload, 76) := by decide +kernel
theorem d333_76 : dc 333 76 = some (.aload_n 0, 77) := by decide +kernel
theorem d333_77 : dc 333 77 = some (.invokevirtual 236, 80) := by decide +kernel
theorem d333_80 : dc 333 80 = some (.if_icmp .eq ((85 : Nat) : Int), 83) := by decide +kernel
theorem d333_83 : dc 333 83 = some (.iconst 0, 84) := by decide +kernel
theorem d333_84 : dc 333 84 = some (.freturn, 85) := by decide +kernel
theorem d333_85 : dc 333 85 = some (.aload_n 0, 86) := by decide +kernel
theorem d333_86 : dc 333 86 = some (.invokevirtual 197, 89) := by decide +kernel
theorem d333_89 : dc 333 89 = some (.aload_n 0, 90) := by decide +kernel
theorem d333_90 : dc 333 90 = some (.getfield 1738, 93) := by decide +kernel
theorem d333_93 : dc 333 93 = some (.ifCond .ge ((112 : Nat) : Int), 96) := by decide +kernel
theorem d333_96 : dc 333 96 = some (.aload_n 0, 97) := by decide +kernel
theorem d333_97 : dc 333 97 = some (.getfield 1739, 100) := by decide +kernel
theorem d333_100 : dc 333 100 = some (.bipush 12, 102) := by decide +kernel
theorem d333_102 : dc 333 102 = some (.if_icmp .gt ((112 : Nat) : Int), 105) := by decide +kernel
theorem d333_105 : dc 333 105 = some (.aload_n 0, 106) := by decide +kernel
theorem d333_106 : dc 333 106 = some (.invokevirtual 220, 109) := by decide +kernel
theorem d333_109 : dc 333 109 = some (.ifnull ((114 : Nat) : Int), 112) := by decide +kernel
theorem d333_112 : dc 333 112 = some (.iconst 0, 113) := by decide +kernel
theorem d333_113 : dc 333 113 = some (.freturn, 114) := by decide +kernel
theorem d333_114 : dc 333 114 = some (.aload_n 0, 115) := by decide +kernel
theorem d333_115 : dc 333 115 = some (.invokevirtual 237, 118) := by decide +kernel
theorem d333_118 : dc 333 118 = some (.iconst 1, 119) := by decide +kernel
theorem d333_119 : dc 333 119 = some (.freturn, 120) := by decide +kernel
theorem k_M_isDoneAgain {S : Shp} {G : Nat → Option Nat} {d : Nat} {h : Hp} {Q : Option MV → Hp → Prop} {m : Nat} {a : Nat} {w : HoS} {la l0 : List Nat} {B : Nat → Nat} {k : Nat} (ok : Ok S h) (h1 : 19 ≤ d) (hm : sK S m = 14) (NF : DfC S h (sT S 1664 m) w.1) (RS : RsR S h m w.2.1) (SX : SxR S h m w.2.2) (TE : TeR S h m la) (BO : ArI S h m 1734 (fun j => ((B j : Nat) : Int)) 2048) (NI : NmI h m) (RQ : RqR S h m l0) (tg : Tg S G) (I : wInv k w) (hk : k ≤ 60000) (ha : a < 2048)
    (k0 : ∀ h' la' l', Fr S m [1664, 1665, 1666, 1667, 1668, 1670, 1671, 1672, 1673, 1674, 1675, 1676, 1677, 1678, 1679, 1680, 1681, 1682, 1683, 1684, 1685, 1686, 1687, 1688, 1689, 1690, 1691, 1692, 1693, 1694, 1695, 1696, 1697, 1698, 1699, 1700, 1701, 1702, 1703, 1704, 1705, 1706, 1707, 1708, 1709, 1710, 1711, 1712, 1713, 1714, 1715, 1716, 1717, 1718, 1719, 1720, 1721, 1722, 1723, 1724, 1725, 1730, 1731, 1732, 1733, 1738, 1739, 1740, 1741, 1742, 1743, 1744, 1745, 1746, 1747, 1748, 1749, 1750, 1751, 1752, 1753, 1754, 1755, 1756, 1757, 1758, 1759, 1760, 1761] h h' → DfC S h' (sT S 1664 m) w.1 → RsR S h' m w.2.1 → SxR S h' m w.2.2 → TeR S h' m la' → NmI h' m → RqR S h' m l' → ¬ mdC B a w → Q (some (vI 0)) h')
    (k1 : ∀ h' la' l', Fr S m [1664, 1665, 1666, 1667, 1668, 1670, 1671, 1672, 1673, 1674, 1675, 1676, 1677, 1678, 1679, 1680, 1681, 1682, 1683, 1684, 1685, 1686, 1687, 1688, 1689, 1690, 1691, 1692, 1693, 1694, 1695, 1696, 1697, 1698, 1699, 1700, 1701, 1702, 1703, 1704, 1705, 1706, 1707, 1708, 1709, 1710, 1711, 1712, 1713, 1714, 1715, 1716, 1717, 1718, 1719, 1720, 1721, 1722, 1723, 1724, 1725, 1730, 1731, 1732, 1733, 1738, 1739, 1740, 1741, 1742, 1743, 1744, 1745, 1746, 1747, 1748, 1749, 1750, 1751, 1752, 1753, 1754, 1755, 1756, 1757, 1758, 1759, 1760, 1761] h h' → DfC S h' (sT S 1664 m) (caM (qrT (recL B a)) (qrA (recL B a) (qrN (recL B a))) w).1.1 → RsR S h' m (caM (qrT (recL B a)) (qrA (recL B a) (qrN (recL B a))) w).1.2.1 → SxR S h' m (caM (qrT (recL B a)) (qrA (recL B a) (qrN (recL B a))) w).1.2.2 → TeR S h' m la' → NmI h' m → RqR S h' m l' → mdC B a w → Q (some (vI 1)) h') : Cl G d 333 [vR (some m), vI (a : Nat)] h Q := by
  show Wp G d 333 0 [some (vR (some m)), some (vI (a : Nat)), none, none] [] h Q
  have NF_0 := NF
  have RS_0 := RS
  have SX_0 := SX
  have TE_0 := TE
  have BO_0 := BO
  have NI_0 := NI
  have RQ_0 := RQ
  refine w_aload_n d333_0 rfl ?_
  refine w_dloadS d333_1 (ok.kd hm) (fr1734 ok hm) ?_
  refine w_iload_n d333_4 rfl ?_
  refine w_ialoadV (x := ((B a : Nat) : Int)) d333_5 (gi1734 ok hm (by omega)) (BO a ha) ?_
  refine w_istore2 d333_6 rfl ?_
  refine w_iload_n d333_7 rfl ?_
  refine w_iconst d333_8 (by decide) ?_
  refine w_icmplt d333_9 (fun c9 => ?_) (fun c9 => ?_)
  · refine w_iconst d333_30 (by decide) ?_
    refine w_zreturn d333_31 (by decide) ?_
    refine k0 _ _ _ (Fr.refl ok) NF RS SX TE NI RQ (fun z => by have := z.1.2.1; omega)
  · refine w_iload_n d333_12 rfl ?_
    refine w_sipush d333_13 (by decide) ?_
    refine w_icmpgt d333_16 (fun c16 => ?_) (fun c16 => ?_)
    · refine w_iconst d333_30 (by decide) ?_
      refine w_zreturn d333_31 (by decide) ?_
      refine k0 _ _ _ (Fr.refl ok) NF RS SX TE NI RQ (fun z => by have := z.1.2.2.1; omega)
    · refine w_iload_n d333_19 rfl ?_
      refine w_iload_n d333_20 rfl ?_
      refine w_iadd d333_21 (by constructor <;> omega) ?_
      refine w_iconst d333_22 (by decide) ?_
      refine w_iadd d333_23 (by constructor <;> omega) ?_
      refine w_sipush d333_24 (by decide) ?_
      refine w_icmple d333_27 (fun c27 => ?_) (fun c27 => ?_)
      · refine w_aload_n d333_32 rfl ?_
        refine w_iload_n d333_33 rfl ?_
        refine wf1731 d333_34 ok hm (by omega) (fun h34 e34 m34 => ?_)
        have f34 : Fr S m [1731] _ _ := Fr.wF ok m34 (FK.pI e34)
        have ok34 := f34.ok
        have FR34 := Fr.le (F := [1664, 1665, 1666, 1667, 1668, 1670, 1671, 1672, 1673, 1674, 1675, 1676, 1677, 1678, 1679, 1680, 1681, 1682, 1683, 1684, 1685, 1686, 1687, 1688, 1689, 1690, 1691, 1692, 1693, 1694, 1695, 1696, 1697, 1698, 1699, 1700, 1701, 1702, 1703, 1704, 1705, 1706, 1707, 1708, 1709, 1710, 1711, 1712, 1713, 1714, 1715, 1716, 1717, 1718, 1719, 1720, 1721, 1722, 1723, 1724, 1725, 1730, 1731, 1732, 1733, 1738, 1739, 1740, 1741, 1742, 1743, 1744, 1745, 1746, 1747, 1748, 1749, 1750, 1751, 1752, 1753, 1754, 1755, 1756, 1757, 1758, 1759, 1760, 1761]) f34 (by decide)
        have NF := DfC.r (f := 1664) f34 hm (by decide) NF
        have RS := RsR.s f34 hm RS
        have SX := SxR.r f34 hm SX
        have TE := TE.r f34 hm
        have BO := BO.r f34 hm
        have NI := NI.r f34 hm
        have C31 : FI h34 1731 m = ((B a : Nat) : Int) := by rw [e34, FI_sFI, if_pos ⟨rfl, rfl⟩]
        refine w_iconst d333_37 (by decide) ?_
        refine w_istore3 d333_38 rfl ?_
        have L39 : ∀ (m39 : Nat) (g : Hp) (i : Nat), B a - i = m39 → Fr S m [1664, 1665, 1666, 1667, 1668, 1670, 1671, 1672, 1673, 1674, 1675, 1676, 1677, 1678, 1679, 1680, 1681, 1682, 1683, 1684, 1685, 1686, 1687, 1688, 1689, 1690, 1691, 1692, 1693, 1694, 1695, 1696, 1697, 1698, 1699, 1700, 1701, 1702, 1703, 1704, 1705, 1706, 1707, 1708, 1709, 1710, 1711, 1712, 1713, 1714, 1715, 1716, 1717, 1718, 1719, 1720, 1721, 1722, 1723, 1724, 1725, 1730, 1731, 1732, 1733, 1738, 1739, 1740, 1741, 1742, 1743, 1744, 1745, 1746, 1747, 1748, 1749, 1750, 1751, 1752, 1753, 1754, 1755, 1756, 1757, 1758, 1759, 1760, 1761] h g → (i ≤ B a) → (∀ j, j < i → AI g (sT S 1730 m) j = ((B (a + 1 + j) : Nat) : Int)) → (DfC S g (sT S 1664 m) w.1) → (RsR S g m w.2.1) → (SxR S g m w.2.2) → (TeR S g m la) → (NmI g m) → (FI g 1731 m = ((B a : Nat) : Int)) → Wp G d 333 39 [some (vR (some m)), some (vI (a : Nat)), some (vI (B a : Nat)), some (vI (i : Nat))] [] g Q := by
          intro m39
          induction m39 using Nat.strongRecOn with | ind m39 IH39 => ?_
          intro g i hm39 FRg il hc NF RS SX TE NI C31
          have okg := FRg.ok
          have BO := BO_0.r FRg hm
          refine w_iload_n d333_39 rfl ?_
          refine w_iload_n d333_40 rfl ?_
          refine w_icmpge d333_41 (fun c41 => ?_) (fun c41 => ?_)
          · have ei : i = B a := by omega
            have RQ : RqR S g m (recL B a) := RqR.rec okg hm (by omega) C31 (fun j hj => hc j (by omega))
            refine w_aload_n d333_66 rfl ?_
            refine w_dloadS d333_67 (okg.kd hm) (fr1734 okg hm) ?_
            refine w_iload_n d333_70 rfl ?_
            refine w_iconst d333_71 (by decide) ?_
            refine w_iadd d333_72 (by constructor <;> omega) ?_
            refine w_iload_n d333_73 rfl ?_
            refine w_iadd d333_74 (by constructor <;> omega) ?_
            rw [show ((a : Nat) : Int) + 1 + ((B a : Nat) : Int) = ((a + 1 + B a : Nat) : Int) by omega]
            refine w_ialoadV (x := ((B (a + 1 + B a) : Nat) : Int)) d333_75 (gi1734 okg hm (by omega)) (BO (a + 1 + B a) (by omega)) ?_
            refine w_aload_n d333_76 rfl ?_
            refine w_callv1 d333_77 (by omega) rfl (okg.kd hm) (by simp) (Nat.le_of_ble_eq_true rfl) ?_
            refine k_M_sumOfRequest okg (by omega) hm RQ ?_
            refine w_icmpeq d333_80 (fun c80 => ?_) (fun c80 => ?_)
            · have rok : recOk B a := ⟨by omega, by omega, by omega, by omega, by omega⟩
              refine w_aload_n d333_85 rfl ?_
              refine w_callv1 d333_86 (by omega) rfl (okg.kd hm) (by simp) (Nat.le_of_ble_eq_true rfl) ?_
              refine k_M_read (l := (recL B a)) okg (by omega) hm RQ NI tg (by rw [recL_len]; omega) (fun h86 f86 RQ NI R0 R1 => ?_)
              have ok86 := f86.ok
              have FR86 := Fr.tr (F := [1664, 1665, 1666, 1667, 1668, 1670, 1671, 1672, 1673, 1674, 1675, 1676, 1677, 1678, 1679, 1680, 1681, 1682, 1683, 1684, 1685, 1686, 1687, 1688, 1689, 1690, 1691, 1692, 1693, 1694, 1695, 1696, 1697, 1698, 1699, 1700, 1701, 1702, 1703, 1704, 1705, 1706, 1707, 1708, 1709, 1710, 1711, 1712, 1713, 1714, 1715, 1716, 1717, 1718, 1719, 1720, 1721, 1722, 1723, 1724, 1725, 1730, 1731, 1732, 1733, 1738, 1739, 1740, 1741, 1742, 1743, 1744, 1745, 1746, 1747, 1748, 1749, 1750, 1751, 1752, 1753, 1754, 1755, 1756, 1757, 1758, 1759, 1760, 1761]) FRg f86 (by decide) (by decide)
              have NF := DfC.r (f := 1664) f86 hm (by decide) NF
              have RS := RsR.s f86 hm RS
              have SX := SxR.r f86 hm SX
              have TE := TE.r f86 hm
              have C31 := (f86.i 1731).trans C31
              have BO := BO.r f86 hm
              refine w_aload_n d333_89 rfl ?_
              refine w_getfield d333_90 (ok86.kd hm) ?_
              have r90 := rg1738 ok86 hm
              refine w_ifge d333_93 (fun c93 => ?_) (fun c93 => ?_)
              · refine w_iconst d333_112 (by decide) ?_
                refine w_zreturn d333_113 (by decide) ?_
                refine k0 _ _ _ FR86 NF RS SX TE NI RQ (fun z => by have := (R1 z.2.1).1; omega)
              · have er : qrR (recL B a) = true := by cases z : qrR (recL B a) with | true => rfl | false => (have := R0 z; omega)
                obtain ⟨r1, NK, t35, RD⟩ := R1 er
                refine w_aload_n d333_96 rfl ?_
                refine w_getI (x := ((qrT (recL B a) : Nat) : Int)) d333_97 (ok86.kd hm) NK ?_
                refine w_bipush d333_100 (by decide) ?_
                refine w_icmpgt d333_102 (fun c102 => ?_) (fun c102 => ?_)
                · refine w_iconst d333_112 (by decide) ?_
                  refine w_zreturn d333_113 (by decide) ?_
                  refine k0 _ _ _ FR86 NF RS SX TE NI RQ (fun z => by have := (kd_12 ⟨_, t35⟩).1 z.2.2.1; simp only at this; omega)
                · have ht : qrT (recL B a) ≤ 12 := by omega
                  refine w_aload_n d333_105 rfl ?_
                  refine w_callv1 d333_106 (by omega) rfl (ok86.kd hm) (by simp) (Nat.le_of_ble_eq_true rfl) ?_
                  refine k_M_refusalN (l := (recL B a)) ok86 (by omega) hm NF RS SX RQ NI NK RD tg ht ?_
                  refine w_ifnull d333_109 (fun c109 => ?_) (fun c109 => ?_)
                  · have hok := (rfG_no (c := rfQ (recL B a) w) tg ok86 refN_89).mp c109
                    refine w_aload_n d333_114 rfl ?_
                    refine w_callv1 d333_115 (by omega) rfl (ok86.kd hm) (by simp) (Nat.le_of_ble_eq_true rfl) ?_
                    refine k_M_tell (l := (recL B a)) ok86 (by omega) hm NF RS SX TE RQ NK RD tg ht hok (qr_arg er) (fun _ => I.gow (by omega) (by have := qrN_9 (recL B a) 0; omega) SX.rx) (fun t i => by have := I.2.2.2.2 t i; omega) (fun h115 f115 NF RS SX TE => ?_)
                    have ok115 := f115.ok
                    have FR115 := Fr.tr (F := [1664, 1665, 1666, 1667, 1668, 1670, 1671, 1672, 1673, 1674, 1675, 1676, 1677, 1678, 1679, 1680, 1681, 1682, 1683, 1684, 1685, 1686, 1687, 1688, 1689, 1690, 1691, 1692, 1693, 1694, 1695, 1696, 1697, 1698, 1699, 1700, 1701, 1702, 1703, 1704, 1705, 1706, 1707, 1708, 1709, 1710, 1711, 1712, 1713, 1714, 1715, 1716, 1717, 1718, 1719, 1720, 1721, 1722, 1723, 1724, 1725, 1730, 1731, 1732, 1733, 1738, 1739, 1740, 1741, 1742, 1743, 1744, 1745, 1746, 1747, 1748, 1749, 1750, 1751, 1752, 1753, 1754, 1755, 1756, 1757, 1758, 1759, 1760, 1761]) FR86 f115 (by decide) (by decide)
                    have NI := NI.r f115 hm
                    have C31 := (f115.i 1731).trans C31
                    have BO := BO.r f115 hm
                    have RQ := RQ.r f115 hm
                    refine w_iconst d333_118 (by decide) ?_
                    refine w_zreturn d333_119 (by decide) ?_
                    exact k1 _ _ _ FR115 NF RS SX TE NI RQ ⟨rok, er, (kd_12 ⟨_, t35⟩).2 ht, hok⟩
                  · refine w_iconst d333_112 (by decide) ?_
                    refine w_zreturn d333_113 (by decide) ?_
                    refine k0 _ _ _ FR86 NF RS SX TE NI RQ (fun z => c109 ((rfG_no (c := rfQ (recL B a) w) tg ok86 refN_89).mpr z.2.2.2))
            · refine w_iconst d333_83 (by decide) ?_
              refine w_zreturn d333_84 (by decide) ?_
              refine k0 _ _ _ FRg NF RS SX TE NI RQ (fun z => by have := z.1.2.2.2.2; omega)
          · have bi := ra1734 okg hm (a + 1 + i)
            rw [BO (a + 1 + i) (by omega)] at bi
            refine w_aload_n d333_44 rfl ?_
            refine w_dloadS d333_45 (okg.kd hm) (fr1730 okg hm) ?_
            refine w_iload_n d333_48 rfl ?_
            refine w_aload_n d333_49 rfl ?_
            refine w_dloadS d333_50 (okg.kd hm) (fr1734 okg hm) ?_
            refine w_iload_n d333_53 rfl ?_
            refine w_iconst d333_54 (by decide) ?_
            refine w_iadd d333_55 (by constructor <;> omega) ?_
            refine w_iload_n d333_56 rfl ?_
            refine w_iadd d333_57 (by constructor <;> omega) ?_
            rw [show ((a : Nat) : Int) + 1 + ((i : Nat) : Int) = ((a + 1 + i : Nat) : Int) by omega]
            refine w_ialoadV (x := ((B (a + 1 + i) : Nat) : Int)) d333_58 (gi1734 okg hm (by omega)) (BO (a + 1 + i) (by omega)) ?_
            refine wa1730 d333_59 okg hm (by omega) (by omega) (fun h59 e59 m59 => ?_)
            have e59 : h59 = sAI g (sT S 1730 m) i ((B (a + 1 + i) : Nat) : Int) := e59
            have f59 : Fr S m [1730] _ _ := Fr.wB okg hm m59 (fun ζ e => ⟨1730, by decide, by decide, e ▸ U_refl⟩)
            have ok59 := f59.ok
            have FR59 := Fr.tr (F := [1664, 1665, 1666, 1667, 1668, 1670, 1671, 1672, 1673, 1674, 1675, 1676, 1677, 1678, 1679, 1680, 1681, 1682, 1683, 1684, 1685, 1686, 1687, 1688, 1689, 1690, 1691, 1692, 1693, 1694, 1695, 1696, 1697, 1698, 1699, 1700, 1701, 1702, 1703, 1704, 1705, 1706, 1707, 1708, 1709, 1710, 1711, 1712, 1713, 1714, 1715, 1716, 1717, 1718, 1719, 1720, 1721, 1722, 1723, 1724, 1725, 1730, 1731, 1732, 1733, 1738, 1739, 1740, 1741, 1742, 1743, 1744, 1745, 1746, 1747, 1748, 1749, 1750, 1751, 1752, 1753, 1754, 1755, 1756, 1757, 1758, 1759, 1760, 1761]) FRg f59 (by decide) (by decide)
            have NF := DfC.r (f := 1664) f59 hm (by decide) NF
            have RS := RsR.s f59 hm RS
            have SX := SxR.r f59 hm SX
            have TE := TE.r f59 hm
            have NI := NI.r f59 hm
            have C31 := (f59.i 1731).trans C31
            have BO := BO.r f59 hm
            refine w_iinc3 d333_60 rfl (by constructor <;> omega) ?_
            refine w_goto d333_63 ?_
            rw [show ((i : Nat) : Int) + 1 = ((i + 1 : Nat) : Int) by omega]
            refine w_less ?_ (IH39 _ (by omega) h59 (i + 1) rfl FR59 (by omega) (fun j hj => by rw [e59, sArr]; by_cases q : j = i; rw [if_pos q, q]; rw [if_neg q]; exact hc j (by omega)) NF RS SX TE NI C31)
            exact ⟨Or.inr rfl, Or.inr rfl, Or.inr rfl, Or.inr rfl, trivial⟩
        refine w_less ?_ (L39 _ h34 0 rfl FR34 (Nat.zero_le _) (fun j hj => absurd hj (Nat.not_lt_zero _)) NF RS SX TE NI C31)
        exact ⟨Or.inr rfl, Or.inr rfl, Or.inr rfl, Or.inr rfl, trivial⟩
      · refine w_iconst d333_30 (by decide) ?_
        refine w_zreturn d333_31 (by decide) ?_
        refine k0 _ _ _ (Fr.refl ok) NF RS SX TE NI RQ (fun z => by have := z.1.2.2.2.1; omega)
