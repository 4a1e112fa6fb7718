/-! the reference: a request is answered -/
theorem TdR.r {S : Shp} {h h' : Hp} {m : Nat} {l : List Nat} {D : TgV} {F : List Nat} (T : TdR S h m l D) (fr : Fr S m F h h') (hm : sK S m = 14) (h1 : (∀ f ∈ [1741, 1742, 1743, 1744, 1745, 1746, 1747, 1748, 1749, 1750, 1751, 1752, 1753, 1754, 1755, 1756, 1757, 1758, 1759, 1760, 1761], f ∉ F) ∧ ltF4 F := by decide) : TdR S h' m l D := by
  obtain ⟨nf, nt, rf, rt, wf, wt, NM, RU, WO, o, eN, eR, eW, IC, i6, IA, CC⟩ := T
  have k : ∀ f, f ∈ [1741, 1742, 1743, 1744, 1745, 1746, 1747, 1748, 1749, 1750, 1751, 1752, 1753, 1754, 1755, 1756, 1757, 1758, 1759, 1760, 1761] → f ∉ F := h1.1
  have q := h1.2
  refine ⟨nf, nt, rf, rt, wf, wt, NM.r fr hm ⟨k _ (by decide), k _ (by decide)⟩, RU.r fr hm ⟨k _ (by decide), k _ (by decide)⟩, WO.r fr hm ⟨k _ (by decide), k _ (by decide)⟩, o, eN, eR, eW, (fr.i 1752 (k _ (by decide))).trans IC, i6, IA.r fr hm ⟨k _ (by decide), k _ (by decide), k _ (by decide), q⟩, ?_⟩
  rcases CC with ⟨c1, c2, c3⟩ | ⟨c1, c2, ff, ft, c3, c4, c5, c6, c7⟩
  · exact Or.inl ⟨c1, c2, (fr.i 1756 (k _ (by decide))).trans c3⟩
  · exact Or.inr ⟨c1, (fr.i 1756 (k _ (by decide))).trans c2, ff, ft, c3.r fr hm ⟨k _ (by decide), k _ (by decide)⟩, c4, c5, c6, by rw [fr.ai (by have := kT1741 fr.1 hm; omega) (by decide) (k _ (by decide)) q]; exact c7⟩
theorem RdF.r {S : Shp} {h h' : Hp} {m a k0 : Nat} {l : List Nat} {F : List Nat} (D : RdF S h m l a k0) (fr : Fr S m F h h') (hm : sK S m = 14) (h1 : (∀ f ∈ [1741, 1742, 1743, 1744, 1745, 1746, 1747, 1748, 1749, 1750, 1751, 1752, 1753, 1754, 1755, 1756, 1757, 1758, 1759, 1760, 1761], f ∉ F) ∧ ltF4 F := by decide) : RdF S h' m l a k0 := by
  obtain ⟨d1, d2, d3, d4, d5, d6, d7⟩ := D
  have k : ∀ f, f ∈ [1741, 1742, 1743, 1744, 1745, 1746, 1747, 1748, 1749, 1750, 1751, 1752, 1753, 1754, 1755, 1756, 1757, 1758, 1759, 1760, 1761] → f ∉ F := h1.1
  have q := h1.2
  refine ⟨fun z => ?_, fun z => ⟨(fr.i 1746 (k _ (by decide))).trans (d2 z).1, (fr.i 1747 (k _ (by decide))).trans (d2 z).2⟩, fun z => (d3 z).r fr hm h1, fun z => ?_, fun i hi => by rw [fr.ai (by have := kT1741 fr.1 hm; omega) (by decide) (k _ (by decide)) q]; exact d5 i hi, fun z => (fr.i 1761 (k _ (by decide))).trans (d6 z), fun z => ⟨(fr.i 1760 (k _ (by decide))).trans (d7 z).1, ArI.r (d7 z).2 fr hm ⟨k _ (by decide), q, by decide⟩⟩⟩
  · obtain ⟨f, e, NM, o⟩ := d1 z
    exact ⟨f, e, NM.r fr hm ⟨k _ (by decide), k _ (by decide)⟩, o⟩
  · obtain ⟨f, e, F2, E2, o⟩ := d4 z
    exact ⟨f, e, (fr.i 1744 (k _ (by decide))).trans F2, (fr.i 1745 (k _ (by decide))).trans E2, o⟩
theorem d196_0 : dc 196 0 = some (.aload_n 0, 1) := by decide +kernel
theorem d196_1 : dc 196 1 = some (.iconst 0, 2) := by decide +kernel
theorem d196_2 : dc 196 2 = some (.putfield 1733, 5) := by decide +kernel
theorem d196_5 : dc 196 5 = some (.aload_n 0, 6) := by decide +kernel
theorem d196_6 : dc 196 6 = some (.invokevirtual 197, 9) := by decide +kernel
theorem d196_9 : dc 196 9 = some (.aload_n 0, 10) := by decide +kernel
theorem d196_10 : dc 196 10 = some (.getfield 1738, 13) := by decide +kernel
theorem d196_13 : dc 196 13 = some (.ifCond .lt ((34 : Nat) : Int), 16) := by decide +kernel
theorem d196_16 : dc 196 16 = some (.aload_n 0, 17) := by decide +kernel
theorem d196_17 : dc 196 17 = some (.getstatic 77, 20) := by decide +kernel
theorem d196_20 : dc 196 20 = some (.invokevirtual 217, 23) := by decide +kernel
theorem d196_23 : dc 196 23 = some (.aload_n 0, 24) := by decide +kernel
theorem d196_24 : dc 196 24 = some (.aload_n 0, 25) := by decide +kernel
theorem d196_25 : dc 196 25 = some (.getfield 1738, 28) := by decide +kernel
theorem d196_28 : dc 196 28 = some (.invokevirtual 219, 31) := by decide +kernel
theorem d196_31 : dc 196 31 = some (.goto ((123 : Nat) : Int), 34) := by decide +kernel
theorem d196_34 : dc 196 34 = some (.aload_n 0, 35) := by decide +kernel
theorem d196_35 : dc 196 35 = some (.getfield 1736, 38) := by decide +kernel
theorem d196_38 : dc 196 38 = some (.ifCond .eq ((67 : Nat) : Int), 41) := by decide +kernel
theorem d196_41 : dc 196 41 = some (.aload_n 0, 42) := by decide +kernel
theorem d196_42 : dc 196 42 = some (.getfield 1739, 45) := by decide +kernel
theorem d196_45 : dc 196 45 = some (.bipush 34, 47) := by decide +kernel
theorem d196_47 : dc 196 47 = some (.if_icmp .eq ((67 : Nat) : Int), 50) := by decide +kernel
theorem d196_50 : dc 196 50 = some (.aload_n 0, 51) := by decide +kernel
theorem d196_51 : dc 196 51 = some (.getfield 1739, 54) := by decide +kernel
theorem d196_54 : dc 196 54 = some (.ifCond .eq ((67 : Nat) : Int), 57) := by decide +kernel
theorem d196_57 : dc 196 57 = some (.aload_n 0, 58) := by decide +kernel
theorem d196_58 : dc 196 58 = some (.getstatic 87, 61) := by decide +kernel
theorem d196_61 : dc 196 61 = some (.invokevirtual 217, 64) := by decide +kernel
theorem d196_64 : dc 196 64 = some (.goto ((123 : Nat) : Int), 67) := by decide +kernel
theorem d196_67 : dc 196 67 = some (.aload_n 0, 68) := by decide +kernel
theorem d196_68 : dc 196 68 = some (.getfield 1739, 71) := by decide +kernel
theorem d196_71 : dc 196 71 = some (.bipush 12, 73) := by decide +kernel
theorem d196_73 : dc 196 73 = some (.if_icmp .gt ((119 : Nat) : Int), 76) := by decide +kernel
theorem d196_76 : dc 196 76 = some (.aload_n 0, 77) := by decide +kernel
theorem d196_77 : dc 196 77 = some (.invokevirtual 220, 80) := by decide +kernel
theorem d196_80 : dc 196 80 = some (.astore_n 1, 81) := by decide +kernel
theorem d196_81 : dc 196 81 = some (.aload_n 1, 82) := by decide +kernel
theorem d196_82 : dc 196 82 = some (.ifnonnull ((96 : Nat) : Int), 85) := by decide +kernel
theorem d196_85 : dc 196 85 = some (.aload_n 0, 86) := by decide +kernel
theorem d196_86 : dc 196 86 = some (.invokevirtual 233, 89) := by decide +kernel
theorem d196_89 : dc 196 89 = some (.ifCond .ne ((96 : Nat) : Int), 92) := by decide +kernel
theorem d196_92 : dc 196 92 = some (.getstatic 68, 95) := by decide +kernel
theorem d196_95 : dc 196 95 = some (.astore_n 1, 96) := by decide +kernel
theorem d196_96 : dc 196 96 = some (.aload_n 1, 97) := by decide +kernel
theorem d196_97 : dc 196 97 = some (.ifnull ((108 : Nat) : Int), 100) := by decide +kernel
theorem d196_100 : dc 196 100 = some (.aload_n 0, 101) := by decide +kernel
theorem d196_101 : dc 196 101 = some (.aload_n 1, 102) := by decide +kernel
theorem d196_102 : dc 196 102 = some (.invokevirtual 217, 105) := by decide +kernel
theorem d196_105 : dc 196 105 = some (.goto ((116 : Nat) : Int), 108) := by decide +kernel
theorem d196_108 : dc 196 108 = some (.aload_n 0, 109) := by decide +kernel
theorem d196_109 : dc 196 109 = some (.invokevirtual 234, 112) := by decide +kernel
theorem d196_112 : dc 196 112 = some (.aload_n 0, 113) := by decide +kernel
theorem d196_113 : dc 196 113 = some (.invokevirtual 237, 116) := by decide +kernel
theorem d196_116 : dc 196 116 = some (.goto ((123 : Nat) : Int), 119) := by decide +kernel
theorem d196_119 : dc 196 119 = some (.aload_n 0, 120) := by decide +kernel
theorem d196_120 : dc 196 120 = some (.invokevirtual 300, 123) := by decide +kernel
theorem d196_123 : dc 196 123 = some (.return_, 124) := by decide +kernel
theorem k_M_answerIt {S : Shp} {G : Nat → Option Nat} {d : Nat} {h : Hp} {Q : Option MV → Hp → Prop} {m : Nat} {w : HoS} {b : BkV} {l la T0 : List Nat} {fl : List (List Nat × List Nat)} {k : Nat} {bu0 : Nat → OmV} (ok : Ok S h) (h1 : 23 ≤ d) (hm : sK S m = 14) (NF : DfC S h (sT S 1664 m) w.1) (RS : RsR S h m w.2.1) (SX : SxR S h m w.2.2) (RQ : RqR S h m l) (NI : NmI h m) (BR : BoR S h m b) (FO : OmS S h (sT S 1669 m) bu0) (tg : Tg S G) (h4 : l.length ≤ 4096) (I : wInv k w) (hk : k ≤ 50000) (AP : qrR l = true → 12 < qrT l → qrT l ≤ 32 → asP w l fl T0) (fp : List.Pairwise (fun a b => ltP a.1 b.1) fl) (fs : ∀ x, x ∈ fl ↔ x ∈ w.1.1) (hR : ∀ t ∈ rR (goR (seGo w.2.2)), t < (sePl w.2.2).2.2.length) (hu2 : b.2.1 ≤ 2048 ∧ b.2.2.1 ≤ b.2.1)
    (kk : ∀ h' w' b' T' l', Fr S m [1664, 1665, 1666, 1667, 1668, 1669, 1670, 1671, 1672, 1673, 1674, 1675, 1676, 1677, 1678, 1679, 1680, 1681, 1682, 1683, 1684, 1685, 1686, 1687, 1688, 1689, 1690, 1691, 1692, 1693, 1694, 1695, 1696, 1697, 1698, 1699, 1700, 1701, 1702, 1703, 1704, 1705, 1706, 1707, 1708, 1709, 1710, 1711, 1712, 1713, 1714, 1715, 1716, 1717, 1718, 1719, 1720, 1721, 1722, 1723, 1724, 1725, 1726, 1727, 1730, 1731, 1732, 1733, 1734, 1735, 1736, 1737, 1738, 1739, 1740, 1741, 1742, 1743, 1744, 1745, 1746, 1747, 1748, 1749, 1750, 1751, 1752, 1753, 1754, 1755, 1756, 1757, 1758, 1759, 1760, 1761, 1762, 1763] h h' → DfC S h' (sT S 1664 m) w'.1 → RsR S h' m w'.2.1 → SxR S h' m w'.2.2 → BoR S h' m b' → TeR S h' m (addBs 20000 [] T') → NmI h' m → RqR S h' m l' → (∃ bu, OmS S h' (sT S 1669 m) bu) → anM w b l T0 w' b' T' → Q none h') : Cl G d 196 [vR (some m)] h Q := by
  show Wp G d 196 0 [some (vR (some m)), none] [] h Q
  have NF_0 := NF
  have RS_0 := RS
  have SX_0 := SX
  have RQ_0 := RQ
  have NI_0 := NI
  have BR_0 := BR
  have FO_0 := FO
  refine w_aload_n d196_0 rfl ?_
  refine w_iconst d196_1 (by decide) ?_
  refine wf1733 d196_2 ok hm (by omega) (fun h2 e2 m2 => ?_)
  have f2 : Fr S m [1733] _ _ := Fr.wF ok m2 (FK.pI e2)
  have ok2 := f2.ok
  have FR2 := Fr.le (F := [1664, 1665, 1666, 1667, 1668, 1669, 1670, 1671, 1672, 1673, 1674, 1675, 1676, 1677, 1678, 1679, 1680, 1681, 1682, 1683, 1684, 1685, 1686, 1687, 1688, 1689, 1690, 1691, 1692, 1693, 1694, 1695, 1696, 1697, 1698, 1699, 1700, 1701, 1702, 1703, 1704, 1705, 1706, 1707, 1708, 1709, 1710, 1711, 1712, 1713, 1714, 1715, 1716, 1717, 1718, 1719, 1720, 1721, 1722, 1723, 1724, 1725, 1726, 1727, 1730, 1731, 1732, 1733, 1734, 1735, 1736, 1737, 1738, 1739, 1740, 1741, 1742, 1743, 1744, 1745, 1746, 1747, 1748, 1749, 1750, 1751, 1752, 1753, 1754, 1755, 1756, 1757, 1758, 1759, 1760, 1761, 1762, 1763]) f2 (by decide)
  have NF := DfC.r (f := 1664) f2 hm (by decide) NF
  have RS := RsR.s f2 hm RS
  have SX := SxR.r f2 hm SX
  have RQ := RQ.r f2 hm
  have NI := NI.r f2 hm
  have BR := BR.r f2 hm
  have FO := OmS.r (f := 1669) f2 hm (Or.inr rfl) (by decide) FO
  have TE : TeR S h2 m [] := ⟨by rw [e2, FI_sFI, if_pos ⟨rfl, rfl⟩]; rfl, Nat.zero_le _, fun i hi => absurd hi (Nat.not_lt_zero _)⟩
  refine w_aload_n d196_5 rfl ?_
  refine w_callv1 d196_6 (by omega) rfl (ok2.kd hm) (by simp) (Nat.le_of_ble_eq_true rfl) ?_
  refine k_M_read (l := l) ok2 (by omega) hm RQ NI tg h4 (fun h6 f6 RQ NI R0 R1 => ?_)
  have ok6 := f6.ok
  have FR6 := Fr.tr (F := [1664, 1665, 1666, 1667, 1668, 1669, 1670, 1671, 1672, 1673, 1674, 1675, 1676, 1677, 1678, 1679, 1680, 1681, 1682, 1683, 1684, 1685, 1686, 1687, 1688, 1689, 1690, 1691, 1692, 1693, 1694, 1695, 1696, 1697, 1698, 1699, 1700, 1701, 1702, 1703, 1704, 1705, 1706, 1707, 1708, 1709, 1710, 1711, 1712, 1713, 1714, 1715, 1716, 1717, 1718, 1719, 1720, 1721, 1722, 1723, 1724, 1725, 1726, 1727, 1730, 1731, 1732, 1733, 1734, 1735, 1736, 1737, 1738, 1739, 1740, 1741, 1742, 1743, 1744, 1745, 1746, 1747, 1748, 1749, 1750, 1751, 1752, 1753, 1754, 1755, 1756, 1757, 1758, 1759, 1760, 1761, 1762, 1763]) FR2 f6 (by decide) trivial
  have NF := DfC.r (f := 1664) f6 hm (by decide) NF
  have RS := RsR.s f6 hm RS
  have SX := SxR.r f6 hm SX
  have BR := BR.r f6 hm
  have FO := OmS.r (f := 1669) f6 hm (Or.inr rfl) (by decide) FO
  have TE := TE.r f6 hm
  refine w_aload_n d196_9 rfl ?_
  refine w_getfield d196_10 (ok6.kd hm) ?_
  have r10 := rg1738 ok6 hm
  refine w_iflt d196_13 (fun c13 => ?_) (fun c13 => ?_)
  · have er : qrR l = true := by cases z : qrR l with | true => rfl | false => (have := R0 z; omega)
    obtain ⟨r1, NK, t35, RD⟩ := R1 er
    refine w_aload_n d196_34 rfl ?_
    refine w_getI (x := (b2i b.2.2.2)) d196_35 (ok6.kd hm) BR.2.2.2 ?_
    refine w_ifeq d196_38 (fun c38 => ?_) (fun c38 => ?_)
    · have shf : b.2.2.2 = false := by
        cases hz : b.2.2.2 with
        | true => rw [hz] at c38; exact absurd c38 (by decide)
        | false => rfl
      have nsh : ¬ (b.2.2.2 = true ∧ qrT l ≠ 34 ∧ qrT l ≠ 0) := fun z => by rw [shf] at z; exact absurd z.1 Bool.false_ne_true
      refine w_aload_n d196_67 rfl ?_
      refine w_getI (x := ((qrT l : Nat) : Int)) d196_68 (ok6.kd hm) NK ?_
      refine w_bipush d196_71 (by decide) ?_
      refine w_icmpgt d196_73 (fun c73 => ?_) (fun c73 => ?_)
      · have hg : 12 < qrT l := by omega
        refine w_aload_n d196_119 rfl ?_
        refine w_callv1 d196_120 (by omega) rfl (ok6.kd hm) (by simp) (Nat.le_of_ble_eq_true rfl) ?_
        refine k_M_askItN (b := b) (T0 := T0) (fl := fl) ok6 (by omega) hm NF RS SX TE RQ NK NI BR FO RD tg er t35 hg nsh h4 I hk (fun z => AP er (by omega) z) fp fs hR hu2 (fun h120 w1 b1 T1 l1 f120 NF RS SX BR TE NI RQ FO an => ?_)
        have ok120 := f120.ok
        have FR120 := Fr.tr (F := [1664, 1665, 1666, 1667, 1668, 1669, 1670, 1671, 1672, 1673, 1674, 1675, 1676, 1677, 1678, 1679, 1680, 1681, 1682, 1683, 1684, 1685, 1686, 1687, 1688, 1689, 1690, 1691, 1692, 1693, 1694, 1695, 1696, 1697, 1698, 1699, 1700, 1701, 1702, 1703, 1704, 1705, 1706, 1707, 1708, 1709, 1710, 1711, 1712, 1713, 1714, 1715, 1716, 1717, 1718, 1719, 1720, 1721, 1722, 1723, 1724, 1725, 1726, 1727, 1730, 1731, 1732, 1733, 1734, 1735, 1736, 1737, 1738, 1739, 1740, 1741, 1742, 1743, 1744, 1745, 1746, 1747, 1748, 1749, 1750, 1751, 1752, 1753, 1754, 1755, 1756, 1757, 1758, 1759, 1760, 1761, 1762, 1763]) FR6 f120 (fun _ q => q) trivial
        refine w_return d196_123 ?_
        exact kk _ w1 b1 T1 l1 FR120 NF RS SX BR TE NI RQ FO an
      · have ht : qrT l ≤ 12 := by omega
        refine w_aload_n d196_76 rfl ?_
        refine w_callv1 d196_77 (by omega) rfl (ok6.kd hm) (by simp) (Nat.le_of_ble_eq_true rfl) ?_
        refine k_M_refusalN (l := l) ok6 (by omega) hm NF RS SX RQ NI NK RD tg ht ?_
        refine w_astore1 d196_80 rfl ?_
        refine w_aload_n d196_81 rfl ?_
        refine w_ifnonnull d196_82 (fun c82 => ?_) (fun c82 => ?_)
        · have nre : rfQ l w ≠ 19 := fun z => c82 ((rfG_no (c := rfQ l w) tg ok6 refN_89).mpr z)
          obtain ⟨g_, vg_, sg_⟩ := tg.al ok6 (rfQ l w) refN_89
          have eg : rfG G (rfQ l w) = some g_ := by unfold rfG; rw [if_neg nre]; exact vg_
          rw [eg]
          refine w_aload_n d196_96 rfl ?_
          refine w_ifnull d196_97 (fun c97 => ?_) (fun c97 => ?_)
          · exact absurd c97 (by simp)
          · refine w_aload_n d196_100 rfl ?_
            refine w_aload_n d196_101 rfl ?_
            refine w_callv2 d196_102 (by omega) rfl (ok6.kd hm) (by simp) (Nat.le_of_ble_eq_true rfl) ?_
            refine k_M_say ok6 (by omega) hm TE sg_ (fun h102 m102 q102 TE => ?_)
            have f102 : Fr S m [1732, 1733] _ _ := Fr.mk ok6 m102 (fun ζ q => q.elim ((fun ζ e => Or.inl e) ζ) ((fun ζ e => Or.inr ⟨1732, by decide, e ▸ U_refl⟩) ζ)) q102 (by decide)
            have ok102 := f102.ok
            have FR102 := Fr.tr (F := [1664, 1665, 1666, 1667, 1668, 1669, 1670, 1671, 1672, 1673, 1674, 1675, 1676, 1677, 1678, 1679, 1680, 1681, 1682, 1683, 1684, 1685, 1686, 1687, 1688, 1689, 1690, 1691, 1692, 1693, 1694, 1695, 1696, 1697, 1698, 1699, 1700, 1701, 1702, 1703, 1704, 1705, 1706, 1707, 1708, 1709, 1710, 1711, 1712, 1713, 1714, 1715, 1716, 1717, 1718, 1719, 1720, 1721, 1722, 1723, 1724, 1725, 1726, 1727, 1730, 1731, 1732, 1733, 1734, 1735, 1736, 1737, 1738, 1739, 1740, 1741, 1742, 1743, 1744, 1745, 1746, 1747, 1748, 1749, 1750, 1751, 1752, 1753, 1754, 1755, 1756, 1757, 1758, 1759, 1760, 1761, 1762, 1763]) FR6 f102 (by decide) trivial
            have NF := DfC.r (f := 1664) f102 hm (by decide) NF
            have RS := RsR.s f102 hm RS
            have SX := SxR.r f102 hm SX
            have RQ := RQ.r f102 hm
            have NI := NI.r f102 hm
            have BR := BR.r f102 hm
            have FO := OmS.r (f := 1669) f102 hm (Or.inr rfl) (by decide) FO
            have NK := (f102.i 1739).trans NK
            refine w_goto d196_105 ?_
            refine w_goto d196_116 ?_
            refine w_return d196_123 ?_
            exact kk _ w b _ _ FR102 NF RS SX BR TE NI RQ ⟨_, FO⟩ (by unfold anM; rw [if_neg (by rw [er]; exact Bool.noConfusion), if_neg nsh, if_neg (by omega), if_neg (by omega), if_neg (by omega), if_neg (fun z => nre z.1), if_neg nre]; exact ⟨rfl, rfl, rfl⟩)
        · have re : rfQ l w = 19 := (rfG_no (c := rfQ l w) tg ok6 refN_89).mp c82
          rw [c82]
          refine w_aload_n d196_85 rfl ?_
          refine w_callv1 d196_86 (by omega) rfl (ok6.kd hm) (by simp) (Nat.le_of_ble_eq_true rfl) ?_
          refine k_M_hasRoom ok6 (by omega) hm RQ NK BR.2.1 ?_
          refine w_ifne d196_89 (fun c89 => ?_) (fun c89 => ?_)
          · have room : (((qrT l : Nat) : Int) = 0 ∨ (l.length ≤ 200 ∧ b.2.1 + l.length + 2 ≤ 2048)) := by
              by_cases z : (((qrT l : Nat) : Int) = 0 ∨ (l.length ≤ 200 ∧ b.2.1 + l.length + 2 ≤ 2048))
              · exact z
              · rw [b2i_decN z] at c89; exact absurd rfl c89
            refine w_aload_n d196_96 rfl ?_
            refine w_ifnull d196_97 (fun c97 => ?_) (fun c97 => ?_)
            · refine w_aload_n d196_108 rfl ?_
              have l2 : l.length ≤ 200 := by rcases room with z | z; exact qr_0 er (by omega); exact z.1
              refine w_callv1 d196_109 (by omega) rfl (ok6.kd hm) (by simp) (Nat.le_of_ble_eq_true rfl) ?_
              refine k_M_write (B := b.1) ok6 (by omega) hm RQ NK BR.2.1 BR.1 BR.2.2.2 l2 (by split; omega; omega) (fun h109 f109 B1 B2 B3 B4 => ?_)
              have ok109 := f109.ok
              have FR109 := Fr.tr (F := [1664, 1665, 1666, 1667, 1668, 1669, 1670, 1671, 1672, 1673, 1674, 1675, 1676, 1677, 1678, 1679, 1680, 1681, 1682, 1683, 1684, 1685, 1686, 1687, 1688, 1689, 1690, 1691, 1692, 1693, 1694, 1695, 1696, 1697, 1698, 1699, 1700, 1701, 1702, 1703, 1704, 1705, 1706, 1707, 1708, 1709, 1710, 1711, 1712, 1713, 1714, 1715, 1716, 1717, 1718, 1719, 1720, 1721, 1722, 1723, 1724, 1725, 1726, 1727, 1730, 1731, 1732, 1733, 1734, 1735, 1736, 1737, 1738, 1739, 1740, 1741, 1742, 1743, 1744, 1745, 1746, 1747, 1748, 1749, 1750, 1751, 1752, 1753, 1754, 1755, 1756, 1757, 1758, 1759, 1760, 1761, 1762, 1763]) FR6 f109 (by decide) trivial
              have NF := DfC.r (f := 1664) f109 hm (by decide) NF
              have RS := RsR.s f109 hm RS
              have SX := SxR.r f109 hm SX
              have RQ := RQ.r f109 hm
              have NI := NI.r f109 hm
              have FO := OmS.r (f := 1669) f109 hm (Or.inr rfl) (by decide) FO
              have TE := TE.r f109 hm
              have NK := (f109.i 1739).trans NK
              have BR : BoR S h109 m (bkW (bk0 true (qrT l) b) l) := by
                by_cases z : qrT l = 0
                · rw [if_pos (by omega), if_pos (by omega)] at B1
                  rw [if_pos (by omega)] at B2 B3 B4
                  unfold bk0
                  rw [if_pos ⟨rfl, z⟩]
                  exact ⟨B1, by rw [B2]; show _ = ((0 + l.length + 2 : Nat) : Int); omega, B3, B4⟩
                · rw [if_neg (by omega), if_neg (by omega)] at B1
                  rw [if_neg (by omega)] at B2 B3 B4
                  unfold bk0
                  rw [if_neg (fun y => z y.2)]
                  exact ⟨B1, by rw [B2]; show _ = ((b.2.1 + l.length + 2 : Nat) : Int); omega, B3, B4⟩
              have RD := RD.r f109 hm
              refine w_aload_n d196_112 rfl ?_
              refine w_callv1 d196_113 (by omega) rfl (ok109.kd hm) (by simp) (Nat.le_of_ble_eq_true rfl) ?_
              refine k_M_tell (l := l) ok109 (by omega) hm NF RS SX TE RQ NK RD tg ht re (qr_arg er) (fun _ => I.gow (by omega) (by have := qrN_9 l 0; omega) SX.rx) (fun t i => by have := I.2.2.2.2 t i; omega) (fun h113 f113 NF RS SX TE => ?_)
              have ok113 := f113.ok
              have FR113 := Fr.tr (F := [1664, 1665, 1666, 1667, 1668, 1669, 1670, 1671, 1672, 1673, 1674, 1675, 1676, 1677, 1678, 1679, 1680, 1681, 1682, 1683, 1684, 1685, 1686, 1687, 1688, 1689, 1690, 1691, 1692, 1693, 1694, 1695, 1696, 1697, 1698, 1699, 1700, 1701, 1702, 1703, 1704, 1705, 1706, 1707, 1708, 1709, 1710, 1711, 1712, 1713, 1714, 1715, 1716, 1717, 1718, 1719, 1720, 1721, 1722, 1723, 1724, 1725, 1726, 1727, 1730, 1731, 1732, 1733, 1734, 1735, 1736, 1737, 1738, 1739, 1740, 1741, 1742, 1743, 1744, 1745, 1746, 1747, 1748, 1749, 1750, 1751, 1752, 1753, 1754, 1755, 1756, 1757, 1758, 1759, 1760, 1761, 1762, 1763]) FR109 f113 (by decide) trivial
              have RQ := RQ.r f113 hm
              have NI := NI.r f113 hm
              have FO := OmS.r (f := 1669) f113 hm (Or.inr rfl) (by decide) FO
              have NK := (f113.i 1739).trans NK
              have BR := BR.r f113 hm
              refine w_goto d196_116 ?_
              refine w_return d196_123 ?_
              exact kk _ _ _ _ _ FR113 NF RS SX BR TE NI RQ ⟨_, FO⟩ (by unfold anM; rw [if_neg (by rw [er]; exact Bool.noConfusion), if_neg nsh, if_neg (by omega), if_neg (by omega), if_neg (by omega), if_pos ⟨re, by omega⟩]; exact ⟨rfl, rfl, rfl⟩)
            · exact absurd rfl c97
          · have nroom : ¬ (((qrT l : Nat) : Int) = 0 ∨ (l.length ≤ 200 ∧ b.2.1 + l.length + 2 ≤ 2048)) := fun z => by rw [b2i_dec z] at c89; exact absurd c89 (by decide)
            obtain ⟨g92, v92, s92⟩ := tg.al ok6 18 (by decide)
            refine w_getstaticS d196_92 v92 ?_
            refine w_astore1 d196_95 rfl ?_
            refine w_aload_n d196_96 rfl ?_
            refine w_ifnull d196_97 (fun c97 => ?_) (fun c97 => ?_)
            · exact absurd c97 (by simp)
            · refine w_aload_n d196_100 rfl ?_
              refine w_aload_n d196_101 rfl ?_
              refine w_callv2 d196_102 (by omega) rfl (ok6.kd hm) (by simp) (Nat.le_of_ble_eq_true rfl) ?_
              refine k_M_say ok6 (by omega) hm TE s92 (fun h102 m102 q102 TE => ?_)
              have f102 : Fr S m [1732, 1733] _ _ := Fr.mk ok6 m102 (fun ζ q => q.elim ((fun ζ e => Or.inl e) ζ) ((fun ζ e => Or.inr ⟨1732, by decide, e ▸ U_refl⟩) ζ)) q102 (by decide)
              have ok102 := f102.ok
              have FR102 := Fr.tr (F := [1664, 1665, 1666, 1667, 1668, 1669, 1670, 1671, 1672, 1673, 1674, 1675, 1676, 1677, 1678, 1679, 1680, 1681, 1682, 1683, 1684, 1685, 1686, 1687, 1688, 1689, 1690, 1691, 1692, 1693, 1694, 1695, 1696, 1697, 1698, 1699, 1700, 1701, 1702, 1703, 1704, 1705, 1706, 1707, 1708, 1709, 1710, 1711, 1712, 1713, 1714, 1715, 1716, 1717, 1718, 1719, 1720, 1721, 1722, 1723, 1724, 1725, 1726, 1727, 1730, 1731, 1732, 1733, 1734, 1735, 1736, 1737, 1738, 1739, 1740, 1741, 1742, 1743, 1744, 1745, 1746, 1747, 1748, 1749, 1750, 1751, 1752, 1753, 1754, 1755, 1756, 1757, 1758, 1759, 1760, 1761, 1762, 1763]) FR6 f102 (by decide) trivial
              have NF := DfC.r (f := 1664) f102 hm (by decide) NF
              have RS := RsR.s f102 hm RS
              have SX := SxR.r f102 hm SX
              have RQ := RQ.r f102 hm
              have NI := NI.r f102 hm
              have BR := BR.r f102 hm
              have FO := OmS.r (f := 1669) f102 hm (Or.inr rfl) (by decide) FO
              have NK := (f102.i 1739).trans NK
              refine w_goto d196_105 ?_
              refine w_goto d196_116 ?_
              refine w_return d196_123 ?_
              exact kk _ w b _ _ FR102 NF RS SX BR TE NI RQ ⟨_, FO⟩ (by unfold anM; rw [if_neg (by rw [er]; exact Bool.noConfusion), if_neg nsh, if_neg (by omega), if_neg (by omega), if_neg (by omega), if_neg (fun z => nroom (by omega)), if_pos re]; exact ⟨rfl, rfl, rfl⟩)
    · have sht : b.2.2.2 = true := by
        cases hz : b.2.2.2 with
        | true => rfl
        | false => rw [hz] at c38; exact absurd rfl c38
      refine w_aload_n d196_41 rfl ?_
      refine w_getI (x := ((qrT l : Nat) : Int)) d196_42 (ok6.kd hm) NK ?_
      refine w_bipush d196_45 (by decide) ?_
      refine w_icmpeq d196_47 (fun c47 => ?_) (fun c47 => ?_)
      · have nsh : ¬ (b.2.2.2 = true ∧ qrT l ≠ 34 ∧ qrT l ≠ 0) := fun z => z.2.1 (by omega)
        refine w_aload_n d196_67 rfl ?_
        refine w_getI (x := ((qrT l : Nat) : Int)) d196_68 (ok6.kd hm) NK ?_
        refine w_bipush d196_71 (by decide) ?_
        refine w_icmpgt d196_73 (fun c73 => ?_) (fun c73 => ?_)
        · have hg : 12 < qrT l := by omega
          refine w_aload_n d196_119 rfl ?_
          refine w_callv1 d196_120 (by omega) rfl (ok6.kd hm) (by simp) (Nat.le_of_ble_eq_true rfl) ?_
          refine k_M_askItN (b := b) (T0 := T0) (fl := fl) ok6 (by omega) hm NF RS SX TE RQ NK NI BR FO RD tg er t35 hg nsh h4 I hk (fun z => AP er (by omega) z) fp fs hR hu2 (fun h120 w1 b1 T1 l1 f120 NF RS SX BR TE NI RQ FO an => ?_)
          have ok120 := f120.ok
          have FR120 := Fr.tr (F := [1664, 1665, 1666, 1667, 1668, 1669, 1670, 1671, 1672, 1673, 1674, 1675, 1676, 1677, 1678, 1679, 1680, 1681, 1682, 1683, 1684, 1685, 1686, 1687, 1688, 1689, 1690, 1691, 1692, 1693, 1694, 1695, 1696, 1697, 1698, 1699, 1700, 1701, 1702, 1703, 1704, 1705, 1706, 1707, 1708, 1709, 1710, 1711, 1712, 1713, 1714, 1715, 1716, 1717, 1718, 1719, 1720, 1721, 1722, 1723, 1724, 1725, 1726, 1727, 1730, 1731, 1732, 1733, 1734, 1735, 1736, 1737, 1738, 1739, 1740, 1741, 1742, 1743, 1744, 1745, 1746, 1747, 1748, 1749, 1750, 1751, 1752, 1753, 1754, 1755, 1756, 1757, 1758, 1759, 1760, 1761, 1762, 1763]) FR6 f120 (fun _ q => q) trivial
          refine w_return d196_123 ?_
          exact kk _ w1 b1 T1 l1 FR120 NF RS SX BR TE NI RQ FO an
        · have ht : qrT l ≤ 12 := by omega
          refine w_aload_n d196_76 rfl ?_
          refine w_callv1 d196_77 (by omega) rfl (ok6.kd hm) (by simp) (Nat.le_of_ble_eq_true rfl) ?_
          refine k_M_refusalN (l := l) ok6 (by omega) hm NF RS SX RQ NI NK RD tg ht ?_
          refine w_astore1 d196_80 rfl ?_
          refine w_aload_n d196_81 rfl ?_
          refine w_ifnonnull d196_82 (fun c82 => ?_) (fun c82 => ?_)
          · have nre : rfQ l w ≠ 19 := fun z => c82 ((rfG_no (c := rfQ l w) tg ok6 refN_89).mpr z)
            obtain ⟨g_, vg_, sg_⟩ := tg.al ok6 (rfQ l w) refN_89
            have eg : rfG G (rfQ l w) = some g_ := by unfold rfG; rw [if_neg nre]; exact vg_
            rw [eg]
            refine w_aload_n d196_96 rfl ?_
            refine w_ifnull d196_97 (fun c97 => ?_) (fun c97 => ?_)
            · exact absurd c97 (by simp)
            · refine w_aload_n d196_100 rfl ?_
              refine w_aload_n d196_101 rfl ?_
              refine w_callv2 d196_102 (by omega) rfl (ok6.kd hm) (by simp) (Nat.le_of_ble_eq_true rfl) ?_
              refine k_M_say ok6 (by omega) hm TE sg_ (fun h102 m102 q102 TE => ?_)
              have f102 : Fr S m [1732, 1733] _ _ := Fr.mk ok6 m102 (fun ζ q => q.elim ((fun ζ e => Or.inl e) ζ) ((fun ζ e => Or.inr ⟨1732, by decide, e ▸ U_refl⟩) ζ)) q102 (by decide)
              have ok102 := f102.ok
              have FR102 := Fr.tr (F := [1664, 1665, 1666, 1667, 1668, 1669, 1670, 1671, 1672, 1673, 1674, 1675, 1676, 1677, 1678, 1679, 1680, 1681, 1682, 1683, 1684, 1685, 1686, 1687, 1688, 1689, 1690, 1691, 1692, 1693, 1694, 1695, 1696, 1697, 1698, 1699, 1700, 1701, 1702, 1703, 1704, 1705, 1706, 1707, 1708, 1709, 1710, 1711, 1712, 1713, 1714, 1715, 1716, 1717, 1718, 1719, 1720, 1721, 1722, 1723, 1724, 1725, 1726, 1727, 1730, 1731, 1732, 1733, 1734, 1735, 1736, 1737, 1738, 1739, 1740, 1741, 1742, 1743, 1744, 1745, 1746, 1747, 1748, 1749, 1750, 1751, 1752, 1753, 1754, 1755, 1756, 1757, 1758, 1759, 1760, 1761, 1762, 1763]) FR6 f102 (by decide) trivial
              have NF := DfC.r (f := 1664) f102 hm (by decide) NF
              have RS := RsR.s f102 hm RS
              have SX := SxR.r f102 hm SX
              have RQ := RQ.r f102 hm
              have NI := NI.r f102 hm
              have BR := BR.r f102 hm
              have FO := OmS.r (f := 1669) f102 hm (Or.inr rfl) (by decide) FO
              have NK := (f102.i 1739).trans NK
              refine w_goto d196_105 ?_
              refine w_goto d196_116 ?_
              refine w_return d196_123 ?_
              exact kk _ w b _ _ FR102 NF RS SX BR TE NI RQ ⟨_, FO⟩ (by unfold anM; rw [if_neg (by rw [er]; exact Bool.noConfusion), if_neg nsh, if_neg (by omega), if_neg (by omega), if_neg (by omega), if_neg (fun z => nre z.1), if_neg nre]; exact ⟨rfl, rfl, rfl⟩)
          · have re : rfQ l w = 19 := (rfG_no (c := rfQ l w) tg ok6 refN_89).mp c82
            rw [c82]
            refine w_aload_n d196_85 rfl ?_
            refine w_callv1 d196_86 (by omega) rfl (ok6.kd hm) (by simp) (Nat.le_of_ble_eq_true rfl) ?_
            refine k_M_hasRoom ok6 (by omega) hm RQ NK BR.2.1 ?_
            refine w_ifne d196_89 (fun c89 => ?_) (fun c89 => ?_)
            · have room : (((qrT l : Nat) : Int) = 0 ∨ (l.length ≤ 200 ∧ b.2.1 + l.length + 2 ≤ 2048)) := by
                by_cases z : (((qrT l : Nat) : Int) = 0 ∨ (l.length ≤ 200 ∧ b.2.1 + l.length + 2 ≤ 2048))
                · exact z
                · rw [b2i_decN z] at c89; exact absurd rfl c89
              refine w_aload_n d196_96 rfl ?_
              refine w_ifnull d196_97 (fun c97 => ?_) (fun c97 => ?_)
              · refine w_aload_n d196_108 rfl ?_
                have l2 : l.length ≤ 200 := by rcases room with z | z; exact qr_0 er (by omega); exact z.1
                refine w_callv1 d196_109 (by omega) rfl (ok6.kd hm) (by simp) (Nat.le_of_ble_eq_true rfl) ?_
                refine k_M_write (B := b.1) ok6 (by omega) hm RQ NK BR.2.1 BR.1 BR.2.2.2 l2 (by split; omega; omega) (fun h109 f109 B1 B2 B3 B4 => ?_)
                have ok109 := f109.ok
                have FR109 := Fr.tr (F := [1664, 1665, 1666, 1667, 1668, 1669, 1670, 1671, 1672, 1673, 1674, 1675, 1676, 1677, 1678, 1679, 1680, 1681, 1682, 1683, 1684, 1685, 1686, 1687, 1688, 1689, 1690, 1691, 1692, 1693, 1694, 1695, 1696, 1697, 1698, 1699, 1700, 1701, 1702, 1703, 1704, 1705, 1706, 1707, 1708, 1709, 1710, 1711, 1712, 1713, 1714, 1715, 1716, 1717, 1718, 1719, 1720, 1721, 1722, 1723, 1724, 1725, 1726, 1727, 1730, 1731, 1732, 1733, 1734, 1735, 1736, 1737, 1738, 1739, 1740, 1741, 1742, 1743, 1744, 1745, 1746, 1747, 1748, 1749, 1750, 1751, 1752, 1753, 1754, 1755, 1756, 1757, 1758, 1759, 1760, 1761, 1762, 1763]) FR6 f109 (by decide) trivial
                have NF := DfC.r (f := 1664) f109 hm (by decide) NF
                have RS := RsR.s f109 hm RS
                have SX := SxR.r f109 hm SX
                have RQ := RQ.r f109 hm
                have NI := NI.r f109 hm
                have FO := OmS.r (f := 1669) f109 hm (Or.inr rfl) (by decide) FO
                have TE := TE.r f109 hm
                have NK := (f109.i 1739).trans NK
                have BR : BoR S h109 m (bkW (bk0 true (qrT l) b) l) := by
                  by_cases z : qrT l = 0
                  · rw [if_pos (by omega), if_pos (by omega)] at B1
                    rw [if_pos (by omega)] at B2 B3 B4
                    unfold bk0
                    rw [if_pos ⟨rfl, z⟩]
                    exact ⟨B1, by rw [B2]; show _ = ((0 + l.length + 2 : Nat) : Int); omega, B3, B4⟩
                  · rw [if_neg (by omega), if_neg (by omega)] at B1
                    rw [if_neg (by omega)] at B2 B3 B4
                    unfold bk0
                    rw [if_neg (fun y => z y.2)]
                    exact ⟨B1, by rw [B2]; show _ = ((b.2.1 + l.length + 2 : Nat) : Int); omega, B3, B4⟩
                have RD := RD.r f109 hm
                refine w_aload_n d196_112 rfl ?_
                refine w_callv1 d196_113 (by omega) rfl (ok109.kd hm) (by simp) (Nat.le_of_ble_eq_true rfl) ?_
                refine k_M_tell (l := l) ok109 (by omega) hm NF RS SX TE RQ NK RD tg ht re (qr_arg er) (fun _ => I.gow (by omega) (by have := qrN_9 l 0; omega) SX.rx) (fun t i => by have := I.2.2.2.2 t i; omega) (fun h113 f113 NF RS SX TE => ?_)
                have ok113 := f113.ok
                have FR113 := Fr.tr (F := [1664, 1665, 1666, 1667, 1668, 1669, 1670, 1671, 1672, 1673, 1674, 1675, 1676, 1677, 1678, 1679, 1680, 1681, 1682, 1683, 1684, 1685, 1686, 1687, 1688, 1689, 1690, 1691, 1692, 1693, 1694, 1695, 1696, 1697, 1698, 1699, 1700, 1701, 1702, 1703, 1704, 1705, 1706, 1707, 1708, 1709, 1710, 1711, 1712, 1713, 1714, 1715, 1716, 1717, 1718, 1719, 1720, 1721, 1722, 1723, 1724, 1725, 1726, 1727, 1730, 1731, 1732, 1733, 1734, 1735, 1736, 1737, 1738, 1739, 1740, 1741, 1742, 1743, 1744, 1745, 1746, 1747, 1748, 1749, 1750, 1751, 1752, 1753, 1754, 1755, 1756, 1757, 1758, 1759, 1760, 1761, 1762, 1763]) FR109 f113 (by decide) trivial
                have RQ := RQ.r f113 hm
                have NI := NI.r f113 hm
                have FO := OmS.r (f := 1669) f113 hm (Or.inr rfl) (by decide) FO
                have NK := (f113.i 1739).trans NK
                have BR := BR.r f113 hm
                refine w_goto d196_116 ?_
                refine w_return d196_123 ?_
                exact kk _ _ _ _ _ FR113 NF RS SX BR TE NI RQ ⟨_, FO⟩ (by unfold anM; rw [if_neg (by rw [er]; exact Bool.noConfusion), if_neg nsh, if_neg (by omega), if_neg (by omega), if_neg (by omega), if_pos ⟨re, by omega⟩]; exact ⟨rfl, rfl, rfl⟩)
              · exact absurd rfl c97
            · have nroom : ¬ (((qrT l : Nat) : Int) = 0 ∨ (l.length ≤ 200 ∧ b.2.1 + l.length + 2 ≤ 2048)) := fun z => by rw [b2i_dec z] at c89; exact absurd c89 (by decide)
              obtain ⟨g92, v92, s92⟩ := tg.al ok6 18 (by decide)
              refine w_getstaticS d196_92 v92 ?_
              refine w_astore1 d196_95 rfl ?_
              refine w_aload_n d196_96 rfl ?_
              refine w_ifnull d196_97 (fun c97 => ?_) (fun c97 => ?_)
              · exact absurd c97 (by simp)
              · refine w_aload_n d196_100 rfl ?_
                refine w_aload_n d196_101 rfl ?_
                refine w_callv2 d196_102 (by omega) rfl (ok6.kd hm) (by simp) (Nat.le_of_ble_eq_true rfl) ?_
                refine k_M_say ok6 (by omega) hm TE s92 (fun h102 m102 q102 TE => ?_)
                have f102 : Fr S m [1732, 1733] _ _ := Fr.mk ok6 m102 (fun ζ q => q.elim ((fun ζ e => Or.inl e) ζ) ((fun ζ e => Or.inr ⟨1732, by decide, e ▸ U_refl⟩) ζ)) q102 (by decide)
                have ok102 := f102.ok
                have FR102 := Fr.tr (F := [1664, 1665, 1666, 1667, 1668, 1669, 1670, 1671, 1672, 1673, 1674, 1675, 1676, 1677, 1678, 1679, 1680, 1681, 1682, 1683, 1684, 1685, 1686, 1687, 1688, 1689, 1690, 1691, 1692, 1693, 1694, 1695, 1696, 1697, 1698, 1699, 1700, 1701, 1702, 1703, 1704, 1705, 1706, 1707, 1708, 1709, 1710, 1711, 1712, 1713, 1714, 1715, 1716, 1717, 1718, 1719, 1720, 1721, 1722, 1723, 1724, 1725, 1726, 1727, 1730, 1731, 1732, 1733, 1734, 1735, 1736, 1737, 1738, 1739, 1740, 1741, 1742, 1743, 1744, 1745, 1746, 1747, 1748, 1749, 1750, 1751, 1752, 1753, 1754, 1755, 1756, 1757, 1758, 1759, 1760, 1761, 1762, 1763]) FR6 f102 (by decide) trivial
                have NF := DfC.r (f := 1664) f102 hm (by decide) NF
                have RS := RsR.s f102 hm RS
                have SX := SxR.r f102 hm SX
                have RQ := RQ.r f102 hm
                have NI := NI.r f102 hm
                have BR := BR.r f102 hm
                have FO := OmS.r (f := 1669) f102 hm (Or.inr rfl) (by decide) FO
                have NK := (f102.i 1739).trans NK
                refine w_goto d196_105 ?_
                refine w_goto d196_116 ?_
                refine w_return d196_123 ?_
                exact kk _ w b _ _ FR102 NF RS SX BR TE NI RQ ⟨_, FO⟩ (by unfold anM; rw [if_neg (by rw [er]; exact Bool.noConfusion), if_neg nsh, if_neg (by omega), if_neg (by omega), if_neg (by omega), if_neg (fun z => nroom (by omega)), if_pos re]; exact ⟨rfl, rfl, rfl⟩)
      · refine w_aload_n d196_50 rfl ?_
        refine w_getI (x := ((qrT l : Nat) : Int)) d196_51 (ok6.kd hm) NK ?_
        refine w_ifeq d196_54 (fun c54 => ?_) (fun c54 => ?_)
        · have nsh : ¬ (b.2.2.2 = true ∧ qrT l ≠ 34 ∧ qrT l ≠ 0) := fun z => z.2.2 (by omega)
          refine w_aload_n d196_67 rfl ?_
          refine w_getI (x := ((qrT l : Nat) : Int)) d196_68 (ok6.kd hm) NK ?_
          refine w_bipush d196_71 (by decide) ?_
          refine w_icmpgt d196_73 (fun c73 => ?_) (fun c73 => ?_)
          · have hg : 12 < qrT l := by omega
            refine w_aload_n d196_119 rfl ?_
            refine w_callv1 d196_120 (by omega) rfl (ok6.kd hm) (by simp) (Nat.le_of_ble_eq_true rfl) ?_
            refine k_M_askItN (b := b) (T0 := T0) (fl := fl) ok6 (by omega) hm NF RS SX TE RQ NK NI BR FO RD tg er t35 hg nsh h4 I hk (fun z => AP er (by omega) z) fp fs hR hu2 (fun h120 w1 b1 T1 l1 f120 NF RS SX BR TE NI RQ FO an => ?_)
            have ok120 := f120.ok
            have FR120 := Fr.tr (F := [1664, 1665, 1666, 1667, 1668, 1669, 1670, 1671, 1672, 1673, 1674, 1675, 1676, 1677, 1678, 1679, 1680, 1681, 1682, 1683, 1684, 1685, 1686, 1687, 1688, 1689, 1690, 1691, 1692, 1693, 1694, 1695, 1696, 1697, 1698, 1699, 1700, 1701, 1702, 1703, 1704, 1705, 1706, 1707, 1708, 1709, 1710, 1711, 1712, 1713, 1714, 1715, 1716, 1717, 1718, 1719, 1720, 1721, 1722, 1723, 1724, 1725, 1726, 1727, 1730, 1731, 1732, 1733, 1734, 1735, 1736, 1737, 1738, 1739, 1740, 1741, 1742, 1743, 1744, 1745, 1746, 1747, 1748, 1749, 1750, 1751, 1752, 1753, 1754, 1755, 1756, 1757, 1758, 1759, 1760, 1761, 1762, 1763]) FR6 f120 (fun _ q => q) trivial
            refine w_return d196_123 ?_
            exact kk _ w1 b1 T1 l1 FR120 NF RS SX BR TE NI RQ FO an
          · have ht : qrT l ≤ 12 := by omega
            refine w_aload_n d196_76 rfl ?_
            refine w_callv1 d196_77 (by omega) rfl (ok6.kd hm) (by simp) (Nat.le_of_ble_eq_true rfl) ?_
            refine k_M_refusalN (l := l) ok6 (by omega) hm NF RS SX RQ NI NK RD tg ht ?_
            refine w_astore1 d196_80 rfl ?_
            refine w_aload_n d196_81 rfl ?_
            refine w_ifnonnull d196_82 (fun c82 => ?_) (fun c82 => ?_)
            · have nre : rfQ l w ≠ 19 := fun z => c82 ((rfG_no (c := rfQ l w) tg ok6 refN_89).mpr z)
              obtain ⟨g_, vg_, sg_⟩ := tg.al ok6 (rfQ l w) refN_89
              have eg : rfG G (rfQ l w) = some g_ := by unfold rfG; rw [if_neg nre]; exact vg_
              rw [eg]
              refine w_aload_n d196_96 rfl ?_
              refine w_ifnull d196_97 (fun c97 => ?_) (fun c97 => ?_)
              · exact absurd c97 (by simp)
              · refine w_aload_n d196_100 rfl ?_
                refine w_aload_n d196_101 rfl ?_
                refine w_callv2 d196_102 (by omega) rfl (ok6.kd hm) (by simp) (Nat.le_of_ble_eq_true rfl) ?_
                refine k_M_say ok6 (by omega) hm TE sg_ (fun h102 m102 q102 TE => ?_)
                have f102 : Fr S m [1732, 1733] _ _ := Fr.mk ok6 m102 (fun ζ q => q.elim ((fun ζ e => Or.inl e) ζ) ((fun ζ e => Or.inr ⟨1732, by decide, e ▸ U_refl⟩) ζ)) q102 (by decide)
                have ok102 := f102.ok
                have FR102 := Fr.tr (F := [1664, 1665, 1666, 1667, 1668, 1669, 1670, 1671, 1672, 1673, 1674, 1675, 1676, 1677, 1678, 1679, 1680, 1681, 1682, 1683, 1684, 1685, 1686, 1687, 1688, 1689, 1690, 1691, 1692, 1693, 1694, 1695, 1696, 1697, 1698, 1699, 1700, 1701, 1702, 1703, 1704, 1705, 1706, 1707, 1708, 1709, 1710, 1711, 1712, 1713, 1714, 1715, 1716, 1717, 1718, 1719, 1720, 1721, 1722, 1723, 1724, 1725, 1726, 1727, 1730, 1731, 1732, 1733, 1734, 1735, 1736, 1737, 1738, 1739, 1740, 1741, 1742, 1743, 1744, 1745, 1746, 1747, 1748, 1749, 1750, 1751, 1752, 1753, 1754, 1755, 1756, 1757, 1758, 1759, 1760, 1761, 1762, 1763]) FR6 f102 (by decide) trivial
                have NF := DfC.r (f := 1664) f102 hm (by decide) NF
                have RS := RsR.s f102 hm RS
                have SX := SxR.r f102 hm SX
                have RQ := RQ.r f102 hm
                have NI := NI.r f102 hm
                have BR := BR.r f102 hm
                have FO := OmS.r (f := 1669) f102 hm (Or.inr rfl) (by decide) FO
                have NK := (f102.i 1739).trans NK
                refine w_goto d196_105 ?_
                refine w_goto d196_116 ?_
                refine w_return d196_123 ?_
                exact kk _ w b _ _ FR102 NF RS SX BR TE NI RQ ⟨_, FO⟩ (by unfold anM; rw [if_neg (by rw [er]; exact Bool.noConfusion), if_neg nsh, if_neg (by omega), if_neg (by omega), if_neg (by omega), if_neg (fun z => nre z.1), if_neg nre]; exact ⟨rfl, rfl, rfl⟩)
            · have re : rfQ l w = 19 := (rfG_no (c := rfQ l w) tg ok6 refN_89).mp c82
              rw [c82]
              refine w_aload_n d196_85 rfl ?_
              refine w_callv1 d196_86 (by omega) rfl (ok6.kd hm) (by simp) (Nat.le_of_ble_eq_true rfl) ?_
              refine k_M_hasRoom ok6 (by omega) hm RQ NK BR.2.1 ?_
              refine w_ifne d196_89 (fun c89 => ?_) (fun c89 => ?_)
              · have room : (((qrT l : Nat) : Int) = 0 ∨ (l.length ≤ 200 ∧ b.2.1 + l.length + 2 ≤ 2048)) := by
                  by_cases z : (((qrT l : Nat) : Int) = 0 ∨ (l.length ≤ 200 ∧ b.2.1 + l.length + 2 ≤ 2048))
                  · exact z
                  · rw [b2i_decN z] at c89; exact absurd rfl c89
                refine w_aload_n d196_96 rfl ?_
                refine w_ifnull d196_97 (fun c97 => ?_) (fun c97 => ?_)
                · refine w_aload_n d196_108 rfl ?_
                  have l2 : l.length ≤ 200 := by rcases room with z | z; exact qr_0 er (by omega); exact z.1
                  refine w_callv1 d196_109 (by omega) rfl (ok6.kd hm) (by simp) (Nat.le_of_ble_eq_true rfl) ?_
                  refine k_M_write (B := b.1) ok6 (by omega) hm RQ NK BR.2.1 BR.1 BR.2.2.2 l2 (by split; omega; omega) (fun h109 f109 B1 B2 B3 B4 => ?_)
                  have ok109 := f109.ok
                  have FR109 := Fr.tr (F := [1664, 1665, 1666, 1667, 1668, 1669, 1670, 1671, 1672, 1673, 1674, 1675, 1676, 1677, 1678, 1679, 1680, 1681, 1682, 1683, 1684, 1685, 1686, 1687, 1688, 1689, 1690, 1691, 1692, 1693, 1694, 1695, 1696, 1697, 1698, 1699, 1700, 1701, 1702, 1703, 1704, 1705, 1706, 1707, 1708, 1709, 1710, 1711, 1712, 1713, 1714, 1715, 1716, 1717, 1718, 1719, 1720, 1721, 1722, 1723, 1724, 1725, 1726, 1727, 1730, 1731, 1732, 1733, 1734, 1735, 1736, 1737, 1738, 1739, 1740, 1741, 1742, 1743, 1744, 1745, 1746, 1747, 1748, 1749, 1750, 1751, 1752, 1753, 1754, 1755, 1756, 1757, 1758, 1759, 1760, 1761, 1762, 1763]) FR6 f109 (by decide) trivial
                  have NF := DfC.r (f := 1664) f109 hm (by decide) NF
                  have RS := RsR.s f109 hm RS
                  have SX := SxR.r f109 hm SX
                  have RQ := RQ.r f109 hm
                  have NI := NI.r f109 hm
                  have FO := OmS.r (f := 1669) f109 hm (Or.inr rfl) (by decide) FO
                  have TE := TE.r f109 hm
                  have NK := (f109.i 1739).trans NK
                  have BR : BoR S h109 m (bkW (bk0 true (qrT l) b) l) := by
                    by_cases z : qrT l = 0
                    · rw [if_pos (by omega), if_pos (by omega)] at B1
                      rw [if_pos (by omega)] at B2 B3 B4
                      unfold bk0
                      rw [if_pos ⟨rfl, z⟩]
                      exact ⟨B1, by rw [B2]; show _ = ((0 + l.length + 2 : Nat) : Int); omega, B3, B4⟩
                    · rw [if_neg (by omega), if_neg (by omega)] at B1
                      rw [if_neg (by omega)] at B2 B3 B4
                      unfold bk0
                      rw [if_neg (fun y => z y.2)]
                      exact ⟨B1, by rw [B2]; show _ = ((b.2.1 + l.length + 2 : Nat) : Int); omega, B3, B4⟩
                  have RD := RD.r f109 hm
                  refine w_aload_n d196_112 rfl ?_
                  refine w_callv1 d196_113 (by omega) rfl (ok109.kd hm) (by simp) (Nat.le_of_ble_eq_true rfl) ?_
                  refine k_M_tell (l := l) ok109 (by omega) hm NF RS SX TE RQ NK RD tg ht re (qr_arg er) (fun _ => I.gow (by omega) (by have := qrN_9 l 0; omega) SX.rx) (fun t i => by have := I.2.2.2.2 t i; omega) (fun h113 f113 NF RS SX TE => ?_)
                  have ok113 := f113.ok
                  have FR113 := Fr.tr (F := [1664, 1665, 1666, 1667, 1668, 1669, 1670, 1671, 1672, 1673, 1674, 1675, 1676, 1677, 1678, 1679, 1680, 1681, 1682, 1683, 1684, 1685, 1686, 1687, 1688, 1689, 1690, 1691, 1692, 1693, 1694, 1695, 1696, 1697, 1698, 1699, 1700, 1701, 1702, 1703, 1704, 1705, 1706, 1707, 1708, 1709, 1710, 1711, 1712, 1713, 1714, 1715, 1716, 1717, 1718, 1719, 1720, 1721, 1722, 1723, 1724, 1725, 1726, 1727, 1730, 1731, 1732, 1733, 1734, 1735, 1736, 1737, 1738, 1739, 1740, 1741, 1742, 1743, 1744, 1745, 1746, 1747, 1748, 1749, 1750, 1751, 1752, 1753, 1754, 1755, 1756, 1757, 1758, 1759, 1760, 1761, 1762, 1763]) FR109 f113 (by decide) trivial
                  have RQ := RQ.r f113 hm
                  have NI := NI.r f113 hm
                  have FO := OmS.r (f := 1669) f113 hm (Or.inr rfl) (by decide) FO
                  have NK := (f113.i 1739).trans NK
                  have BR := BR.r f113 hm
                  refine w_goto d196_116 ?_
                  refine w_return d196_123 ?_
                  exact kk _ _ _ _ _ FR113 NF RS SX BR TE NI RQ ⟨_, FO⟩ (by unfold anM; rw [if_neg (by rw [er]; exact Bool.noConfusion), if_neg nsh, if_neg (by omega), if_neg (by omega), if_neg (by omega), if_pos ⟨re, by omega⟩]; exact ⟨rfl, rfl, rfl⟩)
                · exact absurd rfl c97
              · have nroom : ¬ (((qrT l : Nat) : Int) = 0 ∨ (l.length ≤ 200 ∧ b.2.1 + l.length + 2 ≤ 2048)) := fun z => by rw [b2i_dec z] at c89; exact absurd c89 (by decide)
                obtain ⟨g92, v92, s92⟩ := tg.al ok6 18 (by decide)
                refine w_getstaticS d196_92 v92 ?_
                refine w_astore1 d196_95 rfl ?_
                refine w_aload_n d196_96 rfl ?_
                refine w_ifnull d196_97 (fun c97 => ?_) (fun c97 => ?_)
                · exact absurd c97 (by simp)
                · refine w_aload_n d196_100 rfl ?_
                  refine w_aload_n d196_101 rfl ?_
                  refine w_callv2 d196_102 (by omega) rfl (ok6.kd hm) (by simp) (Nat.le_of_ble_eq_true rfl) ?_
                  refine k_M_say ok6 (by omega) hm TE s92 (fun h102 m102 q102 TE => ?_)
                  have f102 : Fr S m [1732, 1733] _ _ := Fr.mk ok6 m102 (fun ζ q => q.elim ((fun ζ e => Or.inl e) ζ) ((fun ζ e => Or.inr ⟨1732, by decide, e ▸ U_refl⟩) ζ)) q102 (by decide)
                  have ok102 := f102.ok
                  have FR102 := Fr.tr (F := [1664, 1665, 1666, 1667, 1668, 1669, 1670, 1671, 1672, 1673, 1674, 1675, 1676, 1677, 1678, 1679, 1680, 1681, 1682, 1683, 1684, 1685, 1686, 1687, 1688, 1689, 1690, 1691, 1692, 1693, 1694, 1695, 1696, 1697, 1698, 1699, 1700, 1701, 1702, 1703, 1704, 1705, 1706, 1707, 1708, 1709, 1710, 1711, 1712, 1713, 1714, 1715, 1716, 1717, 1718, 1719, 1720, 1721, 1722, 1723, 1724, 1725, 1726, 1727, 1730, 1731, 1732, 1733, 1734, 1735, 1736, 1737, 1738, 1739, 1740, 1741, 1742, 1743, 1744, 1745, 1746, 1747, 1748, 1749, 1750, 1751, 1752, 1753, 1754, 1755, 1756, 1757, 1758, 1759, 1760, 1761, 1762, 1763]) FR6 f102 (by decide) trivial
                  have NF := DfC.r (f := 1664) f102 hm (by decide) NF
                  have RS := RsR.s f102 hm RS
                  have SX := SxR.r f102 hm SX
                  have RQ := RQ.r f102 hm
                  have NI := NI.r f102 hm
                  have BR := BR.r f102 hm
                  have FO := OmS.r (f := 1669) f102 hm (Or.inr rfl) (by decide) FO
                  have NK := (f102.i 1739).trans NK
                  refine w_goto d196_105 ?_
                  refine w_goto d196_116 ?_
                  refine w_return d196_123 ?_
                  exact kk _ w b _ _ FR102 NF RS SX BR TE NI RQ ⟨_, FO⟩ (by unfold anM; rw [if_neg (by rw [er]; exact Bool.noConfusion), if_neg nsh, if_neg (by omega), if_neg (by omega), if_neg (by omega), if_neg (fun z => nroom (by omega)), if_pos re]; exact ⟨rfl, rfl, rfl⟩)
        · refine w_aload_n d196_57 rfl ?_
          obtain ⟨g58, v58, s58⟩ := tg.al ok6 37 (by decide)
          refine w_getstaticS d196_58 v58 ?_
          refine w_callv2 d196_61 (by omega) rfl (ok6.kd hm) (by simp) (Nat.le_of_ble_eq_true rfl) ?_
          refine k_M_say ok6 (by omega) hm TE s58 (fun h61 m61 q61 TE => ?_)
          have f61 : Fr S m [1732, 1733] _ _ := Fr.mk ok6 m61 (fun ζ q => q.elim ((fun ζ e => Or.inl e) ζ) ((fun ζ e => Or.inr ⟨1732, by decide, e ▸ U_refl⟩) ζ)) q61 (by decide)
          have ok61 := f61.ok
          have FR61 := Fr.tr (F := [1664, 1665, 1666, 1667, 1668, 1669, 1670, 1671, 1672, 1673, 1674, 1675, 1676, 1677, 1678, 1679, 1680, 1681, 1682, 1683, 1684, 1685, 1686, 1687, 1688, 1689, 1690, 1691, 1692, 1693, 1694, 1695, 1696, 1697, 1698, 1699, 1700, 1701, 1702, 1703, 1704, 1705, 1706, 1707, 1708, 1709, 1710, 1711, 1712, 1713, 1714, 1715, 1716, 1717, 1718, 1719, 1720, 1721, 1722, 1723, 1724, 1725, 1726, 1727, 1730, 1731, 1732, 1733, 1734, 1735, 1736, 1737, 1738, 1739, 1740, 1741, 1742, 1743, 1744, 1745, 1746, 1747, 1748, 1749, 1750, 1751, 1752, 1753, 1754, 1755, 1756, 1757, 1758, 1759, 1760, 1761, 1762, 1763]) FR6 f61 (by decide) trivial
          have NF := DfC.r (f := 1664) f61 hm (by decide) NF
          have RS := RsR.s f61 hm RS
          have SX := SxR.r f61 hm SX
          have RQ := RQ.r f61 hm
          have NI := NI.r f61 hm
          have BR := BR.r f61 hm
          have FO := OmS.r (f := 1669) f61 hm (Or.inr rfl) (by decide) FO
          have NK := (f61.i 1739).trans NK
          refine w_goto d196_64 ?_
          refine w_return d196_123 ?_
          exact kk _ w b _ _ FR61 NF RS SX BR TE NI RQ ⟨_, FO⟩ (by unfold anM; rw [if_neg (by rw [er]; exact Bool.noConfusion), if_pos ⟨sht, by omega, by omega⟩]; exact ⟨rfl, rfl, rfl⟩)
  · have er : qrR l = false := by cases z : qrR l with | false => rfl | true => (have := (R1 z).1; omega)
    have C38 := R0 er
    have ql := qrE_le (l := l)
    refine w_aload_n d196_16 rfl ?_
    obtain ⟨g17, v17, s17⟩ := tg.al ok6 27 (by decide)
    refine w_getstaticS d196_17 v17 ?_
    refine w_callv2 d196_20 (by omega) rfl (ok6.kd hm) (by simp) (Nat.le_of_ble_eq_true rfl) ?_
    refine k_M_say ok6 (by omega) hm TE s17 (fun h20 m20 q20 TE => ?_)
    have f20 : Fr S m [1732, 1733] _ _ := Fr.mk ok6 m20 (fun ζ q => q.elim ((fun ζ e => Or.inl e) ζ) ((fun ζ e => Or.inr ⟨1732, by decide, e ▸ U_refl⟩) ζ)) q20 (by decide)
    have ok20 := f20.ok
    have FR20 := Fr.tr (F := [1664, 1665, 1666, 1667, 1668, 1669, 1670, 1671, 1672, 1673, 1674, 1675, 1676, 1677, 1678, 1679, 1680, 1681, 1682, 1683, 1684, 1685, 1686, 1687, 1688, 1689, 1690, 1691, 1692, 1693, 1694, 1695, 1696, 1697, 1698, 1699, 1700, 1701, 1702, 1703, 1704, 1705, 1706, 1707, 1708, 1709, 1710, 1711, 1712, 1713, 1714, 1715, 1716, 1717, 1718, 1719, 1720, 1721, 1722, 1723, 1724, 1725, 1726, 1727, 1730, 1731, 1732, 1733, 1734, 1735, 1736, 1737, 1738, 1739, 1740, 1741, 1742, 1743, 1744, 1745, 1746, 1747, 1748, 1749, 1750, 1751, 1752, 1753, 1754, 1755, 1756, 1757, 1758, 1759, 1760, 1761, 1762, 1763]) FR6 f20 (by decide) trivial
    have NF := DfC.r (f := 1664) f20 hm (by decide) NF
    have RS := RsR.s f20 hm RS
    have SX := SxR.r f20 hm SX
    have RQ := RQ.r f20 hm
    have NI := NI.r f20 hm
    have BR := BR.r f20 hm
    have FO := OmS.r (f := 1669) f20 hm (Or.inr rfl) (by decide) FO
    have C38 := (f20.i 1738).trans C38
    refine w_aload_n d196_23 rfl ?_
    refine w_aload_n d196_24 rfl ?_
    refine w_getI (x := ((qrE l : Nat) : Int)) d196_25 (ok20.kd hm) C38 ?_
    refine w_callv2 d196_28 (by omega) rfl (ok20.kd hm) (by simp) (Nat.le_of_ble_eq_true rfl) ?_
    refine k_M_number (n := 9) ok20 (by omega) hm (by omega) TE (by omega) (by decide) (fun h28 m28 q28 TE => ?_)
    have f28 : Fr S m [1732, 1733] _ _ := Fr.mk ok20 m28 (fun ζ q => q.elim ((fun ζ e => Or.inl e) ζ) ((fun ζ e => Or.inr ⟨1732, by decide, e ▸ U_refl⟩) ζ)) q28 (by decide)
    have ok28 := f28.ok
    have FR28 := Fr.tr (F := [1664, 1665, 1666, 1667, 1668, 1669, 1670, 1671, 1672, 1673, 1674, 1675, 1676, 1677, 1678, 1679, 1680, 1681, 1682, 1683, 1684, 1685, 1686, 1687, 1688, 1689, 1690, 1691, 1692, 1693, 1694, 1695, 1696, 1697, 1698, 1699, 1700, 1701, 1702, 1703, 1704, 1705, 1706, 1707, 1708, 1709, 1710, 1711, 1712, 1713, 1714, 1715, 1716, 1717, 1718, 1719, 1720, 1721, 1722, 1723, 1724, 1725, 1726, 1727, 1730, 1731, 1732, 1733, 1734, 1735, 1736, 1737, 1738, 1739, 1740, 1741, 1742, 1743, 1744, 1745, 1746, 1747, 1748, 1749, 1750, 1751, 1752, 1753, 1754, 1755, 1756, 1757, 1758, 1759, 1760, 1761, 1762, 1763]) FR20 f28 (by decide) trivial
    have NF := DfC.r (f := 1664) f28 hm (by decide) NF
    have RS := RsR.s f28 hm RS
    have SX := SxR.r f28 hm SX
    have RQ := RQ.r f28 hm
    have NI := NI.r f28 hm
    have BR := BR.r f28 hm
    have FO := OmS.r (f := 1669) f28 hm (Or.inr rfl) (by decide) FO
    have C38 := (f28.i 1738).trans C38
    refine w_goto d196_31 ?_
    refine w_return d196_123 ?_
    rw [← addBs_app] at TE
    exact kk _ w b _ _ FR28 NF RS SX BR TE NI RQ ⟨_, FO⟩ (by unfold anM; rw [if_pos er]; exact ⟨rfl, rfl, rfl⟩)
