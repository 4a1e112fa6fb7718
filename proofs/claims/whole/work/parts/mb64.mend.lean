/-! the reference: its book is done again -/
noncomputable def mdM (B : Nat → Nat) : Nat → HoS → Nat → Nat → HoS × Nat × Nat
  | 0, w, a, n => (w, a, n)
  | f + 1, w, a, n => @ite _ (mdC B a w) (Classical.propDecidable _) (mdM B f (caM (qrT (recL B a)) (qrA (recL B a) (qrN (recL B a))) w).1 (a + ((recL B a).length + 2)) (n + 1)) (w, a, n)
theorem mdM_no {f a n : Nat} {B : Nat → Nat} {w : HoS} (h : ¬ mdC B a w) : mdM B f w a n = (w, a, n) := by
  cases f with
  | zero => rfl
  | succ f => rw [mdM, if_neg h]
theorem mdM_go {f a n : Nat} {B : Nat → Nat} {w : HoS} (hf : 0 < f) (h : mdC B a w) : mdM B f w a n = mdM B (f - 1) (caM (qrT (recL B a)) (qrA (recL B a) (qrN (recL B a))) w).1 (a + ((recL B a).length + 2)) (n + 1) := by
  obtain ⟨f, rfl⟩ : ∃ k, f = k + 1 := ⟨f - 1, by omega⟩
  rw [mdM, if_pos h]
  rfl
/-- the book -/
def BoR (S : Shp) (h : Hp) (m : Nat) (b : BkV) : Prop := ArI S h m 1734 (fun j => ((b.1 j : Nat) : Int)) 2048 ∧ FI h 1735 m = ((b.2.1 : Nat) : Int) ∧ FI h 1737 m = b.2.2.1 ∧ FI h 1736 m = b2i b.2.2.2
theorem BoR.r {S : Shp} {h h' : Hp} {m : Nat} {b : BkV} {F : List Nat} (fr : Fr S m F h h') (hm : sK S m = 14) (D : BoR S h m b) (h1 : (∀ f ∈ [1734, 1735, 1736, 1737], f ∉ F) ∧ ltF4 F := by decide) : BoR S h' m b :=
  ⟨D.1.r fr hm ⟨h1.1 _ (by decide), h1.2, by decide⟩, (fr.i 1735 (h1.1 _ (by decide))).trans D.2.1, (fr.i 1737 (h1.1 _ (by decide))).trans D.2.2.1, (fr.i 1736 (h1.1 _ (by decide))).trans D.2.2.2⟩
theorem k_M_againB {S : Shp} {G : Nat → Option Nat} {d : Nat} {h : Hp} {Q : Option MV → Hp → Prop} {m a : Nat} {w : HoS} {la l0 : List Nat} {B : Nat → Nat} {k : Nat} (ok : Ok S h) (h1 : 19 ≤ d) (hm : sK S m = 14) (NF : DfC S h (sT S 1664 m) w.1) (RS : RsR S h m w.2.1) (SX : SxR S h m w.2.2) (TE : TeR S h m la) (BO : ArI S h m 1734 (fun j => ((B j : Nat) : Int)) 2048) (NI : NmI h m) (RQ : RqR S h m l0) (tg : Tg S G) (I : wInv k w) (hk : k ≤ 60000) (ha : a < 2048)
    (kk : ∀ h' la' l' (b : Bool) (w' : HoS), Fr S m [1664, 1665, 1666, 1667, 1668, 1670, 1671, 1672, 1673, 1674, 1675, 1676, 1677, 1678, 1679, 1680, 1681, 1682, 1683, 1684, 1685, 1686, 1687, 1688, 1689, 1690, 1691, 1692, 1693, 1694, 1695, 1696, 1697, 1698, 1699, 1700, 1701, 1702, 1703, 1704, 1705, 1706, 1707, 1708, 1709, 1710, 1711, 1712, 1713, 1714, 1715, 1716, 1717, 1718, 1719, 1720, 1721, 1722, 1723, 1724, 1725, 1730, 1731, 1732, 1733, 1738, 1739, 1740, 1741, 1742, 1743, 1744, 1745, 1746, 1747, 1748, 1749, 1750, 1751, 1752, 1753, 1754, 1755, 1756, 1757, 1758, 1759, 1760, 1761] h h' → DfC S h' (sT S 1664 m) w'.1 → RsR S h' m w'.2.1 → SxR S h' m w'.2.2 → TeR S h' m la' → NmI h' m → RqR S h' m l' → (b = true → mdC B a w ∧ w' = (caM (qrT (recL B a)) (qrA (recL B a) (qrN (recL B a))) w).1) → (b = false → ¬ mdC B a w ∧ w' = w) → Q (some (vI (b2i b))) h') : Cl G d 333 [vR (some m), vI (a : Nat)] h Q :=
  k_M_isDoneAgain ok h1 hm NF RS SX TE BO NI RQ tg I hk ha (fun h' la' l' fr a1 a2 a3 a4 a5 a6 nm => kk h' la' l' false w fr a1 a2 a3 a4 a5 a6 (fun z => absurd z (by decide)) (fun _ => ⟨nm, rfl⟩))
    (fun h' la' l' fr a1 a2 a3 a4 a5 a6 nm => kk h' la' l' true _ fr a1 a2 a3 a4 a5 a6 (fun _ => ⟨nm, rfl⟩) (fun z => absurd z (by decide)))
theorem d332_0 : dc 332 0 = some (.aload_n 0, 1) := by decide +kernel
theorem d332_1 : dc 332 1 = some (.invokevirtual 192, 4) := by decide +kernel
theorem d332_4 : dc 332 4 = some (.iconst 0, 5) := by decide +kernel
theorem d332_5 : dc 332 5 = some (.istore_n 1, 6) := by decide +kernel
theorem d332_6 : dc 332 6 = some (.iconst 0, 7) := by decide +kernel
theorem d332_7 : dc 332 7 = some (.istore_n 2, 8) := by decide +kernel
theorem d332_8 : dc 332 8 = some (.iload_n 1, 9) := by decide +kernel
theorem d332_9 : dc 332 9 = some (.sipush 2048, 12) := by decide +kernel
theorem d332_12 : dc 332 12 = some (.if_icmp .ge ((40 : Nat) : Int), 15) := by decide +kernel
theorem d332_15 : dc 332 15 = some (.aload_n 0, 16) := by decide +kernel
theorem d332_16 : dc 332 16 = some (.iload_n 1, 17) := by decide +kernel
theorem d332_17 : dc 332 17 = some (.invokevirtual 333, 20) := by decide +kernel
theorem d332_20 : dc 332 20 = some (.ifCond .eq ((40 : Nat) : Int), 23) := by decide +kernel
theorem d332_23 : dc 332 23 = some (.iload_n 1, 24) := by decide +kernel
theorem d332_24 : dc 332 24 = some (.aload_n 0, 25) := by decide +kernel
theorem d332_25 : dc 332 25 = some (.dload 1734, 28) := by decide +kernel
theorem d332_28 : dc 332 28 = some (.iload_n 1, 29) := by decide +kernel
theorem d332_29 : dc 332 29 = some (.iaload, 30) := by decide +kernel
theorem d332_30 : dc 332 30 = some (.iconst 2, 31) := by decide +kernel
theorem d332_31 : dc 332 31 = some (.iadd, 32) := by decide +kernel
theorem d332_32 : dc 332 32 = some (.iadd, 33) := by decide +kernel
theorem d332_33 : dc 332 33 = some (.istore_n 1, 34) := by decide +kernel
theorem d332_34 : dc 332 34 = some (.iinc 2 1, 37) := by decide +kernel
theorem d332_37 : dc 332 37 = some (.goto ((8 : Nat) : Int), 40) := by decide +kernel
theorem d332_40 : dc 332 40 = some (.aload_n 0, 41) := by decide +kernel
theorem d332_41 : dc 332 41 = some (.iload_n 1, 42) := by decide +kernel
theorem d332_42 : dc 332 42 = some (.invokevirtual 235, 45) := by decide +kernel
theorem d332_45 : dc 332 45 = some (.aload_n 0, 46) := by decide +kernel
theorem d332_46 : dc 332 46 = some (.iload_n 1, 47) := by decide +kernel
theorem d332_47 : dc 332 47 = some (.putfield 1735, 50) := by decide +kernel
theorem d332_50 : dc 332 50 = some (.aload_n 0, 51) := by decide +kernel
theorem d332_51 : dc 332 51 = some (.iconst (-1), 52) := by decide +kernel
theorem d332_52 : dc 332 52 = some (.putfield 1737, 55) := by decide +kernel
theorem d332_55 : dc 332 55 = some (.aload_n 0, 56) := by decide +kernel
theorem d332_56 : dc 332 56 = some (.iconst 0, 57) := by decide +kernel
theorem d332_57 : dc 332 57 = some (.putstatic 1736, 60) := by decide +kernel
theorem d332_60 : dc 332 60 = some (.aload_n 0, 61) := by decide +kernel
theorem d332_61 : dc 332 61 = some (.iconst 0, 62) := by decide +kernel
theorem d332_62 : dc 332 62 = some (.putfield 1733, 65) := by decide +kernel
theorem d332_65 : dc 332 65 = some (.aload_n 0, 66) := by decide +kernel
theorem d332_66 : dc 332 66 = some (.iload_n 2, 67) := by decide +kernel
theorem d332_67 : dc 332 67 = some (.invokevirtual 219, 70) := by decide +kernel
theorem d332_70 : dc 332 70 = some (.return_, 71) := by decide +kernel
theorem k_M_mend {S : Shp} {G : Nat → Option Nat} {d : Nat} {h : Hp} {Q : Option MV → Hp → Prop} {m : Nat} {w : HoS} {la l0 : List Nat} {B : Nat → Nat} {k : Nat} (ok : Ok S h) (h1 : 20 ≤ d) (hm : sK S m = 14) (NF : DfC S h (sT S 1664 m) w.1) (RS : RsR S h m w.2.1) (SX : SxR S h m w.2.2) (TE : TeR S h m la) (BO : ArI S h m 1734 (fun j => ((B j : Nat) : Int)) 2048) (NI : NmI h m) (RQ : RqR S h m l0) (tg : Tg S G) (I : wInv k w) (hk : k ≤ 50000)
    (kk : ∀ h' l', Fr S m [1664, 1665, 1666, 1667, 1668, 1670, 1671, 1672, 1673, 1674, 1675, 1676, 1677, 1678, 1679, 1680, 1681, 1682, 1683, 1684, 1685, 1686, 1687, 1688, 1689, 1690, 1691, 1692, 1693, 1694, 1695, 1696, 1697, 1698, 1699, 1700, 1701, 1702, 1703, 1704, 1705, 1706, 1707, 1708, 1709, 1710, 1711, 1712, 1713, 1714, 1715, 1716, 1717, 1718, 1719, 1720, 1721, 1722, 1723, 1724, 1725, 1730, 1731, 1732, 1733, 1734, 1735, 1736, 1737, 1738, 1739, 1740, 1741, 1742, 1743, 1744, 1745, 1746, 1747, 1748, 1749, 1750, 1751, 1752, 1753, 1754, 1755, 1756, 1757, 1758, 1759, 1760, 1761] h h' → DfC S h' (sT S 1664 m) (mdM B 2048 ((([], [], []), [], (w.2.2.1, (seNo w.2.2).2)) : HoS) 0 0).1.1 → RsR S h' m (mdM B 2048 ((([], [], []), [], (w.2.2.1, (seNo w.2.2).2)) : HoS) 0 0).1.2.1 → SxR S h' m (mdM B 2048 ((([], [], []), [], (w.2.2.1, (seNo w.2.2).2)) : HoS) 0 0).1.2.2 → TeR S h' m (addBs 20000 [] (dec (mdM B 2048 ((([], [], []), [], (w.2.2.1, (seNo w.2.2).2)) : HoS) 0 0).2.2)) → NmI h' m → RqR S h' m l' → BoR S h' m (clB B (mdM B 2048 ((([], [], []), [], (w.2.2.1, (seNo w.2.2).2)) : HoS) 0 0).2.1 2048, (mdM B 2048 ((([], [], []), [], (w.2.2.1, (seNo w.2.2).2)) : HoS) 0 0).2.1, -1, false) → Q none h') : Cl G d 332 [vR (some m)] h Q := by
  show Wp G d 332 0 [some (vR (some m)), none, none] [] h Q
  have NF_0 := NF
  have RS_0 := RS
  have SX_0 := SX
  have TE_0 := TE
  have BO_0 := BO
  have NI_0 := NI
  have RQ_0 := RQ
  refine w_aload_n d332_0 rfl ?_
  refine w_callv1 d332_1 (by omega) rfl (ok.kd hm) (by simp) (Nat.le_of_ble_eq_true rfl) ?_
  refine k_M_clearN ok (by omega) hm SX (fun h1 f1 NF SX RS => ?_)
  have ok1 := f1.ok
  have FR1 := Fr.le (F := [1664, 1665, 1666, 1667, 1668, 1670, 1671, 1672, 1673, 1674, 1675, 1676, 1677, 1678, 1679, 1680, 1681, 1682, 1683, 1684, 1685, 1686, 1687, 1688, 1689, 1690, 1691, 1692, 1693, 1694, 1695, 1696, 1697, 1698, 1699, 1700, 1701, 1702, 1703, 1704, 1705, 1706, 1707, 1708, 1709, 1710, 1711, 1712, 1713, 1714, 1715, 1716, 1717, 1718, 1719, 1720, 1721, 1722, 1723, 1724, 1725, 1730, 1731, 1732, 1733, 1734, 1735, 1736, 1737, 1738, 1739, 1740, 1741, 1742, 1743, 1744, 1745, 1746, 1747, 1748, 1749, 1750, 1751, 1752, 1753, 1754, 1755, 1756, 1757, 1758, 1759, 1760, 1761]) f1 (by decide)
  have TE := TE.r f1 hm
  have BO := BO.r f1 hm
  have NI := NI.r f1 hm
  have RQ := RQ.r f1 hm
  have I0 : wInv (k + 1) ((([], [], []), [], (w.2.2.1, (seNo w.2.2).2)) : HoS) := by
    have z := I.ca (t := 0) (a := ([], [], ([], [], [], [], [], 0), fun _ => 0)) (fun y => absurd y (by decide)) (fun y => absurd y (by decide)) (fun y => absurd y (by decide)) (fun y => absurd y (by decide))
    unfold caM at z
    rw [if_pos rfl] at z
    exact z
  refine w_iconst d332_4 (by decide) ?_
  refine w_istore1 d332_5 rfl ?_
  refine w_iconst d332_6 (by decide) ?_
  refine w_istore2 d332_7 rfl ?_
  have L8 : ∀ (m8 : Nat) (g : Hp) (wi : HoS) (a n : Nat) (li lj : List Nat), 2049 - a = m8 → Fr S m [1664, 1665, 1666, 1667, 1668, 1670, 1671, 1672, 1673, 1674, 1675, 1676, 1677, 1678, 1679, 1680, 1681, 1682, 1683, 1684, 1685, 1686, 1687, 1688, 1689, 1690, 1691, 1692, 1693, 1694, 1695, 1696, 1697, 1698, 1699, 1700, 1701, 1702, 1703, 1704, 1705, 1706, 1707, 1708, 1709, 1710, 1711, 1712, 1713, 1714, 1715, 1716, 1717, 1718, 1719, 1720, 1721, 1722, 1723, 1724, 1725, 1730, 1731, 1732, 1733, 1734, 1735, 1736, 1737, 1738, 1739, 1740, 1741, 1742, 1743, 1744, 1745, 1746, 1747, 1748, 1749, 1750, 1751, 1752, 1753, 1754, 1755, 1756, 1757, 1758, 1759, 1760, 1761] h g → (DfC S g (sT S 1664 m) wi.1) → (RsR S g m wi.2.1) → (SxR S g m wi.2.2) → (TeR S g m li) → (NmI g m) → (RqR S g m lj) → (ArI S g m 1734 (fun j => ((B j : Nat) : Int)) 2048) → (a ≤ 2048 ∧ 3 * n ≤ a) → (mdM B 2048 ((([], [], []), [], (w.2.2.1, (seNo w.2.2).2)) : HoS) 0 0 = mdM B (2048 - n) wi a n) → (wInv (k + 1 + n) wi) → Wp G d 332 8 [some (vR (some m)), some (vI (a : Nat)), some (vI (n : Nat))] [] g Q := by
    intro m8
    induction m8 using Nat.strongRecOn with | ind m8 IH8 => ?_
    intro g wi a n li lj hm8 FRg NF RS SX TE NI RQ BO al eM Iw
    have okg := FRg.ok
    refine w_iload_n d332_8 rfl ?_
    refine w_sipush d332_9 (by decide) ?_
    have L40 : ∀ (m40 : Nat) (g2 : Hp) (w2 : HoS) (a2 n2 : Nat) (li2 lj2 : List Nat), 0 = m40 → Fr S m [1664, 1665, 1666, 1667, 1668, 1670, 1671, 1672, 1673, 1674, 1675, 1676, 1677, 1678, 1679, 1680, 1681, 1682, 1683, 1684, 1685, 1686, 1687, 1688, 1689, 1690, 1691, 1692, 1693, 1694, 1695, 1696, 1697, 1698, 1699, 1700, 1701, 1702, 1703, 1704, 1705, 1706, 1707, 1708, 1709, 1710, 1711, 1712, 1713, 1714, 1715, 1716, 1717, 1718, 1719, 1720, 1721, 1722, 1723, 1724, 1725, 1730, 1731, 1732, 1733, 1734, 1735, 1736, 1737, 1738, 1739, 1740, 1741, 1742, 1743, 1744, 1745, 1746, 1747, 1748, 1749, 1750, 1751, 1752, 1753, 1754, 1755, 1756, 1757, 1758, 1759, 1760, 1761] h g2 → (DfC S g2 (sT S 1664 m) w2.1) → (RsR S g2 m w2.2.1) → (SxR S g2 m w2.2.2) → (TeR S g2 m li2) → (NmI g2 m) → (RqR S g2 m lj2) → (ArI S g2 m 1734 (fun j => ((B j : Nat) : Int)) 2048) → (a2 ≤ 2048 ∧ 3 * n2 ≤ a2) → (mdM B 2048 ((([], [], []), [], (w.2.2.1, (seNo w.2.2).2)) : HoS) 0 0 = (w2, a2, n2)) → Wp G d 332 40 [some (vR (some m)), some (vI (a2 : Nat)), some (vI (n2 : Nat))] [] g2 Q := by
      intro m40
      induction m40 using Nat.strongRecOn with | ind m40 IH40 => ?_
      intro g2 w2 a2 n2 li2 lj2 hm40 FRg2 NF RS SX TE NI RQ BO al2 E2
      have okg2 := FRg2.ok
      refine w_aload_n d332_40 rfl ?_
      refine w_iload_n d332_41 rfl ?_
      refine w_callv2 d332_42 (by omega) rfl (okg2.kd hm) (by simp) (Nat.le_of_ble_eq_true rfl) ?_
      refine k_M_clearFrom (f := a2) okg2 (by omega) hm BO (by omega) (fun h42 f42 BO => ?_)
      have ok42 := f42.ok
      have FR42 := Fr.tr (F := [1664, 1665, 1666, 1667, 1668, 1670, 1671, 1672, 1673, 1674, 1675, 1676, 1677, 1678, 1679, 1680, 1681, 1682, 1683, 1684, 1685, 1686, 1687, 1688, 1689, 1690, 1691, 1692, 1693, 1694, 1695, 1696, 1697, 1698, 1699, 1700, 1701, 1702, 1703, 1704, 1705, 1706, 1707, 1708, 1709, 1710, 1711, 1712, 1713, 1714, 1715, 1716, 1717, 1718, 1719, 1720, 1721, 1722, 1723, 1724, 1725, 1730, 1731, 1732, 1733, 1734, 1735, 1736, 1737, 1738, 1739, 1740, 1741, 1742, 1743, 1744, 1745, 1746, 1747, 1748, 1749, 1750, 1751, 1752, 1753, 1754, 1755, 1756, 1757, 1758, 1759, 1760, 1761]) FRg2 f42 (by decide) (by decide)
      have NF := DfC.r (f := 1664) f42 hm (by decide) NF
      have RS := RsR.s f42 hm RS
      have SX := SxR.r f42 hm SX
      have TE := TE.r f42 hm
      have NI := NI.r f42 hm
      have RQ := RQ.r f42 hm
      refine w_aload_n d332_45 rfl ?_
      refine w_iload_n d332_46 rfl ?_
      refine wf1735 d332_47 ok42 hm (by omega) (fun h47 e47 m47 => ?_)
      have f47 : Fr S m [1735] _ _ := Fr.wF ok42 m47 (FK.pI e47)
      have ok47 := f47.ok
      have FR47 := Fr.tr (F := [1664, 1665, 1666, 1667, 1668, 1670, 1671, 1672, 1673, 1674, 1675, 1676, 1677, 1678, 1679, 1680, 1681, 1682, 1683, 1684, 1685, 1686, 1687, 1688, 1689, 1690, 1691, 1692, 1693, 1694, 1695, 1696, 1697, 1698, 1699, 1700, 1701, 1702, 1703, 1704, 1705, 1706, 1707, 1708, 1709, 1710, 1711, 1712, 1713, 1714, 1715, 1716, 1717, 1718, 1719, 1720, 1721, 1722, 1723, 1724, 1725, 1730, 1731, 1732, 1733, 1734, 1735, 1736, 1737, 1738, 1739, 1740, 1741, 1742, 1743, 1744, 1745, 1746, 1747, 1748, 1749, 1750, 1751, 1752, 1753, 1754, 1755, 1756, 1757, 1758, 1759, 1760, 1761]) FR42 f47 (by decide) (by decide)
      have NF := DfC.r (f := 1664) f47 hm (by decide) NF
      have RS := RsR.s f47 hm RS
      have SX := SxR.r f47 hm SX
      have TE := TE.r f47 hm
      have NI := NI.r f47 hm
      have RQ := RQ.r f47 hm
      have BO := BO.r f47 hm
      have UT : FI h47 1735 m = ((a2 : Nat) : Int) := by rw [e47, FI_sFI, if_pos ⟨rfl, rfl⟩]
      refine w_aload_n d332_50 rfl ?_
      refine w_iconst d332_51 (by decide) ?_
      refine wf1737 d332_52 ok47 hm (by omega) (fun h52 e52 m52 => ?_)
      have f52 : Fr S m [1737] _ _ := Fr.wF ok47 m52 (FK.pI e52)
      have ok52 := f52.ok
      have FR52 := Fr.tr (F := [1664, 1665, 1666, 1667, 1668, 1670, 1671, 1672, 1673, 1674, 1675, 1676, 1677, 1678, 1679, 1680, 1681, 1682, 1683, 1684, 1685, 1686, 1687, 1688, 1689, 1690, 1691, 1692, 1693, 1694, 1695, 1696, 1697, 1698, 1699, 1700, 1701, 1702, 1703, 1704, 1705, 1706, 1707, 1708, 1709, 1710, 1711, 1712, 1713, 1714, 1715, 1716, 1717, 1718, 1719, 1720, 1721, 1722, 1723, 1724, 1725, 1730, 1731, 1732, 1733, 1734, 1735, 1736, 1737, 1738, 1739, 1740, 1741, 1742, 1743, 1744, 1745, 1746, 1747, 1748, 1749, 1750, 1751, 1752, 1753, 1754, 1755, 1756, 1757, 1758, 1759, 1760, 1761]) FR47 f52 (by decide) (by decide)
      have NF := DfC.r (f := 1664) f52 hm (by decide) NF
      have RS := RsR.s f52 hm RS
      have SX := SxR.r f52 hm SX
      have TE := TE.r f52 hm
      have NI := NI.r f52 hm
      have RQ := RQ.r f52 hm
      have BO := BO.r f52 hm
      have UT := (f52.i 1735).trans UT
      have LTt : FI h52 1737 m = -1 := by rw [e52, FI_sFI, if_pos ⟨rfl, rfl⟩]
      refine w_aload_n d332_55 rfl ?_
      refine w_iconst d332_56 (by decide) ?_
      refine wf1736 d332_57 ok52 hm (by omega) (fun h57 e57 m57 => ?_)
      have f57 : Fr S m [1736] _ _ := Fr.wF ok52 m57 (FK.pI e57)
      have ok57 := f57.ok
      have FR57 := Fr.tr (F := [1664, 1665, 1666, 1667, 1668, 1670, 1671, 1672, 1673, 1674, 1675, 1676, 1677, 1678, 1679, 1680, 1681, 1682, 1683, 1684, 1685, 1686, 1687, 1688, 1689, 1690, 1691, 1692, 1693, 1694, 1695, 1696, 1697, 1698, 1699, 1700, 1701, 1702, 1703, 1704, 1705, 1706, 1707, 1708, 1709, 1710, 1711, 1712, 1713, 1714, 1715, 1716, 1717, 1718, 1719, 1720, 1721, 1722, 1723, 1724, 1725, 1730, 1731, 1732, 1733, 1734, 1735, 1736, 1737, 1738, 1739, 1740, 1741, 1742, 1743, 1744, 1745, 1746, 1747, 1748, 1749, 1750, 1751, 1752, 1753, 1754, 1755, 1756, 1757, 1758, 1759, 1760, 1761]) FR52 f57 (by decide) (by decide)
      have NF := DfC.r (f := 1664) f57 hm (by decide) NF
      have RS := RsR.s f57 hm RS
      have SX := SxR.r f57 hm SX
      have TE := TE.r f57 hm
      have NI := NI.r f57 hm
      have RQ := RQ.r f57 hm
      have BO := BO.r f57 hm
      have UT := (f57.i 1735).trans UT
      have LTt := (f57.i 1737).trans LTt
      have SHt : FI h57 1736 m = 0 := by rw [e57, FI_sFI, if_pos ⟨rfl, rfl⟩]
      refine w_aload_n d332_60 rfl ?_
      refine w_iconst d332_61 (by decide) ?_
      refine wf1733 d332_62 ok57 hm (by omega) (fun h62 e62 m62 => ?_)
      have f62 : Fr S m [1733] _ _ := Fr.wF ok57 m62 (FK.pI e62)
      have ok62 := f62.ok
      have FR62 := Fr.tr (F := [1664, 1665, 1666, 1667, 1668, 1670, 1671, 1672, 1673, 1674, 1675, 1676, 1677, 1678, 1679, 1680, 1681, 1682, 1683, 1684, 1685, 1686, 1687, 1688, 1689, 1690, 1691, 1692, 1693, 1694, 1695, 1696, 1697, 1698, 1699, 1700, 1701, 1702, 1703, 1704, 1705, 1706, 1707, 1708, 1709, 1710, 1711, 1712, 1713, 1714, 1715, 1716, 1717, 1718, 1719, 1720, 1721, 1722, 1723, 1724, 1725, 1730, 1731, 1732, 1733, 1734, 1735, 1736, 1737, 1738, 1739, 1740, 1741, 1742, 1743, 1744, 1745, 1746, 1747, 1748, 1749, 1750, 1751, 1752, 1753, 1754, 1755, 1756, 1757, 1758, 1759, 1760, 1761]) FR57 f62 (by decide) (by decide)
      have NF := DfC.r (f := 1664) f62 hm (by decide) NF
      have RS := RsR.s f62 hm RS
      have SX := SxR.r f62 hm SX
      have NI := NI.r f62 hm
      have RQ := RQ.r f62 hm
      have BO := BO.r f62 hm
      have UT := (f62.i 1735).trans UT
      have LTt := (f62.i 1737).trans LTt
      have SHt := (f62.i 1736).trans SHt
      have TE : TeR S h62 m [] := ⟨by rw [e62, FI_sFI, if_pos ⟨rfl, rfl⟩]; rfl, Nat.zero_le _, fun i hi => absurd hi (Nat.not_lt_zero _)⟩
      refine w_aload_n d332_65 rfl ?_
      refine w_iload_n d332_66 rfl ?_
      refine w_callv2 d332_67 (by omega) rfl (ok62.kd hm) (by simp) (Nat.le_of_ble_eq_true rfl) ?_
      refine k_M_number (n := 9) ok62 (by omega) hm (by omega) TE (by omega) (by decide) (fun h67 m67 q67 TE => ?_)
      have f67 : Fr S m [1732, 1733] _ _ := Fr.mk ok62 m67 (fun ζ q => q.elim ((fun ζ e => Or.inl e) ζ) ((fun ζ e => Or.inr ⟨1732, by decide, e ▸ U_refl⟩) ζ)) q67 (by decide)
      have ok67 := f67.ok
      have FR67 := Fr.tr (F := [1664, 1665, 1666, 1667, 1668, 1670, 1671, 1672, 1673, 1674, 1675, 1676, 1677, 1678, 1679, 1680, 1681, 1682, 1683, 1684, 1685, 1686, 1687, 1688, 1689, 1690, 1691, 1692, 1693, 1694, 1695, 1696, 1697, 1698, 1699, 1700, 1701, 1702, 1703, 1704, 1705, 1706, 1707, 1708, 1709, 1710, 1711, 1712, 1713, 1714, 1715, 1716, 1717, 1718, 1719, 1720, 1721, 1722, 1723, 1724, 1725, 1730, 1731, 1732, 1733, 1734, 1735, 1736, 1737, 1738, 1739, 1740, 1741, 1742, 1743, 1744, 1745, 1746, 1747, 1748, 1749, 1750, 1751, 1752, 1753, 1754, 1755, 1756, 1757, 1758, 1759, 1760, 1761]) FR62 f67 (by decide) (by decide)
      have NF := DfC.r (f := 1664) f67 hm (by decide) NF
      have RS := RsR.s f67 hm RS
      have SX := SxR.r f67 hm SX
      have NI := NI.r f67 hm
      have RQ := RQ.r f67 hm
      have BO := BO.r f67 hm
      have UT := (f67.i 1735).trans UT
      have LTt := (f67.i 1737).trans LTt
      have SHt := (f67.i 1736).trans SHt
      refine w_return d332_70 ?_
      rw [E2] at kk
      exact kk _ _ FR67 NF RS SX TE NI RQ ⟨fun j hj => by rw [BO j hj]; show _ = ((clB B a2 2048 j : Nat) : Int); unfold clF clB; by_cases q : a2 ≤ j; rw [if_pos q, if_pos ⟨q, hj⟩]; rfl; rw [if_neg q, if_neg (fun z => q z.1)], UT, LTt, SHt⟩
    refine w_icmpge d332_12 (fun c12 => ?_) (fun c12 => ?_)
    · have E2 : mdM B 2048 ((([], [], []), [], (w.2.2.1, (seNo w.2.2).2)) : HoS) 0 0 = (wi, a, n) := eM.trans (mdM_no (fun z => by have := z.1.1; omega))
      refine w_less ?_ (L40 _ g wi a n li lj rfl FRg NF RS SX TE NI RQ BO al E2)
      exact ⟨Or.inr rfl, Or.inr rfl, Or.inr rfl, trivial⟩
    · refine w_aload_n d332_15 rfl ?_
      refine w_iload_n d332_16 rfl ?_
      refine w_callv2 d332_17 (by omega) rfl (okg.kd hm) (by simp) (Nat.le_of_ble_eq_true rfl) ?_
      refine k_M_againB (w := wi) (k := k + 1 + n) okg (by omega) hm NF RS SX TE BO NI RQ tg Iw (by omega) (by omega) (fun h17 la1 l1 b1 w1 f17 NF RS SX TE NI RQ J1 J0 => ?_)
      have ok17 := f17.ok
      have FR17 := Fr.tr (F := [1664, 1665, 1666, 1667, 1668, 1670, 1671, 1672, 1673, 1674, 1675, 1676, 1677, 1678, 1679, 1680, 1681, 1682, 1683, 1684, 1685, 1686, 1687, 1688, 1689, 1690, 1691, 1692, 1693, 1694, 1695, 1696, 1697, 1698, 1699, 1700, 1701, 1702, 1703, 1704, 1705, 1706, 1707, 1708, 1709, 1710, 1711, 1712, 1713, 1714, 1715, 1716, 1717, 1718, 1719, 1720, 1721, 1722, 1723, 1724, 1725, 1730, 1731, 1732, 1733, 1734, 1735, 1736, 1737, 1738, 1739, 1740, 1741, 1742, 1743, 1744, 1745, 1746, 1747, 1748, 1749, 1750, 1751, 1752, 1753, 1754, 1755, 1756, 1757, 1758, 1759, 1760, 1761]) FRg f17 (by decide) (by decide)
      have BO := BO.r f17 hm
      refine w_ifeq d332_20 (fun c20 => ?_) (fun c20 => ?_)
      · have bf : b1 = false := by
          cases hz : b1 with
          | true => rw [hz] at c20; exact absurd c20 (by decide)
          | false => rfl
        have E2 : mdM B 2048 ((([], [], []), [], (w.2.2.1, (seNo w.2.2).2)) : HoS) 0 0 = (w1, a, n) := by rw [(J0 bf).2]; exact eM.trans (mdM_no (J0 bf).1)
        refine w_less ?_ (L40 _ h17 w1 a n la1 l1 rfl FR17 NF RS SX TE NI RQ BO al E2)
        exact ⟨Or.inr rfl, Or.inr rfl, Or.inr rfl, trivial⟩
      · have bt : b1 = true := by
          cases hz : b1 with
          | true => rfl
          | false => rw [hz] at c20; exact absurd rfl c20
        obtain ⟨mc, ew⟩ := J1 bt
        have rok := mc.1
        have rk2 := rok.2.2.2.1
        have rk1 := rok.2.1
        have e3 := eM.trans (mdM_go (f := 2048 - n) (by omega) mc)
        rw [← ew, recL_len] at e3
        have Iw1 : wInv (k + 1 + n + 1) w1 := by rw [ew]; exact Iw.rq mc.2.1 mc.2.2.2
        refine w_iload_n d332_23 rfl ?_
        refine w_aload_n d332_24 rfl ?_
        refine w_dloadS d332_25 (ok17.kd hm) (fr1734 ok17 hm) ?_
        refine w_iload_n d332_28 rfl ?_
        refine w_ialoadV (x := ((B a : Nat) : Int)) d332_29 (gi1734 ok17 hm (by omega)) (BO a (by omega)) ?_
        refine w_iconst d332_30 (by decide) ?_
        refine w_iadd d332_31 (by constructor <;> omega) ?_
        refine w_iadd d332_32 (by constructor <;> omega) ?_
        rw [show ((a : Nat) : Int) + (((B a : Nat) : Int) + 2) = ((a + (B a + 2) : Nat) : Int) by omega]
        refine w_istore1 d332_33 rfl ?_
        refine w_iinc2 d332_34 rfl (by constructor <;> omega) ?_
        refine w_goto d332_37 ?_
        rw [show ((n : Nat) : Int) + 1 = ((n + 1 : Nat) : Int) by omega]
        refine w_less ?_ (IH8 _ (by omega) h17 w1 (a + (B a + 2)) (n + 1) la1 l1 rfl FR17 NF RS SX TE NI RQ BO ⟨by omega, by omega⟩ (by rw [show 2048 - (n + 1) = 2048 - n - 1 by omega]; exact e3) Iw1)
        exact ⟨Or.inr rfl, Or.inr rfl, Or.inr rfl, trivial⟩
  refine w_less ?_ (L8 _ h1 ((([], [], []), [], (w.2.2.1, (seNo w.2.2).2)) : HoS) 0 0 la l0 rfl FR1 NF RS SX TE NI RQ BO ⟨Nat.zero_le _, Nat.le_refl _⟩ rfl I0)
  exact ⟨Or.inr rfl, Or.inr rfl, Or.inr rfl, trivial⟩
