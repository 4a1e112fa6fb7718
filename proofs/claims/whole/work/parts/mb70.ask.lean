/-! the reference: asked -/
theorem RqR.of {S : Shp} {h : Hp} {m : Nat} {l : List Nat} (ok : Ok S h) (hm : sK S m = 14) (hb : l.length ≤ 20009) (C : FI h 1731 m = ((l.length : Nat) : Int)) (D : ∀ j, j < l.length → AI h (sT S 1730 m) j = ((l.getD j 0 : Nat) : Int)) : RqR S h m l := by
  have sl := sLT ok (f := 1730) (n := 20020) hm (by decide) rfl (by decide)
  exact ⟨C, hb, kT1730 ok hm, by omega, by omega, fun i hi => by rw [Nat.zero_add]; exact D i hi⟩
theorem TpR.s {S : Shp} {h h' : Hp} {m : Nat} {tp : List Nat} {F : List Nat} (fr : Fr S m F h h') (hm : sK S m = 14) (D : TpR S h m tp) (h1 : 1728 ∉ F ∧ 1729 ∉ F ∧ ltF4 F := by decide) : TpR S h' m tp := D.r fr hm h1
/-- all that the reference holds -/
def MoR (S : Shp) (h : Hp) (m : Nat) (w : HoS) (b : BkV) (tp la : List Nat) : Prop := DfC S h (sT S 1664 m) w.1 ∧ RsR S h m w.2.1 ∧ SxR S h m w.2.2 ∧ BoR S h m b ∧ TpR S h m tp ∧ TeR S h m la ∧ NmI h m ∧ (∃ l, RqR S h m l) ∧ ∃ bu, OmS S h (sT S 1669 m) bu
/-- what is asked of the house that the reference holds -/
def mInv (k : Nat) (w : HoS) (b : BkV) (fl : List (List Nat × List Nat)) : Prop := wInv k w ∧ k ≤ 50000 ∧ List.Pairwise (fun a b => ltP a.1 b.1) fl ∧ (∀ x, x ∈ fl ↔ x ∈ w.1.1) ∧ (∀ t ∈ rR (goR (seGo w.2.2)), t < (sePl w.2.2).2.2.length) ∧ b.2.1 ≤ 2048 ∧ b.2.2.1 ≤ b.2.1
theorem d195_0 : dc 195 0 = some (.iload_n 1, 1) := by decide +kernel
theorem d195_1 : dc 195 1 = some (.ifCond .lt ((12 : Nat) : Int), 4) := by decide +kernel
theorem d195_4 : dc 195 4 = some (.iload_n 1, 5) := by decide +kernel
theorem d195_5 : dc 195 5 = some (.aload_n 0, 6) := by decide +kernel
theorem d195_6 : dc 195 6 = some (.getfield 1729, 9) := by decide +kernel
theorem d195_9 : dc 195 9 = some (.if_icmp .le ((14 : Nat) : Int), 12) := by decide +kernel
theorem d195_12 : dc 195 12 = some (.iconst (-1), 13) := by decide +kernel
theorem d195_13 : dc 195 13 = some (.ireturn, 14) := by decide +kernel
theorem d195_14 : dc 195 14 = some (.aload_n 0, 15) := by decide +kernel
theorem d195_15 : dc 195 15 = some (.iload_n 1, 16) := by decide +kernel
theorem d195_16 : dc 195 16 = some (.putfield 1731, 19) := by decide +kernel
theorem d195_19 : dc 195 19 = some (.iconst 0, 20) := by decide +kernel
theorem d195_20 : dc 195 20 = some (.istore_n 2, 21) := by decide +kernel
theorem d195_21 : dc 195 21 = some (.iload_n 2, 22) := by decide +kernel
theorem d195_22 : dc 195 22 = some (.iload_n 1, 23) := by decide +kernel
theorem d195_23 : dc 195 23 = some (.if_icmp .ge ((44 : Nat) : Int), 26) := by decide +kernel
theorem d195_26 : dc 195 26 = some (.aload_n 0, 27) := by decide +kernel
theorem d195_27 : dc 195 27 = some (.dload 1730, 30) := by decide +kernel
theorem d195_30 : dc 195 30 = some (.iload_n 2, 31) := by decide +kernel
theorem d195_31 : dc 195 31 = some (.aload_n 0, 32) := by decide +kernel
theorem d195_32 : dc 195 32 = some (.dload 1728, 35) := by decide +kernel
theorem d195_35 : dc 195 35 = some (.iload_n 2, 36) := by decide +kernel
theorem d195_36 : dc 195 36 = some (.iaload, 37) := by decide +kernel
theorem d195_37 : dc 195 37 = some (.iastore, 38) := by decide +kernel
theorem d195_38 : dc 195 38 = some (.iinc 2 1, 41) := by decide +kernel
theorem d195_41 : dc 195 41 = some (.goto ((21 : Nat) : Int), 44) := by decide +kernel
theorem d195_44 : dc 195 44 = some (.aload_n 0, 45) := by decide +kernel
theorem d195_45 : dc 195 45 = some (.iconst 0, 46) := by decide +kernel
theorem d195_46 : dc 195 46 = some (.putfield 1729, 49) := by decide +kernel
theorem d195_49 : dc 195 49 = some (.aload_n 0, 50) := by decide +kernel
theorem d195_50 : dc 195 50 = some (.invokevirtual 196, 53) := by decide +kernel
theorem d195_53 : dc 195 53 = some (.aload_n 0, 54) := by decide +kernel
theorem d195_54 : dc 195 54 = some (.getfield 1733, 57) := by decide +kernel
theorem d195_57 : dc 195 57 = some (.ireturn, 58) := by decide +kernel
theorem k_M_ask {S : Shp} {G : Nat → Option Nat} {d : Nat} {h : Hp} {Q : Option MV → Hp → Prop} {m : Nat} {n : Int} {w : HoS} {b : BkV} {tp la T0 l0 : List Nat} {fl : List (List Nat × List Nat)} {k : Nat} {bu0 : Nat → OmV} (ok : Ok S h) (h1 : 24 ≤ d) (hm : sK S m = 14) (NF : DfC S h (sT S 1664 m) w.1) (RS : RsR S h m w.2.1) (SX : SxR S h m w.2.2) (BR : BoR S h m b) (TP : TpR S h m tp) (TE : TeR S h m la) (NI : NmI h m) (RQ : RqR S h m l0) (FO : OmS S h (sT S 1669 m) bu0) (tg : Tg S G) (I : mInv k w b fl) (AP : qrR (tp.take n.toNat) = true → 12 < qrT (tp.take n.toNat) → qrT (tp.take n.toNat) ≤ 32 → asP w (tp.take n.toNat) fl T0)
    (k0 : ¬ (0 ≤ n ∧ n ≤ (tp.length : Nat)) → Q (some (vI (-1))) h)
    (kk : ∀ h' w' b' T', Fr S m [1728, 1729, 1664, 1665, 1666, 1667, 1668, 1669, 1670, 1671, 1672, 1673, 1674, 1675, 1676, 1677, 1678, 1679, 1680, 1681, 1682, 1683, 1684, 1685, 1686, 1687, 1688, 1689, 1690, 1691, 1692, 1693, 1694, 1695, 1696, 1697, 1698, 1699, 1700, 1701, 1702, 1703, 1704, 1705, 1706, 1707, 1708, 1709, 1710, 1711, 1712, 1713, 1714, 1715, 1716, 1717, 1718, 1719, 1720, 1721, 1722, 1723, 1724, 1725, 1726, 1727, 1730, 1731, 1732, 1733, 1734, 1735, 1736, 1737, 1738, 1739, 1740, 1741, 1742, 1743, 1744, 1745, 1746, 1747, 1748, 1749, 1750, 1751, 1752, 1753, 1754, 1755, 1756, 1757, 1758, 1759, 1760, 1761, 1762, 1763] h h' → MoR S h' m w' b' [] (addBs 20000 [] T') → anM w b (tp.take n.toNat) T0 w' b' T' → Q (some (vI (((addBs 20000 [] T').length : Nat) : Int))) h') : Cl G d 195 [vR (some m), vI n] h Q := by
  show Wp G d 195 0 [some (vR (some m)), some (vI n), none] [] h Q
  have NF_0 := NF
  have RS_0 := RS
  have SX_0 := SX
  have BR_0 := BR
  have TP_0 := TP
  have TE_0 := TE
  have NI_0 := NI
  have RQ_0 := RQ
  have FO_0 := FO
  refine w_iload_n d195_0 rfl ?_
  refine w_iflt d195_1 (fun c1 => ?_) (fun c1 => ?_)
  · refine w_iconst d195_12 (by decide) ?_
    refine w_ireturn d195_13 ?_
    exact k0 (by omega)
  · refine w_iload_n d195_4 rfl ?_
    refine w_aload_n d195_5 rfl ?_
    refine w_getI (x := ((tp.length : Nat) : Int)) d195_6 (ok.kd hm) TP.1 ?_
    refine w_icmple d195_9 (fun c9 => ?_) (fun c9 => ?_)
    · obtain ⟨j, hj⟩ : ∃ j : Nat, n = (j : Int) := ⟨n.toNat, by omega⟩
      have jl : j ≤ tp.length := by omega
      have t4 := TP.2.1
      have ln : (tp.take n.toNat).length = j := by rw [List.length_take]; omega
      rw [hj]
      refine w_aload_n d195_14 rfl ?_
      refine w_iload_n d195_15 rfl ?_
      refine wf1731 d195_16 ok hm (by omega) (fun h16 e16 m16 => ?_)
      have f16 : Fr S m [1731] _ _ := Fr.wF ok m16 (FK.pI e16)
      have ok16 := f16.ok
      have FR16 := Fr.le (F := [1728, 1729, 1664, 1665, 1666, 1667, 1668, 1669, 1670, 1671, 1672, 1673, 1674, 1675, 1676, 1677, 1678, 1679, 1680, 1681, 1682, 1683, 1684, 1685, 1686, 1687, 1688, 1689, 1690, 1691, 1692, 1693, 1694, 1695, 1696, 1697, 1698, 1699, 1700, 1701, 1702, 1703, 1704, 1705, 1706, 1707, 1708, 1709, 1710, 1711, 1712, 1713, 1714, 1715, 1716, 1717, 1718, 1719, 1720, 1721, 1722, 1723, 1724, 1725, 1726, 1727, 1730, 1731, 1732, 1733, 1734, 1735, 1736, 1737, 1738, 1739, 1740, 1741, 1742, 1743, 1744, 1745, 1746, 1747, 1748, 1749, 1750, 1751, 1752, 1753, 1754, 1755, 1756, 1757, 1758, 1759, 1760, 1761, 1762, 1763]) f16 (by decide)
      have NF := DfC.r (f := 1664) f16 hm (by decide) NF
      have RS := RsR.s f16 hm RS
      have SX := SxR.r f16 hm SX
      have BR := BR.r f16 hm
      have TP := TpR.s f16 hm TP
      have TE := TE.r f16 hm
      have NI := NI.r f16 hm
      have FO := OmS.r (f := 1669) f16 hm (Or.inr rfl) (by decide) FO
      have C31 : FI h16 1731 m = ((j : Nat) : Int) := by rw [e16, FI_sFI, if_pos ⟨rfl, rfl⟩]
      refine w_iconst d195_19 (by decide) ?_
      refine w_istore2 d195_20 rfl ?_
      have L21 : ∀ (m21 : Nat) (g : Hp) (i : Nat), j - i = m21 → Fr S m [1728, 1729, 1664, 1665, 1666, 1667, 1668, 1669, 1670, 1671, 1672, 1673, 1674, 1675, 1676, 1677, 1678, 1679, 1680, 1681, 1682, 1683, 1684, 1685, 1686, 1687, 1688, 1689, 1690, 1691, 1692, 1693, 1694, 1695, 1696, 1697, 1698, 1699, 1700, 1701, 1702, 1703, 1704, 1705, 1706, 1707, 1708, 1709, 1710, 1711, 1712, 1713, 1714, 1715, 1716, 1717, 1718, 1719, 1720, 1721, 1722, 1723, 1724, 1725, 1726, 1727, 1730, 1731, 1732, 1733, 1734, 1735, 1736, 1737, 1738, 1739, 1740, 1741, 1742, 1743, 1744, 1745, 1746, 1747, 1748, 1749, 1750, 1751, 1752, 1753, 1754, 1755, 1756, 1757, 1758, 1759, 1760, 1761, 1762, 1763] h g → (i ≤ j) → (∀ q, q < i → AI g (sT S 1730 m) q = ((tp.getD q 0 : Nat) : Int)) → (DfC S g (sT S 1664 m) w.1) → (RsR S g m w.2.1) → (SxR S g m w.2.2) → (BoR S g m b) → (TeR S g m la) → (NmI g m) → (OmS S g (sT S 1669 m) bu0) → (TpR S g m tp) → (FI g 1731 m = ((j : Nat) : Int)) → Wp G d 195 21 [some (vR (some m)), some (vI (j : Nat)), some (vI (i : Nat))] [] g Q := by
        intro m21
        induction m21 using Nat.strongRecOn with | ind m21 IH21 => ?_
        intro g i hm21 FRg il hc NF RS SX BR TE NI FO TP C31
        have okg := FRg.ok
        refine w_iload_n d195_21 rfl ?_
        refine w_iload_n d195_22 rfl ?_
        refine w_icmpge d195_23 (fun c23 => ?_) (fun c23 => ?_)
        · have ei : i = j := by omega
          have RQ : RqR S g m (tp.take n.toNat) := RqR.of okg hm (by omega) (by rw [ln]; exact C31) (fun q hq => by rw [hc q (by omega), List.getD_eq_getElem?_getD, List.getD_eq_getElem?_getD, List.getElem?_take, if_pos (by omega)])
          refine w_aload_n d195_44 rfl ?_
          refine w_iconst d195_45 (by decide) ?_
          refine wf1729 d195_46 okg hm (by omega) (fun h46 e46 m46 => ?_)
          have f46 : Fr S m [1729] _ _ := Fr.wF okg m46 (FK.pI e46)
          have ok46 := f46.ok
          have FR46 := Fr.tr (F := [1728, 1729, 1664, 1665, 1666, 1667, 1668, 1669, 1670, 1671, 1672, 1673, 1674, 1675, 1676, 1677, 1678, 1679, 1680, 1681, 1682, 1683, 1684, 1685, 1686, 1687, 1688, 1689, 1690, 1691, 1692, 1693, 1694, 1695, 1696, 1697, 1698, 1699, 1700, 1701, 1702, 1703, 1704, 1705, 1706, 1707, 1708, 1709, 1710, 1711, 1712, 1713, 1714, 1715, 1716, 1717, 1718, 1719, 1720, 1721, 1722, 1723, 1724, 1725, 1726, 1727, 1730, 1731, 1732, 1733, 1734, 1735, 1736, 1737, 1738, 1739, 1740, 1741, 1742, 1743, 1744, 1745, 1746, 1747, 1748, 1749, 1750, 1751, 1752, 1753, 1754, 1755, 1756, 1757, 1758, 1759, 1760, 1761, 1762, 1763]) FRg f46 (by decide) trivial
          have NF := DfC.r (f := 1664) f46 hm (by decide) NF
          have RS := RsR.s f46 hm RS
          have SX := SxR.r f46 hm SX
          have BR := BR.r f46 hm
          have TE := TE.r f46 hm
          have NI := NI.r f46 hm
          have FO := OmS.r (f := 1669) f46 hm (Or.inr rfl) (by decide) FO
          have C31 := (f46.i 1731).trans C31
          have RQ := RQ.r f46 hm
          have TP : TpR S h46 m [] := ⟨by rw [e46, FI_sFI, if_pos ⟨rfl, rfl⟩]; rfl, Nat.zero_le _, fun i hi => absurd hi (Nat.not_lt_zero _)⟩
          refine w_aload_n d195_49 rfl ?_
          refine w_callv1 d195_50 (by omega) rfl (ok46.kd hm) (by simp) (Nat.le_of_ble_eq_true rfl) ?_
          refine k_M_answerIt (la := []) (l := (tp.take n.toNat)) (T0 := T0) (fl := fl) ok46 (by omega) hm NF RS SX RQ NI BR FO tg (by omega) I.1 I.2.1 AP I.2.2.1 I.2.2.2.1 I.2.2.2.2.1 I.2.2.2.2.2 (fun h50 w1 b1 T1 l1 f50 NF RS SX BR TE NI RQ FO an => ?_)
          have ok50 := f50.ok
          have FR50 := Fr.tr (F := [1728, 1729, 1664, 1665, 1666, 1667, 1668, 1669, 1670, 1671, 1672, 1673, 1674, 1675, 1676, 1677, 1678, 1679, 1680, 1681, 1682, 1683, 1684, 1685, 1686, 1687, 1688, 1689, 1690, 1691, 1692, 1693, 1694, 1695, 1696, 1697, 1698, 1699, 1700, 1701, 1702, 1703, 1704, 1705, 1706, 1707, 1708, 1709, 1710, 1711, 1712, 1713, 1714, 1715, 1716, 1717, 1718, 1719, 1720, 1721, 1722, 1723, 1724, 1725, 1726, 1727, 1730, 1731, 1732, 1733, 1734, 1735, 1736, 1737, 1738, 1739, 1740, 1741, 1742, 1743, 1744, 1745, 1746, 1747, 1748, 1749, 1750, 1751, 1752, 1753, 1754, 1755, 1756, 1757, 1758, 1759, 1760, 1761, 1762, 1763]) FR46 f50 (fun _ q => List.mem_cons_of_mem _ (List.mem_cons_of_mem _ (q))) trivial
          have TP := TpR.s f50 hm TP
          refine w_aload_n d195_53 rfl ?_
          refine w_getI (x := (((addBs 20000 [] T1).length : Nat) : Int)) d195_54 (ok50.kd hm) TE.1 ?_
          refine w_ireturn d195_57 ?_
          exact kk _ w1 b1 T1 FR50 ⟨NF, RS, SX, BR, TP, TE, NI, ⟨_, RQ⟩, FO⟩ an
        · have hi : i < j := by omega
          have ti := TP.2.2 i (by omega)
          have bi := ra1728 okg hm i
          rw [ti] at bi
          refine w_aload_n d195_26 rfl ?_
          refine w_dloadS d195_27 (okg.kd hm) (fr1730 okg hm) ?_
          refine w_iload_n d195_30 rfl ?_
          refine w_aload_n d195_31 rfl ?_
          refine w_dloadS d195_32 (okg.kd hm) (fr1728 okg hm) ?_
          refine w_iload_n d195_35 rfl ?_
          refine w_ialoadV (x := ((tp.getD i 0 : Nat) : Int)) d195_36 (gi1728 okg hm (by omega)) ti ?_
          refine wa1730 d195_37 okg hm (by omega) (by omega) (fun h37 e37 m37 => ?_)
          have e37 : h37 = sAI g (sT S 1730 m) i ((tp.getD i 0 : Nat) : Int) := e37
          have f37 : Fr S m [1730] _ _ := Fr.wB okg hm m37 (fun ζ e => ⟨1730, by decide, by decide, e ▸ U_refl⟩)
          have ok37 := f37.ok
          have FR37 := Fr.tr (F := [1728, 1729, 1664, 1665, 1666, 1667, 1668, 1669, 1670, 1671, 1672, 1673, 1674, 1675, 1676, 1677, 1678, 1679, 1680, 1681, 1682, 1683, 1684, 1685, 1686, 1687, 1688, 1689, 1690, 1691, 1692, 1693, 1694, 1695, 1696, 1697, 1698, 1699, 1700, 1701, 1702, 1703, 1704, 1705, 1706, 1707, 1708, 1709, 1710, 1711, 1712, 1713, 1714, 1715, 1716, 1717, 1718, 1719, 1720, 1721, 1722, 1723, 1724, 1725, 1726, 1727, 1730, 1731, 1732, 1733, 1734, 1735, 1736, 1737, 1738, 1739, 1740, 1741, 1742, 1743, 1744, 1745, 1746, 1747, 1748, 1749, 1750, 1751, 1752, 1753, 1754, 1755, 1756, 1757, 1758, 1759, 1760, 1761, 1762, 1763]) FRg f37 (by decide) trivial
          have NF := DfC.r (f := 1664) f37 hm (by decide) NF
          have RS := RsR.s f37 hm RS
          have SX := SxR.r f37 hm SX
          have BR := BR.r f37 hm
          have TE := TE.r f37 hm
          have NI := NI.r f37 hm
          have FO := OmS.r (f := 1669) f37 hm (Or.inr rfl) (by decide) FO
          have TP := TpR.s f37 hm TP
          have C31 := (f37.i 1731).trans C31
          refine w_iinc2 d195_38 rfl (by constructor <;> omega) ?_
          refine w_goto d195_41 ?_
          rw [show ((i : Nat) : Int) + 1 = ((i + 1 : Nat) : Int) by omega]
          refine w_less ?_ (IH21 _ (by omega) h37 (i + 1) rfl FR37 (by omega) (fun q hq => by rw [e37, sArr]; by_cases z : q = i; rw [if_pos z, z]; rw [if_neg z]; exact hc q (by omega)) NF RS SX BR TE NI FO TP C31)
          exact ⟨Or.inr rfl, Or.inr rfl, Or.inr rfl, trivial⟩
      refine w_less ?_ (L21 _ h16 0 rfl FR16 (Nat.zero_le _) (fun q hq => absurd hq (Nat.not_lt_zero _)) NF RS SX BR TE NI FO TP C31)
      exact ⟨Or.inr rfl, Or.inr rfl, Or.inr rfl, trivial⟩
    · refine w_iconst d195_12 (by decide) ?_
      refine w_ireturn d195_13 ?_
      exact k0 (by omega)
theorem d335_0 : dc 335 0 = some (.getstatic 93, 3) := by decide +kernel
theorem d335_3 : dc 335 3 = some (.astore_n 1, 4) := by decide +kernel
theorem d335_4 : dc 335 4 = some (.aload_n 0, 5) := by decide +kernel
theorem d335_5 : dc 335 5 = some (.aload_n 1, 6) := by decide +kernel
theorem d335_6 : dc 335 6 = some (.invokevirtual 21, 9) := by decide +kernel
theorem d335_9 : dc 335 9 = some (.aload_n 0, 10) := by decide +kernel
theorem d335_10 : dc 335 10 = some (.getfield 1733, 13) := by decide +kernel
theorem d335_13 : dc 335 13 = some (.iadd, 14) := by decide +kernel
theorem d335_14 : dc 335 14 = some (.putfield 1731, 17) := by decide +kernel
theorem d335_17 : dc 335 17 = some (.iconst 0, 18) := by decide +kernel
theorem d335_18 : dc 335 18 = some (.istore_n 2, 19) := by decide +kernel
theorem d335_19 : dc 335 19 = some (.iload_n 2, 20) := by decide +kernel
theorem d335_20 : dc 335 20 = some (.aload_n 1, 21) := by decide +kernel
theorem d335_21 : dc 335 21 = some (.invokevirtual 21, 24) := by decide +kernel
theorem d335_24 : dc 335 24 = some (.if_icmp .ge ((44 : Nat) : Int), 27) := by decide +kernel
theorem d335_27 : dc 335 27 = some (.aload_n 0, 28) := by decide +kernel
theorem d335_28 : dc 335 28 = some (.dload 1730, 31) := by decide +kernel
theorem d335_31 : dc 335 31 = some (.iload_n 2, 32) := by decide +kernel
theorem d335_32 : dc 335 32 = some (.aload_n 1, 33) := by decide +kernel
theorem d335_33 : dc 335 33 = some (.iload_n 2, 34) := by decide +kernel
theorem d335_34 : dc 335 34 = some (.invokevirtual 24, 37) := by decide +kernel
theorem d335_37 : dc 335 37 = some (.iastore, 38) := by decide +kernel
theorem d335_38 : dc 335 38 = some (.iinc 2 1, 41) := by decide +kernel
theorem d335_41 : dc 335 41 = some (.goto ((19 : Nat) : Int), 44) := by decide +kernel
theorem d335_44 : dc 335 44 = some (.iconst 0, 45) := by decide +kernel
theorem d335_45 : dc 335 45 = some (.istore_n 2, 46) := by decide +kernel
theorem d335_46 : dc 335 46 = some (.iload_n 2, 47) := by decide +kernel
theorem d335_47 : dc 335 47 = some (.aload_n 0, 48) := by decide +kernel
theorem d335_48 : dc 335 48 = some (.getfield 1733, 51) := by decide +kernel
theorem d335_51 : dc 335 51 = some (.if_icmp .ge ((77 : Nat) : Int), 54) := by decide +kernel
theorem d335_54 : dc 335 54 = some (.aload_n 0, 55) := by decide +kernel
theorem d335_55 : dc 335 55 = some (.dload 1730, 58) := by decide +kernel
theorem d335_58 : dc 335 58 = some (.aload_n 1, 59) := by decide +kernel
theorem d335_59 : dc 335 59 = some (.invokevirtual 21, 62) := by decide +kernel
theorem d335_62 : dc 335 62 = some (.iload_n 2, 63) := by decide +kernel
theorem d335_63 : dc 335 63 = some (.iadd, 64) := by decide +kernel
theorem d335_64 : dc 335 64 = some (.aload_n 0, 65) := by decide +kernel
theorem d335_65 : dc 335 65 = some (.dload 1732, 68) := by decide +kernel
theorem d335_68 : dc 335 68 = some (.iload_n 2, 69) := by decide +kernel
theorem d335_69 : dc 335 69 = some (.iaload, 70) := by decide +kernel
theorem d335_70 : dc 335 70 = some (.iastore, 71) := by decide +kernel
theorem d335_71 : dc 335 71 = some (.iinc 2 1, 74) := by decide +kernel
theorem d335_74 : dc 335 74 = some (.goto ((46 : Nat) : Int), 77) := by decide +kernel
theorem d335_77 : dc 335 77 = some (.aload_n 0, 78) := by decide +kernel
theorem d335_78 : dc 335 78 = some (.invokevirtual 196, 81) := by decide +kernel
theorem d335_81 : dc 335 81 = some (.aload_n 0, 82) := by decide +kernel
theorem d335_82 : dc 335 82 = some (.getfield 1733, 85) := by decide +kernel
theorem d335_85 : dc 335 85 = some (.ireturn, 86) := by decide +kernel
theorem k_M_disproveAnswer {S : Shp} {G : Nat → Option Nat} {d : Nat} {h : Hp} {Q : Option MV → Hp → Prop} {m : Nat} {w : HoS} {b : BkV} {tp la T0 l0 : List Nat} {fl : List (List Nat × List Nat)} {k : Nat} {bu0 : Nat → OmV} (ok : Ok S h) (h1 : 24 ≤ d) (hm : sK S m = 14) (NF : DfC S h (sT S 1664 m) w.1) (RS : RsR S h m w.2.1) (SX : SxR S h m w.2.2) (BR : BoR S h m b) (TP : TpR S h m tp) (TE : TeR S h m la) (NI : NmI h m) (RQ : RqR S h m l0) (FO : OmS S h (sT S 1669 m) bu0) (tg : Tg S G) (hll : la.length ≤ 4087) (I : mInv k w b fl) (AP : qrR (txt 43 ++ la) = true → 12 < qrT (txt 43 ++ la) → qrT (txt 43 ++ la) ≤ 32 → asP w (txt 43 ++ la) fl T0)
    (kk : ∀ h' w' b' T', Fr S m [1664, 1665, 1666, 1667, 1668, 1669, 1670, 1671, 1672, 1673, 1674, 1675, 1676, 1677, 1678, 1679, 1680, 1681, 1682, 1683, 1684, 1685, 1686, 1687, 1688, 1689, 1690, 1691, 1692, 1693, 1694, 1695, 1696, 1697, 1698, 1699, 1700, 1701, 1702, 1703, 1704, 1705, 1706, 1707, 1708, 1709, 1710, 1711, 1712, 1713, 1714, 1715, 1716, 1717, 1718, 1719, 1720, 1721, 1722, 1723, 1724, 1725, 1726, 1727, 1730, 1731, 1732, 1733, 1734, 1735, 1736, 1737, 1738, 1739, 1740, 1741, 1742, 1743, 1744, 1745, 1746, 1747, 1748, 1749, 1750, 1751, 1752, 1753, 1754, 1755, 1756, 1757, 1758, 1759, 1760, 1761, 1762, 1763] h h' → MoR S h' m w' b' tp (addBs 20000 [] T') → anM w b (txt 43 ++ la) T0 w' b' T' → Q (some (vI (((addBs 20000 [] T').length : Nat) : Int))) h') : Cl G d 335 [vR (some m)] h Q := by
  show Wp G d 335 0 [some (vR (some m)), none, none] [] h Q
  have NF_0 := NF
  have RS_0 := RS
  have SX_0 := SX
  have BR_0 := BR
  have TP_0 := TP
  have TE_0 := TE
  have NI_0 := NI
  have RQ_0 := RQ
  have FO_0 := FO
  have t43 : (txt 43).length = 9 := by decide
  have b43 : ∀ i, i < 9 → (txt 43).getD i 0 < 128 := by decide
  have ln : (txt 43 ++ la).length = 9 + la.length := by rw [List.length_append, t43]
  have laE : (txt 43 ++ la).getD = (txt 43 ++ la).getD := rfl
  obtain ⟨g0, v0, s0⟩ := tg.al ok 43 (by decide)
  refine w_getstaticS d335_0 v0 ?_
  refine w_astore1 d335_3 rfl ?_
  refine w_aload_n d335_4 rfl ?_
  refine w_aload_n d335_5 rfl ?_
  refine w_callv1 d335_6 (by omega) rfl (s0 _ ok).1 (by simp) (Nat.le_of_ble_eq_true rfl) ?_
  refine c_Str_length (by omega) (s0 _ ok) ?_
  rw [t43]
  refine w_aload_n d335_9 rfl ?_
  refine w_getI (x := ((la.length : Nat) : Int)) d335_10 (ok.kd hm) TE.1 ?_
  refine w_iadd d335_13 (by constructor <;> omega) ?_
  rw [show ((9 : Nat) : Int) + ((la.length : Nat) : Int) = ((9 + la.length : Nat) : Int) by omega]
  refine wf1731 d335_14 ok hm (by omega) (fun h14 e14 m14 => ?_)
  have f14 : Fr S m [1731] _ _ := Fr.wF ok m14 (FK.pI e14)
  have ok14 := f14.ok
  have FR14 := Fr.le (F := [1664, 1665, 1666, 1667, 1668, 1669, 1670, 1671, 1672, 1673, 1674, 1675, 1676, 1677, 1678, 1679, 1680, 1681, 1682, 1683, 1684, 1685, 1686, 1687, 1688, 1689, 1690, 1691, 1692, 1693, 1694, 1695, 1696, 1697, 1698, 1699, 1700, 1701, 1702, 1703, 1704, 1705, 1706, 1707, 1708, 1709, 1710, 1711, 1712, 1713, 1714, 1715, 1716, 1717, 1718, 1719, 1720, 1721, 1722, 1723, 1724, 1725, 1726, 1727, 1730, 1731, 1732, 1733, 1734, 1735, 1736, 1737, 1738, 1739, 1740, 1741, 1742, 1743, 1744, 1745, 1746, 1747, 1748, 1749, 1750, 1751, 1752, 1753, 1754, 1755, 1756, 1757, 1758, 1759, 1760, 1761, 1762, 1763]) f14 (by decide)
  have NF := DfC.r (f := 1664) f14 hm (by decide) NF
  have RS := RsR.s f14 hm RS
  have SX := SxR.r f14 hm SX
  have BR := BR.r f14 hm
  have TP := TpR.s f14 hm TP
  have TE := TE.r f14 hm
  have NI := NI.r f14 hm
  have FO := OmS.r (f := 1669) f14 hm (Or.inr rfl) (by decide) FO
  have C31 : FI h14 1731 m = ((9 + la.length : Nat) : Int) := by rw [e14, FI_sFI, if_pos ⟨rfl, rfl⟩]
  refine w_iconst d335_17 (by decide) ?_
  refine w_istore2 d335_18 rfl ?_
  have L19 : ∀ (m19 : Nat) (g : Hp) (i : Nat), 9 - i = m19 → Fr S m [1664, 1665, 1666, 1667, 1668, 1669, 1670, 1671, 1672, 1673, 1674, 1675, 1676, 1677, 1678, 1679, 1680, 1681, 1682, 1683, 1684, 1685, 1686, 1687, 1688, 1689, 1690, 1691, 1692, 1693, 1694, 1695, 1696, 1697, 1698, 1699, 1700, 1701, 1702, 1703, 1704, 1705, 1706, 1707, 1708, 1709, 1710, 1711, 1712, 1713, 1714, 1715, 1716, 1717, 1718, 1719, 1720, 1721, 1722, 1723, 1724, 1725, 1726, 1727, 1730, 1731, 1732, 1733, 1734, 1735, 1736, 1737, 1738, 1739, 1740, 1741, 1742, 1743, 1744, 1745, 1746, 1747, 1748, 1749, 1750, 1751, 1752, 1753, 1754, 1755, 1756, 1757, 1758, 1759, 1760, 1761, 1762, 1763] h g → (i ≤ 9) → (∀ q, q < i → AI g (sT S 1730 m) q = (((txt 43).getD q 0 : Nat) : Int)) → (DfC S g (sT S 1664 m) w.1) → (RsR S g m w.2.1) → (SxR S g m w.2.2) → (BoR S g m b) → (TeR S g m la) → (NmI g m) → (OmS S g (sT S 1669 m) bu0) → (FI g 1731 m = ((9 + la.length : Nat) : Int)) → Wp G d 335 19 [some (vR (some m)), some (vR (some g0)), some (vI (i : Nat))] [] g Q := by
    intro m19
    induction m19 using Nat.strongRecOn with | ind m19 IH19 => ?_
    intro g i hm19 FRg il hc NF RS SX BR TE NI FO C31
    have okg := FRg.ok
    have TP := TpR.s FRg hm TP_0
    refine w_iload_n d335_19 rfl ?_
    refine w_aload_n d335_20 rfl ?_
    refine w_callv1 d335_21 (by omega) rfl (s0 _ okg).1 (by simp) (Nat.le_of_ble_eq_true rfl) ?_
    refine c_Str_length (by omega) (s0 _ okg) ?_
    rw [t43]
    refine w_icmpge d335_24 (fun c24 => ?_) (fun c24 => ?_)
    · have ei : i = 9 := by omega
      refine w_iconst d335_44 (by decide) ?_
      refine w_istore2 d335_45 rfl ?_
      have L46 : ∀ (m46 : Nat) (g2 : Hp) (k2 : Nat), la.length - k2 = m46 → Fr S m [1664, 1665, 1666, 1667, 1668, 1669, 1670, 1671, 1672, 1673, 1674, 1675, 1676, 1677, 1678, 1679, 1680, 1681, 1682, 1683, 1684, 1685, 1686, 1687, 1688, 1689, 1690, 1691, 1692, 1693, 1694, 1695, 1696, 1697, 1698, 1699, 1700, 1701, 1702, 1703, 1704, 1705, 1706, 1707, 1708, 1709, 1710, 1711, 1712, 1713, 1714, 1715, 1716, 1717, 1718, 1719, 1720, 1721, 1722, 1723, 1724, 1725, 1726, 1727, 1730, 1731, 1732, 1733, 1734, 1735, 1736, 1737, 1738, 1739, 1740, 1741, 1742, 1743, 1744, 1745, 1746, 1747, 1748, 1749, 1750, 1751, 1752, 1753, 1754, 1755, 1756, 1757, 1758, 1759, 1760, 1761, 1762, 1763] h g2 → (k2 ≤ la.length) → (∀ q, q < 9 → AI g2 (sT S 1730 m) q = (((txt 43).getD q 0 : Nat) : Int)) → (∀ q, q < k2 → AI g2 (sT S 1730 m) (9 + q) = ((la.getD q 0 : Nat) : Int)) → (DfC S g2 (sT S 1664 m) w.1) → (RsR S g2 m w.2.1) → (SxR S g2 m w.2.2) → (BoR S g2 m b) → (TeR S g2 m la) → (NmI g2 m) → (OmS S g2 (sT S 1669 m) bu0) → (FI g2 1731 m = ((9 + la.length : Nat) : Int)) → Wp G d 335 46 [some (vR (some m)), some (vR (some g0)), some (vI (k2 : Nat))] [] g2 Q := by
        intro m46
        induction m46 using Nat.strongRecOn with | ind m46 IH46 => ?_
        intro g2 k2 hm46 FRg2 kl hc hd2 NF RS SX BR TE NI FO C31
        have okg2 := FRg2.ok
        have TP := TpR.s FRg2 hm TP_0
        refine w_iload_n d335_46 rfl ?_
        refine w_aload_n d335_47 rfl ?_
        refine w_getI (x := ((la.length : Nat) : Int)) d335_48 (okg2.kd hm) TE.1 ?_
        refine w_icmpge d335_51 (fun c51 => ?_) (fun c51 => ?_)
        · have ek : k2 = la.length := by omega
          have RQ : RqR S g2 m (txt 43 ++ la) := RqR.of okg2 hm (by omega) (by rw [ln]; exact C31) (fun q hq => by
            rw [List.getD_eq_getElem?_getD]
            by_cases z : q < 9
            · rw [List.getElem?_append_left (by omega), ← List.getD_eq_getElem?_getD]; exact hc q z
            · rw [List.getElem?_append_right (by omega), t43, ← List.getD_eq_getElem?_getD, ← hd2 (q - 9) (by omega), show 9 + (q - 9) = q by omega])
          refine w_aload_n d335_77 rfl ?_
          refine w_callv1 d335_78 (by omega) rfl (okg2.kd hm) (by simp) (Nat.le_of_ble_eq_true rfl) ?_
          refine k_M_answerIt (la := []) (l := (txt 43 ++ la)) (T0 := T0) (fl := fl) okg2 (by omega) hm NF RS SX RQ NI BR FO tg (by omega) I.1 I.2.1 AP I.2.2.1 I.2.2.2.1 I.2.2.2.2.1 I.2.2.2.2.2 (fun h78 w1 b1 T1 l1 f78 NF RS SX BR TE NI RQ FO an => ?_)
          have ok78 := f78.ok
          have FR78 := Fr.tr (F := [1664, 1665, 1666, 1667, 1668, 1669, 1670, 1671, 1672, 1673, 1674, 1675, 1676, 1677, 1678, 1679, 1680, 1681, 1682, 1683, 1684, 1685, 1686, 1687, 1688, 1689, 1690, 1691, 1692, 1693, 1694, 1695, 1696, 1697, 1698, 1699, 1700, 1701, 1702, 1703, 1704, 1705, 1706, 1707, 1708, 1709, 1710, 1711, 1712, 1713, 1714, 1715, 1716, 1717, 1718, 1719, 1720, 1721, 1722, 1723, 1724, 1725, 1726, 1727, 1730, 1731, 1732, 1733, 1734, 1735, 1736, 1737, 1738, 1739, 1740, 1741, 1742, 1743, 1744, 1745, 1746, 1747, 1748, 1749, 1750, 1751, 1752, 1753, 1754, 1755, 1756, 1757, 1758, 1759, 1760, 1761, 1762, 1763]) FRg2 f78 (fun _ q => q) trivial
          have TP := TpR.s f78 hm TP
          refine w_aload_n d335_81 rfl ?_
          refine w_getI (x := (((addBs 20000 [] T1).length : Nat) : Int)) d335_82 (ok78.kd hm) TE.1 ?_
          refine w_ireturn d335_85 ?_
          exact kk _ w1 b1 T1 FR78 ⟨NF, RS, SX, BR, TP, TE, NI, ⟨_, RQ⟩, FO⟩ an
        · have hk2 : k2 < la.length := by omega
          have tk := TE.2.2 k2 hk2
          have bk := ra1732 okg2 hm k2
          rw [tk] at bk
          refine w_aload_n d335_54 rfl ?_
          refine w_dloadS d335_55 (okg2.kd hm) (fr1730 okg2 hm) ?_
          refine w_aload_n d335_58 rfl ?_
          refine w_callv1 d335_59 (by omega) rfl (s0 _ okg2).1 (by simp) (Nat.le_of_ble_eq_true rfl) ?_
          refine c_Str_length (by omega) (s0 _ okg2) ?_
          rw [t43]
          refine w_iload_n d335_62 rfl ?_
          refine w_iadd d335_63 (by constructor <;> omega) ?_
          rw [show ((9 : Nat) : Int) + ((k2 : Nat) : Int) = ((9 + k2 : Nat) : Int) by omega]
          refine w_aload_n d335_64 rfl ?_
          refine w_dloadS d335_65 (okg2.kd hm) (fr1732 okg2 hm) ?_
          refine w_iload_n d335_68 rfl ?_
          refine w_ialoadV (x := ((la.getD k2 0 : Nat) : Int)) d335_69 (gi1732 okg2 hm (by omega)) tk ?_
          refine wa1730 d335_70 okg2 hm (by omega) (by omega) (fun h70 e70 m70 => ?_)
          have e70 : h70 = sAI g2 (sT S 1730 m) ((9 + k2)) ((la.getD k2 0 : Nat) : Int) := e70
          have f70 : Fr S m [1730] _ _ := Fr.wB okg2 hm m70 (fun ζ e => ⟨1730, by decide, by decide, e ▸ U_refl⟩)
          have ok70 := f70.ok
          have FR70 := Fr.tr (F := [1664, 1665, 1666, 1667, 1668, 1669, 1670, 1671, 1672, 1673, 1674, 1675, 1676, 1677, 1678, 1679, 1680, 1681, 1682, 1683, 1684, 1685, 1686, 1687, 1688, 1689, 1690, 1691, 1692, 1693, 1694, 1695, 1696, 1697, 1698, 1699, 1700, 1701, 1702, 1703, 1704, 1705, 1706, 1707, 1708, 1709, 1710, 1711, 1712, 1713, 1714, 1715, 1716, 1717, 1718, 1719, 1720, 1721, 1722, 1723, 1724, 1725, 1726, 1727, 1730, 1731, 1732, 1733, 1734, 1735, 1736, 1737, 1738, 1739, 1740, 1741, 1742, 1743, 1744, 1745, 1746, 1747, 1748, 1749, 1750, 1751, 1752, 1753, 1754, 1755, 1756, 1757, 1758, 1759, 1760, 1761, 1762, 1763]) FRg2 f70 (by decide) trivial
          have NF := DfC.r (f := 1664) f70 hm (by decide) NF
          have RS := RsR.s f70 hm RS
          have SX := SxR.r f70 hm SX
          have BR := BR.r f70 hm
          have TE := TE.r f70 hm
          have NI := NI.r f70 hm
          have FO := OmS.r (f := 1669) f70 hm (Or.inr rfl) (by decide) FO
          have C31 := (f70.i 1731).trans C31
          have TP := TpR.s f70 hm TP
          refine w_iinc2 d335_71 rfl (by constructor <;> omega) ?_
          refine w_goto d335_74 ?_
          rw [show ((k2 : Nat) : Int) + 1 = ((k2 + 1 : Nat) : Int) by omega]
          refine w_less ?_ (IH46 _ (by omega) h70 (k2 + 1) rfl FR70 (by omega) (fun q hq => by rw [e70, sArr, if_neg (by omega)]; exact hc q hq) (fun q hq => by rw [e70, sArr]; by_cases z : q = k2; rw [if_pos (by omega), z]; rw [if_neg (by omega)]; exact hd2 q (by omega)) NF RS SX BR TE NI FO C31)
          exact ⟨Or.inr rfl, Or.inr rfl, Or.inr rfl, trivial⟩
      refine w_less ?_ (L46 _ g 0 rfl FRg (Nat.zero_le _) (fun q hq => hc q (by omega)) (fun q hq => absurd hq (Nat.not_lt_zero _)) NF RS SX BR TE NI FO C31)
      exact ⟨Or.inr rfl, Or.inr rfl, Or.inr rfl, trivial⟩
    · have hi : i < 9 := by omega
      have bi := b43 i hi
      refine w_aload_n d335_27 rfl ?_
      refine w_dloadS d335_28 (okg.kd hm) (fr1730 okg hm) ?_
      refine w_iload_n d335_31 rfl ?_
      refine w_aload_n d335_32 rfl ?_
      refine w_iload_n d335_33 rfl ?_
      refine w_callv2 d335_34 (by omega) rfl (s0 _ okg).1 (by simp) (Nat.le_of_ble_eq_true rfl) ?_
      refine r_charAtN (S := S) (by omega) (s0 _ okg) (by rw [t43]; exact hi) ?_
      refine wa1730 d335_37 okg hm (by omega) (by omega) (fun h37 e37 m37 => ?_)
      have e37 : h37 = sAI g (sT S 1730 m) i (((txt 43).getD i 0 : Nat) : Int) := e37
      have f37 : Fr S m [1730] _ _ := Fr.wB okg hm m37 (fun ζ e => ⟨1730, by decide, by decide, e ▸ U_refl⟩)
      have ok37 := f37.ok
      have FR37 := Fr.tr (F := [1664, 1665, 1666, 1667, 1668, 1669, 1670, 1671, 1672, 1673, 1674, 1675, 1676, 1677, 1678, 1679, 1680, 1681, 1682, 1683, 1684, 1685, 1686, 1687, 1688, 1689, 1690, 1691, 1692, 1693, 1694, 1695, 1696, 1697, 1698, 1699, 1700, 1701, 1702, 1703, 1704, 1705, 1706, 1707, 1708, 1709, 1710, 1711, 1712, 1713, 1714, 1715, 1716, 1717, 1718, 1719, 1720, 1721, 1722, 1723, 1724, 1725, 1726, 1727, 1730, 1731, 1732, 1733, 1734, 1735, 1736, 1737, 1738, 1739, 1740, 1741, 1742, 1743, 1744, 1745, 1746, 1747, 1748, 1749, 1750, 1751, 1752, 1753, 1754, 1755, 1756, 1757, 1758, 1759, 1760, 1761, 1762, 1763]) FRg f37 (by decide) trivial
      have NF := DfC.r (f := 1664) f37 hm (by decide) NF
      have RS := RsR.s f37 hm RS
      have SX := SxR.r f37 hm SX
      have BR := BR.r f37 hm
      have TE := TE.r f37 hm
      have NI := NI.r f37 hm
      have FO := OmS.r (f := 1669) f37 hm (Or.inr rfl) (by decide) FO
      have C31 := (f37.i 1731).trans C31
      have TP := TpR.s f37 hm TP
      refine w_iinc2 d335_38 rfl (by constructor <;> omega) ?_
      refine w_goto d335_41 ?_
      rw [show ((i : Nat) : Int) + 1 = ((i + 1 : Nat) : Int) by omega]
      refine w_less ?_ (IH19 _ (by omega) h37 (i + 1) rfl FR37 (by omega) (fun q hq => by rw [e37, sArr]; by_cases z : q = i; rw [if_pos z, z]; rw [if_neg z]; exact hc q (by omega)) NF RS SX BR TE NI FO C31)
      exact ⟨Or.inr rfl, Or.inr rfl, Or.inr rfl, trivial⟩
  refine w_less ?_ (L19 _ h14 0 rfl FR14 (Nat.zero_le _) (fun q hq => absurd hq (Nat.not_lt_zero _)) NF RS SX BR TE NI FO C31)
  exact ⟨Or.inr rfl, Or.inr rfl, Or.inr rfl, trivial⟩
