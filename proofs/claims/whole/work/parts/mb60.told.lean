/-! the reference: a told request is done -/
/-- the reference's house behind a told request that is admitted, and what it answers -/
noncomputable def caM (t : Nat) (a : ArV) (w : HoS) : HoS × List Nat :=
  if t = 0 then ((([], [], []), [], (w.2.2.1, (seNo w.2.2).2)), []) else if t = 1 then (((fsPut w.1.1 a.1 a.2.1, w.1.2), w.2), []) else if t = 2 then (((w.1.1.eraseIdx (fix w.1.1 a.1).toNat, w.1.2), w.2), [])
  else if t = 7 then ((w.1, w.2.1, (sePl w.2.2, w.2.2.2.1, w.2.2.2.2.1, seNd w.2.2, gonP w.2.2 (a.2.2.2 0).toNat)), endT (sePl w.2.2).2.2 (gonP w.2.2 (a.2.2.2 0).toNat).2.1 (rF (goR (gonP w.2.2 (a.2.2.2 0).toNat).1)) ((rT (goR (gonP w.2.2 (a.2.2.2 0).toNat).1)).map told))
  else caS 24 t a w
/-- what a request that is read right gives -/
def argP (l : List Nat) : Prop := (qrT l = 1 → (qrA l (qrN l)).1.length ≤ 12 ∧ qrX l + 1 ≤ txE l (qrX l) ∧ txE l (qrX l) ≤ l.length ∧ txE l (qrX l) - (qrX l + 1) ≤ 160) ∧ (qrT l = 3 → (qrA l (qrN l)).1.length ≤ 8 ∧ qrN l 0 ≤ 9999) ∧ (qrT l = 4 → tgoP (pDef l (qrB l)).2.2)
theorem endT_ne {ts : List (Bool × TgV)} {g : Bool} {f : Int} {y : List Nat} : endT ts g f y ≠ [] := by
  unfold endT
  split
  · exact (by decide : txt 5 ≠ [])
  · split
    · exact (by decide : txt 6 ≠ [])
    · exact fun z => absurd (List.append_eq_nil_iff.mp z).1 (by decide)
theorem txt20_ne {x : List Nat} : txt 20 ++ x ≠ [] := fun z => absurd (List.append_eq_nil_iff.mp z).1 (by decide)
theorem qrN_n (l : List Nat) (i : Nat) : ∃ v : Nat, qrN l i = (v : Int) := ⟨_, rfl⟩
/-- one rule less -/
theorem RsR.drop {S : Shp} {h h' : Hp} {m : Nat} {rs : List RuV} (D : RsR S h m rs) (fr : Fr S m [1720] h h') (hm : sK S m = 14) (e : FI h' 1720 m = ((rs.length - 1 : Nat) : Int)) : RsR S h' m rs.dropLast := by
  have k : ∀ f, f ∈ [1721, 1722, 1723, 1724, 1725] → AI h' (sT S f m) = AI h (sT S f m) := fun f hf => by
    have hf2 : fk f = 40 ∧ kFld f = 14 ∧ f < 4096 ∧ f ∉ [1720] := by revert f; decide
    have k := (fr.1.so.2.2.1 f m (by omega) (by omega)).1
    exact fr.ai (by omega) hf2.2.2.1 hf2.2.2.2 (by decide)
  have g : ∀ i, i < rs.dropLast.length → rs.dropLast[i]? = rs[i]? := fun i hi => by
    rw [List.getElem?_dropLast, if_pos (by rw [List.length_dropLast] at hi; exact hi)]
  refine ⟨by rw [e, List.length_dropLast], by rw [List.length_dropLast]; have := D.2.1; omega, fun i hi => ?_⟩
  have hi2 : i < rs.length := by rw [List.length_dropLast] at hi; omega
  obtain ⟨a1, a2, a3, a4, a5, a6⟩ := D.2.2 i hi2
  have e1 : rOf rs.dropLast i = rOf rs i := by unfold rOf; rw [List.getD_eq_getElem?_getD, List.getD_eq_getElem?_getD, g i hi]
  have e2 : rWh rs.dropLast i = rWh rs i := by unfold rWh; rw [List.getD_eq_getElem?_getD, List.getD_eq_getElem?_getD, g i hi]
  have e3 : rPa rs.dropLast i = rPa rs i := by unfold rPa; rw [List.getD_eq_getElem?_getD, List.getD_eq_getElem?_getD, g i hi]
  have e4 : rLo rs.dropLast i = rLo rs i := by unfold rLo; rw [List.getD_eq_getElem?_getD, List.getD_eq_getElem?_getD, g i hi]
  have e5 : rHi rs.dropLast i = rHi rs i := by unfold rHi; rw [List.getD_eq_getElem?_getD, List.getD_eq_getElem?_getD, g i hi]
  rw [e1, e2, e3, e4, e5, k 1721 (by decide), k 1722 (by decide), k 1723 (by decide), k 1724 (by decide), k 1725 (by decide)]
  exact ⟨a1, a2, a3, a4, a5, a6⟩
/-- a target taken away -/
theorem DfC.drop {S : Shp} {h h' : Hp} {d u : Nat} {N0 : PlV} (D : DfC S h d N0) (hd : sK S d = 12) (ok : Ok S h) (hu : u < N0.2.2.length) (e0 : h' = sAI h (sT S 1420 d) u 0) (mo : Mo S (fun y => y = sT S 1420 d) h h') : DfC S h' d (N0.1, N0.2.1, N0.2.2.set u (false, tD N0.2.2 u)) := by
  have fr : Fr S d [1420] h h' := Fr.wBd ok hd mo (fun y q => ⟨1420, by decide, by decide, q ▸ U_refl⟩)
  refine ⟨D.1.r fr hd, D.2.1.r fr hd, (fr.i 1417).trans (by rw [D.2.2.1, List.length_set]), by rw [List.length_set]; exact D.2.2.2.1, fun t ht => ?_⟩
  rw [List.length_set] at ht
  obtain ⟨a1, a2, a3, a4, a5, a6, a7, a8, a9, a10, a11, a12, a13, a14, a15, a16, a17⟩ := D.2.2.2.2 t ht
  have q5 : ltF4 [1420] := by decide
  have e : ∀ f, f ∈ [1419, 1421, 1423, 1424, 1425, 1427, 1429, 1430] → AI h' (sT S f d) = AI h (sT S f d) := fun f hf => by
    have hf2 : (fk f = 40 ∨ fk f = 42) ∧ kFld f = 12 ∧ f < 4096 ∧ f ∉ [1420] := by
      revert f; decide
    have k := (fr.1.so.2.2.1 f d (by omega) (by omega)).1
    exact fr.ai (by omega) hf2.2.2.1 hf2.2.2.2 q5
  have s := tH_set N0.2.2 (false, tD N0.2.2 u) u t hu
  have eD : tD (N0.2.2.set u (false, tD N0.2.2 u)) t = tD N0.2.2 t := by
    rw [s.2]
    by_cases q : t = u
    · rw [if_pos q, q]
    · rw [if_neg q]
  have eH : AI h' (sT S 1420 d) t = b2i (tH (N0.2.2.set u (false, tD N0.2.2 u)) t) := by
    rw [s.1, e0, sArr]
    by_cases q : t = u
    · rw [if_pos q, if_pos q]; rfl
    · rw [if_neg q, if_neg q]; exact a4
  rw [eD]
  refine ⟨by rw [e 1419 (by decide)]; exact a1, a2, fr.sg (by decide) (by decide) q5 a3, eH, by rw [e 1421 (by decide)]; exact a5, a6, by rw [e 1423 (by decide)]; exact a7, a8, fr.sg (by decide) (by decide) q5 a9, by rw [e 1424 (by decide)]; exact a10, a11, fun k hk => ?_, by rw [e 1429 (by decide)]; exact a13, a14, fr.sg (by decide) (by decide) q5 a15, by rw [e 1430 (by decide)]; exact a16, a17⟩
  obtain ⟨b1, b2, b3, b4⟩ := a12 k hk
  exact ⟨by rw [e 1425 (by decide)]; exact b1, by rw [e 1427 (by decide)]; exact b2, b3, fr.sg (by decide) (by decide) q5 b4⟩
theorem tat_tix {ts : List (Bool × TgV)} {n : List Nat} (h : 0 ≤ tat ts n) : tix ts n = tat ts n := by
  unfold tat ifH at h ⊢
  split
  · rfl
  · rename_i q; rw [if_neg q] at h; omega
theorem dec_ne (n : Nat) : dec n ≠ [] := fun z => by
  unfold dec dgs at z
  have := congrArg List.length z
  simp at this
theorem relTxt_ne {o n : OutV} {e : Nat → Nat} : relTxt o n e ≠ [] := fun z => by
  unfold relTxt ediTxt at z
  exact dec_ne _ (List.append_eq_nil_iff.mp (List.append_eq_nil_iff.mp (List.append_eq_nil_iff.mp z).2).2).2
theorem d237_0 : dc 237 0 = some (.aload_n 0, 1) := by decide +kernel
theorem d237_1 : dc 237 1 = some (.getfield 1739, 4) := by decide +kernel
theorem d237_4 : dc 237 4 = some (.tableswitch ((203 : Nat) : Int) 0 11 #[((68 : Nat) : Int), ((75 : Nat) : Int), ((82 : Nat) : Int), ((113 : Nat) : Int), ((120 : Nat) : Int), ((127 : Nat) : Int), ((143 : Nat) : Int), ((154 : Nat) : Int), ((159 : Nat) : Int), ((181 : Nat) : Int), ((198 : Nat) : Int), ((198 : Nat) : Int)], 68) := by decide +kernel
theorem d237_68 : dc 237 68 = some (.aload_n 0, 69) := by decide +kernel
theorem d237_69 : dc 237 69 = some (.invokevirtual 192, 72) := by decide +kernel
theorem d237_72 : dc 237 72 = some (.goto ((213 : Nat) : Int), 75) := by decide +kernel
theorem d237_75 : dc 237 75 = some (.aload_n 0, 76) := by decide +kernel
theorem d237_76 : dc 237 76 = some (.invokevirtual 238, 79) := by decide +kernel
theorem d237_79 : dc 237 79 = some (.goto ((213 : Nat) : Int), 82) := by decide +kernel
theorem d237_82 : dc 237 82 = some (.aload_n 0, 83) := by decide +kernel
theorem d237_83 : dc 237 83 = some (.aload_n 0, 84) := by decide +kernel
theorem d237_84 : dc 237 84 = some (.dload 1664, 87) := by decide +kernel
theorem d237_87 : dc 237 87 = some (.aload_n 0, 88) := by decide +kernel
theorem d237_88 : dc 237 88 = some (.dload 1730, 91) := by decide +kernel
theorem d237_91 : dc 237 91 = some (.aload_n 0, 92) := by decide +kernel
theorem d237_92 : dc 237 92 = some (.getfield 1742, 95) := by decide +kernel
theorem d237_95 : dc 237 95 = some (.aload_n 0, 96) := by decide +kernel
theorem d237_96 : dc 237 96 = some (.getfield 1743, 99) := by decide +kernel
theorem d237_99 : dc 237 99 = some (.aload_n 0, 100) := by decide +kernel
theorem d237_100 : dc 237 100 = some (.getfield 1742, 103) := by decide +kernel
theorem d237_103 : dc 237 103 = some (.isub, 104) := by decide +kernel
theorem d237_104 : dc 237 104 = some (.invokevirtual 225, 107) := by decide +kernel
theorem d237_107 : dc 237 107 = some (.invokevirtual 239, 110) := by decide +kernel
theorem d237_110 : dc 237 110 = some (.goto ((213 : Nat) : Int), 113) := by decide +kernel
theorem d237_113 : dc 237 113 = some (.aload_n 0, 114) := by decide +kernel
theorem d237_114 : dc 237 114 = some (.invokevirtual 240, 117) := by decide +kernel
theorem d237_117 : dc 237 117 = some (.goto ((213 : Nat) : Int), 120) := by decide +kernel
theorem d237_120 : dc 237 120 = some (.aload_n 0, 121) := by decide +kernel
theorem d237_121 : dc 237 121 = some (.invokevirtual 241, 124) := by decide +kernel
theorem d237_124 : dc 237 124 = some (.goto ((213 : Nat) : Int), 127) := by decide +kernel
theorem d237_127 : dc 237 127 = some (.aload_n 0, 128) := by decide +kernel
theorem d237_128 : dc 237 128 = some (.dload 1664, 131) := by decide +kernel
theorem d237_131 : dc 237 131 = some (.dload 1420, 134) := by decide +kernel
theorem d237_134 : dc 237 134 = some (.aload_n 0, 135) := by decide +kernel
theorem d237_135 : dc 237 135 = some (.invokevirtual 221, 138) := by decide +kernel
theorem d237_138 : dc 237 138 = some (.iconst 0, 139) := by decide +kernel
theorem d237_139 : dc 237 139 = some (.bastore, 140) := by decide +kernel
theorem d237_140 : dc 237 140 = some (.goto ((213 : Nat) : Int), 143) := by decide +kernel
theorem d237_143 : dc 237 143 = some (.aload_n 0, 144) := by decide +kernel
theorem d237_144 : dc 237 144 = some (.aload_n 0, 145) := by decide +kernel
theorem d237_145 : dc 237 145 = some (.invokevirtual 221, 148) := by decide +kernel
theorem d237_148 : dc 237 148 = some (.invokevirtual 242, 151) := by decide +kernel
theorem d237_151 : dc 237 151 = some (.goto ((213 : Nat) : Int), 154) := by decide +kernel
theorem d237_154 : dc 237 154 = some (.aload_n 0, 155) := by decide +kernel
theorem d237_155 : dc 237 155 = some (.invokevirtual 245, 158) := by decide +kernel
theorem d237_158 : dc 237 158 = some (.return_, 159) := by decide +kernel
theorem d237_159 : dc 237 159 = some (.aload_n 0, 160) := by decide +kernel
theorem d237_160 : dc 237 160 = some (.iconst 0, 161) := by decide +kernel
theorem d237_161 : dc 237 161 = some (.putstatic 1704, 164) := by decide +kernel
theorem d237_164 : dc 237 164 = some (.aload_n 0, 165) := by decide +kernel
theorem d237_165 : dc 237 165 = some (.dload 1713, 168) := by decide +kernel
theorem d237_168 : dc 237 168 = some (.iconst 0, 169) := by decide +kernel
theorem d237_169 : dc 237 169 = some (.iconst (-1), 170) := by decide +kernel
theorem d237_170 : dc 237 170 = some (.iastore, 171) := by decide +kernel
theorem d237_171 : dc 237 171 = some (.aload_n 0, 172) := by decide +kernel
theorem d237_172 : dc 237 172 = some (.dload 1713, 175) := by decide +kernel
theorem d237_175 : dc 237 175 = some (.iconst 1, 176) := by decide +kernel
theorem d237_176 : dc 237 176 = some (.iconst (-1), 177) := by decide +kernel
theorem d237_177 : dc 237 177 = some (.iastore, 178) := by decide +kernel
theorem d237_178 : dc 237 178 = some (.goto ((213 : Nat) : Int), 181) := by decide +kernel
theorem d237_181 : dc 237 181 = some (.aload_n 0, 182) := by decide +kernel
theorem d237_182 : dc 237 182 = some (.aload_n 0, 183) := by decide +kernel
theorem d237_183 : dc 237 183 = some (.aload_n 0, 184) := by decide +kernel
theorem d237_184 : dc 237 184 = some (.getfield 1742, 187) := by decide +kernel
theorem d237_187 : dc 237 187 = some (.aload_n 0, 188) := by decide +kernel
theorem d237_188 : dc 237 188 = some (.getfield 1743, 191) := by decide +kernel
theorem d237_191 : dc 237 191 = some (.invokevirtual 222, 194) := by decide +kernel
theorem d237_194 : dc 237 194 = some (.invokevirtual 295, 197) := by decide +kernel
theorem d237_197 : dc 237 197 = some (.return_, 198) := by decide +kernel
theorem d237_198 : dc 237 198 = some (.aload_n 0, 199) := by decide +kernel
theorem d237_199 : dc 237 199 = some (.invokevirtual 299, 202) := by decide +kernel
theorem d237_202 : dc 237 202 = some (.return_, 203) := by decide +kernel
theorem d237_203 : dc 237 203 = some (.aload_n 0, 204) := by decide +kernel
theorem d237_204 : dc 237 204 = some (.dup, 205) := by decide +kernel
theorem d237_205 : dc 237 205 = some (.getfield 1720, 208) := by decide +kernel
theorem d237_208 : dc 237 208 = some (.iconst 1, 209) := by decide +kernel
theorem d237_209 : dc 237 209 = some (.isub, 210) := by decide +kernel
theorem d237_210 : dc 237 210 = some (.putfield 1720, 213) := by decide +kernel
theorem d237_213 : dc 237 213 = some (.aload_n 0, 214) := by decide +kernel
theorem d237_214 : dc 237 214 = some (.getstatic 86, 217) := by decide +kernel
theorem d237_217 : dc 237 217 = some (.invokevirtual 217, 220) := by decide +kernel
theorem d237_220 : dc 237 220 = some (.return_, 221) := by decide +kernel
theorem k_M_tell {S : Shp} {G : Nat → Option Nat} {d : Nat} {h : Hp} {Q : Option MV → Hp → Prop} {m : Nat} {w : HoS} {l la : List Nat} (ok : Ok S h) (h1 : 18 ≤ d) (hm : sK S m = 14) (NF : DfC S h (sT S 1664 m) w.1) (RS : RsR S h m w.2.1) (SX : SxR S h m w.2.2) (TE : TeR S h m la) (RQ : RqR S h m l) (NK : FI h 1739 m = ((qrT l : Nat) : Int)) (RD : RdF S h m l (qrB l) (qrT l)) (tg : Tg S G) (ht : qrT l ≤ 12) (hok : refN (qrT l) w.1 w.2.1 (seGo w.2.2).1 (seOn w.2.2) (qrA l (qrN l)).1 (qrA l (qrN l)).2.2.1 (qrA l (qrN l)).2.2.2 (ciB w.1.2.2 (qrA l (qrN l)).2.2.1) = 19) (ag : argP l) (W7 : qrT l = 7 → gowP w.2.2 (qrN l 0).toNat) (W9 : ∀ t i, w.2.2.2.2.1 t i < 2147483647)
    (kk : ∀ h', Fr S m [1664, 1665, 1666, 1667, 1668, 1670, 1671, 1672, 1673, 1674, 1675, 1676, 1677, 1678, 1679, 1680, 1681, 1682, 1683, 1684, 1685, 1686, 1687, 1688, 1689, 1690, 1691, 1692, 1693, 1694, 1695, 1696, 1697, 1698, 1699, 1700, 1701, 1702, 1703, 1704, 1705, 1706, 1707, 1708, 1709, 1710, 1711, 1712, 1713, 1714, 1715, 1716, 1717, 1718, 1719, 1720, 1721, 1722, 1723, 1724, 1725, 1732, 1733] h h' → DfC S h' (sT S 1664 m) (caM (qrT l) (qrA l (qrN l)) w).1.1 → RsR S h' m (caM (qrT l) (qrA l (qrN l)) w).1.2.1 → SxR S h' m (caM (qrT l) (qrA l (qrN l)) w).1.2.2 → TeR S h' m (addBs 20000 la (if (caM (qrT l) (qrA l (qrN l)) w).2 = [] then txt 36 else (caM (qrT l) (qrA l (qrN l)) w).2)) → Q none h') : Cl G d 237 [vR (some m)] h Q := by
  show Wp G d 237 0 [some (vR (some m))] [] h Q
  have NF_0 := NF
  have RS_0 := RS
  have SX_0 := SX
  have TE_0 := TE
  have RQ_0 := RQ
  have NK_0 := NK
  have hd0 := kT1664 ok hm
  have rq9 := RQ.2.1
  refine w_aload_n d237_0 rfl ?_
  refine w_getI (x := ((qrT l : Nat) : Int)) d237_1 (ok.kd hm) NK ?_
  have L213 : ∀ (m213 : Nat) (g : Hp) , 0 = m213 → Fr S m [1664, 1665, 1666, 1667, 1668, 1670, 1671, 1672, 1673, 1674, 1675, 1676, 1677, 1678, 1679, 1680, 1681, 1682, 1683, 1684, 1685, 1686, 1687, 1688, 1689, 1690, 1691, 1692, 1693, 1694, 1695, 1696, 1697, 1698, 1699, 1700, 1701, 1702, 1703, 1704, 1705, 1706, 1707, 1708, 1709, 1710, 1711, 1712, 1713, 1714, 1715, 1716, 1717, 1718, 1719, 1720, 1721, 1722, 1723, 1724, 1725, 1732, 1733] h g → (DfC S g (sT S 1664 m) (caM (qrT l) (qrA l (qrN l)) w).1.1) → (RsR S g m (caM (qrT l) (qrA l (qrN l)) w).1.2.1) → (SxR S g m (caM (qrT l) (qrA l (qrN l)) w).1.2.2) → (TeR S g m la) → ((caM (qrT l) (qrA l (qrN l)) w).2 = []) → Wp G d 237 213 [some (vR (some m))] [] g Q := by
    intro m213
    induction m213 using Nat.strongRecOn with | ind m213 IH213 => ?_
    intro g  hm213 FRg NF RS SX TE e2
    have okg := FRg.ok
    have RQ := RQ_0.r FRg hm
    have NK := (FRg.i 1739).trans NK_0
    refine w_aload_n d237_213 rfl ?_
    obtain ⟨g214, v214, s214⟩ := tg.al okg 36 (by decide)
    refine w_getstaticS d237_214 v214 ?_
    refine w_callv2 d237_217 (by omega) rfl (okg.kd hm) (by simp) (Nat.le_of_ble_eq_true rfl) ?_
    refine k_M_say okg (by omega) hm TE s214 (fun h217 m217 q217 TE => ?_)
    have f217 : Fr S m [1732, 1733] _ _ := Fr.mk okg m217 (fun ζ q => q.elim ((fun ζ e => Or.inl e) ζ) ((fun ζ e => Or.inr ⟨1732, by decide, e ▸ U_refl⟩) ζ)) q217 (by decide)
    have ok217 := f217.ok
    have FR217 := Fr.tr (F := [1664, 1665, 1666, 1667, 1668, 1670, 1671, 1672, 1673, 1674, 1675, 1676, 1677, 1678, 1679, 1680, 1681, 1682, 1683, 1684, 1685, 1686, 1687, 1688, 1689, 1690, 1691, 1692, 1693, 1694, 1695, 1696, 1697, 1698, 1699, 1700, 1701, 1702, 1703, 1704, 1705, 1706, 1707, 1708, 1709, 1710, 1711, 1712, 1713, 1714, 1715, 1716, 1717, 1718, 1719, 1720, 1721, 1722, 1723, 1724, 1725, 1732, 1733]) FRg f217 (by decide) (by decide)
    have RQ := RQ.r f217 hm
    have NK := (f217.i 1739).trans NK
    have NF := DfC.r (f := 1664) f217 hm (by decide) NF
    have RS := RsR.s f217 hm RS
    have SX := SxR.r f217 hm SX
    refine w_return d237_220 ?_
    refine kk _ FR217 NF RS SX ?_
    rw [if_pos e2]
    exact TE
  by_cases s0 : qrT l = 0
  · refine w_tsw 68 d237_4 (by rw [s0]; decide) ?_
    refine w_aload_n d237_68 rfl ?_
    refine w_callv1 d237_69 (by omega) rfl (ok.kd hm) (by simp) (Nat.le_of_ble_eq_true rfl) ?_
    refine k_M_clearN ok (by omega) hm SX (fun h69 f69 NF SX RS => ?_)
    have ok69 := f69.ok
    have FR69 := Fr.le (F := [1664, 1665, 1666, 1667, 1668, 1670, 1671, 1672, 1673, 1674, 1675, 1676, 1677, 1678, 1679, 1680, 1681, 1682, 1683, 1684, 1685, 1686, 1687, 1688, 1689, 1690, 1691, 1692, 1693, 1694, 1695, 1696, 1697, 1698, 1699, 1700, 1701, 1702, 1703, 1704, 1705, 1706, 1707, 1708, 1709, 1710, 1711, 1712, 1713, 1714, 1715, 1716, 1717, 1718, 1719, 1720, 1721, 1722, 1723, 1724, 1725, 1732, 1733]) f69 (by decide)
    have TE := TE.r f69 hm
    have RQ := RQ.r f69 hm
    have NK := (f69.i 1739).trans NK
    have nf : DfC S h69 (sT S 1664 m) (caM (qrT l) (qrA l (qrN l)) w).1.1 := by unfold caM; rw [if_pos (by omega)]; exact NF
    have rs : RsR S h69 m (caM (qrT l) (qrA l (qrN l)) w).1.2.1 := by unfold caM; rw [if_pos (by omega)]; exact RS
    have sx : SxR S h69 m (caM (qrT l) (qrA l (qrN l)) w).1.2.2 := by unfold caM; rw [if_pos (by omega)]; exact SX
    have te : TeR S h69 m la := TE
    have e2 : (caM (qrT l) (qrA l (qrN l)) w).2 = [] := by unfold caM; rw [if_pos (by omega)]
    refine w_goto d237_72 ?_
    refine w_less ?_ (L213 _ h69  rfl FR69 nf rs sx te e2)
    exact ⟨Or.inr rfl, trivial⟩
  by_cases s1 : qrT l = 1
  · refine w_tsw 75 d237_4 (by rw [s1]; decide) ?_
    obtain ⟨f, e, NM, o1, o2, eN⟩ := RD.1 (by rw [s1]; decide)
    have eN : sl l f e = (qrA l (qrN l)).1 := eN
    have nl := sl_len ⟨o1, o2⟩
    rw [eN] at nl
    have hn : f + (qrA l (qrN l)).1.length = e := by omega
    have sg : SgC S h (sT S 1730 m) f (qrA l (qrN l)).1 := by rw [← eN]; exact RQ.2.2.sub ⟨o1, o2⟩
    have r := hok
    unfold refN at r
    rw [if_pos (by omega)] at r
    refine w_aload_n d237_75 rfl ?_
    refine w_callv1 d237_76 (by omega) rfl (ok.kd hm) (by simp) (Nat.le_of_ble_eq_true rfl) ?_
    refine k_M_putFileN ok (by omega) hm NM sg NF RQ (RD.2.1 s1).1 (RD.2.1 s1).2 hn (ag.1 s1).1 (ag.1 s1).2 (fun z => by by_cases q : fix w.1.1 (qrA l (qrN l)).1 < 0 ∧ 16 ≤ w.1.1.length; rw [if_pos q] at r; omega; omega) (fun h76 f76 NF => ?_)
    have ok76 := f76.ok
    have FR76 := Fr.le (F := [1664, 1665, 1666, 1667, 1668, 1670, 1671, 1672, 1673, 1674, 1675, 1676, 1677, 1678, 1679, 1680, 1681, 1682, 1683, 1684, 1685, 1686, 1687, 1688, 1689, 1690, 1691, 1692, 1693, 1694, 1695, 1696, 1697, 1698, 1699, 1700, 1701, 1702, 1703, 1704, 1705, 1706, 1707, 1708, 1709, 1710, 1711, 1712, 1713, 1714, 1715, 1716, 1717, 1718, 1719, 1720, 1721, 1722, 1723, 1724, 1725, 1732, 1733]) f76 (by decide)
    have RS := RsR.s f76 hm RS
    have SX := SxR.r f76 hm SX
    have TE := TE.r f76 hm
    have RQ := RQ.r f76 hm
    have NK := (f76.i 1739).trans NK
    have nf : DfC S h76 (sT S 1664 m) (caM (qrT l) (qrA l (qrN l)) w).1.1 := by unfold caM; rw [if_neg (by omega), if_pos (by omega)]; exact NF
    have rs : RsR S h76 m (caM (qrT l) (qrA l (qrN l)) w).1.2.1 := by unfold caM; rw [if_neg (by omega), if_pos (by omega)]; exact RS
    have sx : SxR S h76 m (caM (qrT l) (qrA l (qrN l)) w).1.2.2 := by unfold caM; rw [if_neg (by omega), if_pos (by omega)]; exact SX
    have te : TeR S h76 m la := TE
    have e2 : (caM (qrT l) (qrA l (qrN l)) w).2 = [] := by unfold caM; rw [if_neg (by omega), if_pos (by omega)]
    refine w_goto d237_79 ?_
    refine w_less ?_ (L213 _ h76  rfl FR76 nf rs sx te e2)
    exact ⟨Or.inr rfl, trivial⟩
  by_cases s2 : qrT l = 2
  · refine w_tsw 82 d237_4 (by rw [s2]; decide) ?_
    obtain ⟨f, e, NM, o1, o2, eN⟩ := RD.1 (by rw [s2]; decide)
    have eN : sl l f e = (qrA l (qrN l)).1 := eN
    have nl := sl_len ⟨o1, o2⟩
    rw [eN] at nl
    have hn : f + (qrA l (qrN l)).1.length = e := by omega
    have sg : SgC S h (sT S 1730 m) f (qrA l (qrN l)).1 := by rw [← eN]; exact RQ.2.2.sub ⟨o1, o2⟩
    have r := hok
    unfold refN at r
    rw [if_neg (by omega), if_pos (by omega)] at r
    have fr_ := fix_rg w.1.1 (qrA l (qrN l)).1
    obtain ⟨j, hj⟩ : ∃ j : Nat, fix w.1.1 (qrA l (qrN l)).1 = (j : Int) := ⟨(fix w.1.1 (qrA l (qrN l)).1).toNat, by by_cases q : fix w.1.1 (qrA l (qrN l)).1 < 0; rw [if_pos q] at r; omega; omega⟩
    refine w_aload_n d237_82 rfl ?_
    refine w_aload_n d237_83 rfl ?_
    refine w_dloadS d237_84 (ok.kd hm) (fr1664 ok hm) ?_
    refine w_aload_n d237_87 rfl ?_
    refine w_dloadS d237_88 (ok.kd hm) (fr1730 ok hm) ?_
    refine w_aload_n d237_91 rfl ?_
    refine w_getI (x := ((f : Nat) : Int)) d237_92 (ok.kd hm) NM.1 ?_
    refine w_aload_n d237_95 rfl ?_
    refine w_getI (x := ((e : Nat) : Int)) d237_96 (ok.kd hm) NM.2 ?_
    refine w_aload_n d237_99 rfl ?_
    refine w_getI (x := ((f : Nat) : Int)) d237_100 (ok.kd hm) NM.1 ?_
    refine w_isub d237_103 (by constructor <;> omega) ?_
    rw [show ((e : Nat) : Int) - ((f : Nat) : Int) = (((qrA l (qrN l)).1.length : Nat) : Int) by omega]
    refine w_callv4 d237_104 (by omega) rfl (ok.kd (kT1664 ok hm)) (by simp) (Nat.le_of_ble_eq_true rfl) ?_
    refine k_D_file ok (by omega) (kT1664 ok hm) NF.1 rfl sg ?_
    rw [hj]
    refine w_callv2 d237_107 (by omega) rfl (ok.kd hm) (by simp) (Nat.le_of_ble_eq_true rfl) ?_
    refine k_M_removeFileN (f := j) ok (by omega) hm NF (by omega) (fun h107 f107 NF => ?_)
    have ok107 := f107.ok
    have FR107 := Fr.le (F := [1664, 1665, 1666, 1667, 1668, 1670, 1671, 1672, 1673, 1674, 1675, 1676, 1677, 1678, 1679, 1680, 1681, 1682, 1683, 1684, 1685, 1686, 1687, 1688, 1689, 1690, 1691, 1692, 1693, 1694, 1695, 1696, 1697, 1698, 1699, 1700, 1701, 1702, 1703, 1704, 1705, 1706, 1707, 1708, 1709, 1710, 1711, 1712, 1713, 1714, 1715, 1716, 1717, 1718, 1719, 1720, 1721, 1722, 1723, 1724, 1725, 1732, 1733]) f107 (by decide)
    have RS := RsR.s f107 hm RS
    have SX := SxR.r f107 hm SX
    have TE := TE.r f107 hm
    have RQ := RQ.r f107 hm
    have NK := (f107.i 1739).trans NK
    have nf : DfC S h107 (sT S 1664 m) (caM (qrT l) (qrA l (qrN l)) w).1.1 := by unfold caM; rw [if_neg (by omega), if_neg (by omega), if_pos (by omega)]; exact (by rw [show (fix w.1.1 (qrA l (qrN l)).1).toNat = j by omega]; exact NF)
    have rs : RsR S h107 m (caM (qrT l) (qrA l (qrN l)) w).1.2.1 := by unfold caM; rw [if_neg (by omega), if_neg (by omega), if_pos (by omega)]; exact RS
    have sx : SxR S h107 m (caM (qrT l) (qrA l (qrN l)) w).1.2.2 := by unfold caM; rw [if_neg (by omega), if_neg (by omega), if_pos (by omega)]; exact SX
    have te : TeR S h107 m la := TE
    have e2 : (caM (qrT l) (qrA l (qrN l)) w).2 = [] := by unfold caM; rw [if_neg (by omega), if_neg (by omega), if_pos (by omega)]
    refine w_goto d237_110 ?_
    refine w_less ?_ (L213 _ h107  rfl FR107 nf rs sx te e2)
    exact ⟨Or.inr rfl, trivial⟩
  by_cases s3 : qrT l = 3
  · refine w_tsw 113 d237_4 (by rw [s3]; decide) ?_
    obtain ⟨f, e, NM, o1, o2, eN⟩ := RD.1 (by rw [s3]; decide)
    have eN : sl l f e = (qrA l (qrN l)).1 := eN
    have nl := sl_len ⟨o1, o2⟩
    rw [eN] at nl
    have hn : f + (qrA l (qrN l)).1.length = e := by omega
    have sg : SgC S h (sT S 1730 m) f (qrA l (qrN l)).1 := by rw [← eN]; exact RQ.2.2.sub ⟨o1, o2⟩
    have r := hok
    unfold refN at r
    rw [if_neg (by omega), if_neg (by omega), if_pos (by omega)] at r
    have vv := (ag.2.1 s3).2
    refine w_aload_n d237_113 rfl ?_
    refine w_callv1 d237_114 (by omega) rfl (ok.kd hm) (by simp) (Nat.le_of_ble_eq_true rfl) ?_
    refine k_M_setFlagN (v := (qrN l 0).toNat) ok (by omega) hm NM sg NF (RD.2.2.2.2.1 0 (by rw [s3]; decide)) hn (ag.2.1 s3).1 (by omega) (fun z => by by_cases q : gix w.1.2.1 (qrA l (qrN l)).1 < 0 ∧ 6 ≤ w.1.2.1.length; rw [if_pos q] at r; omega; omega) (fun h114 f114 NF => ?_)
    have ok114 := f114.ok
    have FR114 := Fr.le (F := [1664, 1665, 1666, 1667, 1668, 1670, 1671, 1672, 1673, 1674, 1675, 1676, 1677, 1678, 1679, 1680, 1681, 1682, 1683, 1684, 1685, 1686, 1687, 1688, 1689, 1690, 1691, 1692, 1693, 1694, 1695, 1696, 1697, 1698, 1699, 1700, 1701, 1702, 1703, 1704, 1705, 1706, 1707, 1708, 1709, 1710, 1711, 1712, 1713, 1714, 1715, 1716, 1717, 1718, 1719, 1720, 1721, 1722, 1723, 1724, 1725, 1732, 1733]) f114 (by decide)
    have RS := RsR.s f114 hm RS
    have SX := SxR.r f114 hm SX
    have TE := TE.r f114 hm
    have RQ := RQ.r f114 hm
    have NK := (f114.i 1739).trans NK
    have nf : DfC S h114 (sT S 1664 m) (caM (qrT l) (qrA l (qrN l)) w).1.1 := by unfold caM; rw [if_neg (by omega), if_neg (by omega), if_neg (by omega), if_neg (by omega)]; unfold caS; rw [if_neg (by omega), if_neg (by omega), if_neg (by omega), if_pos (by omega)]; exact NF
    have rs : RsR S h114 m (caM (qrT l) (qrA l (qrN l)) w).1.2.1 := by unfold caM; rw [if_neg (by omega), if_neg (by omega), if_neg (by omega), if_neg (by omega)]; unfold caS; rw [if_neg (by omega), if_neg (by omega), if_neg (by omega), if_pos (by omega)]; exact RS
    have sx : SxR S h114 m (caM (qrT l) (qrA l (qrN l)) w).1.2.2 := by unfold caM; rw [if_neg (by omega), if_neg (by omega), if_neg (by omega), if_neg (by omega)]; unfold caS; rw [if_neg (by omega), if_neg (by omega), if_neg (by omega), if_pos (by omega)]; exact SX
    have te : TeR S h114 m la := TE
    have e2 : (caM (qrT l) (qrA l (qrN l)) w).2 = [] := by unfold caM; rw [if_neg (by omega), if_neg (by omega), if_neg (by omega), if_neg (by omega)]; unfold caS; rw [if_neg (by omega), if_neg (by omega), if_neg (by omega), if_pos (by omega)]
    refine w_goto d237_117 ?_
    refine w_less ?_ (L213 _ h114  rfl FR114 nf rs sx te e2)
    exact ⟨Or.inr rfl, trivial⟩
  by_cases s4 : qrT l = 4
  · refine w_tsw 120 d237_4 (by rw [s4]; decide) ?_
    have r := hok
    unfold refN at r
    rw [if_neg (by omega), if_neg (by omega), if_neg (by omega), if_pos (by omega)] at r
    refine w_aload_n d237_120 rfl ?_
    refine w_callv1 d237_121 (by omega) rfl (ok.kd hm) (by simp) (Nat.le_of_ble_eq_true rfl) ?_
    refine k_M_setTargetN (D := (pDef l (qrB l)).2.2) ok (by omega) hm NF RQ (RD.2.2.1 s4) tg (ag.2.2 s4) (by by_cases q : rix (tgR (qrA l (qrN l)).2.2.1) < 0; rw [if_pos q] at r; omega; exact Int.not_lt.mp q) (fun z => by rw [if_neg (by intro y; rw [if_pos y] at r; omega)] at r; rw [if_neg (by intro y; rw [if_pos y] at r; omega)] at r; refine Nat.not_le.mp (fun y => ?_); rw [if_pos ⟨z, y⟩] at r; omega) (fun h121 f121 NF => ?_)
    have ok121 := f121.ok
    have FR121 := Fr.le (F := [1664, 1665, 1666, 1667, 1668, 1670, 1671, 1672, 1673, 1674, 1675, 1676, 1677, 1678, 1679, 1680, 1681, 1682, 1683, 1684, 1685, 1686, 1687, 1688, 1689, 1690, 1691, 1692, 1693, 1694, 1695, 1696, 1697, 1698, 1699, 1700, 1701, 1702, 1703, 1704, 1705, 1706, 1707, 1708, 1709, 1710, 1711, 1712, 1713, 1714, 1715, 1716, 1717, 1718, 1719, 1720, 1721, 1722, 1723, 1724, 1725, 1732, 1733]) f121 (by decide)
    have RS := RsR.s f121 hm RS
    have SX := SxR.r f121 hm SX
    have TE := TE.r f121 hm
    have RQ := RQ.r f121 hm
    have NK := (f121.i 1739).trans NK
    have nf : DfC S h121 (sT S 1664 m) (caM (qrT l) (qrA l (qrN l)) w).1.1 := by unfold caM; rw [if_neg (by omega), if_neg (by omega), if_neg (by omega), if_neg (by omega)]; unfold caS; rw [if_neg (by omega), if_neg (by omega), if_neg (by omega), if_neg (by omega), if_pos (by omega)]; exact NF
    have rs : RsR S h121 m (caM (qrT l) (qrA l (qrN l)) w).1.2.1 := by unfold caM; rw [if_neg (by omega), if_neg (by omega), if_neg (by omega), if_neg (by omega)]; unfold caS; rw [if_neg (by omega), if_neg (by omega), if_neg (by omega), if_neg (by omega), if_pos (by omega)]; exact RS
    have sx : SxR S h121 m (caM (qrT l) (qrA l (qrN l)) w).1.2.2 := by unfold caM; rw [if_neg (by omega), if_neg (by omega), if_neg (by omega), if_neg (by omega)]; unfold caS; rw [if_neg (by omega), if_neg (by omega), if_neg (by omega), if_neg (by omega), if_pos (by omega)]; exact SX
    have te : TeR S h121 m la := TE
    have e2 : (caM (qrT l) (qrA l (qrN l)) w).2 = [] := by unfold caM; rw [if_neg (by omega), if_neg (by omega), if_neg (by omega), if_neg (by omega)]; unfold caS; rw [if_neg (by omega), if_neg (by omega), if_neg (by omega), if_neg (by omega), if_pos (by omega)]
    refine w_goto d237_124 ?_
    refine w_less ?_ (L213 _ h121  rfl FR121 nf rs sx te e2)
    exact ⟨Or.inr rfl, trivial⟩
  by_cases s5 : qrT l = 5
  · refine w_tsw 127 d237_4 (by rw [s5]; decide) ?_
    obtain ⟨f, e, NM, o1, o2, eN⟩ := RD.1 (by rw [s5]; decide)
    have eN : sl l f e = (qrA l (qrN l)).1 := eN
    have nl := sl_len ⟨o1, o2⟩
    rw [eN] at nl
    have hn : f + (qrA l (qrN l)).1.length = e := by omega
    have sg : SgC S h (sT S 1730 m) f (qrA l (qrN l)).1 := by rw [← eN]; exact RQ.2.2.sub ⟨o1, o2⟩
    have r := hok
    unfold refN at r
    rw [if_neg (by omega), if_neg (by omega), if_neg (by omega), if_neg (by omega), if_pos (by omega)] at r
    have tr := tat_rg w.1.2.2 (qrA l (qrN l)).1
    obtain ⟨j, hj⟩ : ∃ j : Nat, tat w.1.2.2 (qrA l (qrN l)).1 = (j : Int) := ⟨(tat w.1.2.2 (qrA l (qrN l)).1).toNat, by by_cases q : tat w.1.2.2 (qrA l (qrN l)).1 < 0; rw [if_pos q] at r; omega; omega⟩
    have hl14 := NF.2.2.2.1
    have tj := tat_tix (ts := w.1.2.2) (n := (qrA l (qrN l)).1) (by omega)
    refine w_aload_n d237_127 rfl ?_
    refine w_dloadS d237_128 (ok.kd hm) (fr1664 ok hm) ?_
    refine w_dloadS d237_131 (ok.kd (kT1664 ok hm)) (fr1420 ok (kT1664 ok hm)) ?_
    refine w_aload_n d237_134 rfl ?_
    refine w_callv1 d237_135 (by omega) rfl (ok.kd hm) (by simp) (Nat.le_of_ble_eq_true rfl) ?_
    refine k_M_target ok (by omega) hm NF NM hn sg ?_
    rw [hj]
    refine w_iconst d237_138 (by decide) ?_
    have NFo := NF
    refine wa1420 d237_139 ok (kT1664 ok hm) (by omega) (by omega) (fun h139 e139 m139 => ?_)
    have e139 : h139 = sAI h (sT S 1420 (sT S 1664 m)) (j) 0 := e139
    have f139 : Fr S m [1664] _ _ := Fr.wB ok hm m139 (fun ζ e => ⟨1664, by decide, by decide, e ▸ (ok.so.uT (by decide) U_refl)⟩)
    have ok139 := f139.ok
    have FR139 := Fr.le (F := [1664, 1665, 1666, 1667, 1668, 1670, 1671, 1672, 1673, 1674, 1675, 1676, 1677, 1678, 1679, 1680, 1681, 1682, 1683, 1684, 1685, 1686, 1687, 1688, 1689, 1690, 1691, 1692, 1693, 1694, 1695, 1696, 1697, 1698, 1699, 1700, 1701, 1702, 1703, 1704, 1705, 1706, 1707, 1708, 1709, 1710, 1711, 1712, 1713, 1714, 1715, 1716, 1717, 1718, 1719, 1720, 1721, 1722, 1723, 1724, 1725, 1732, 1733]) f139 (by decide)
    have RS := RsR.s f139 hm RS
    have SX := SxR.r f139 hm SX
    have TE := TE.r f139 hm
    have RQ := RQ.r f139 hm
    have NK := (f139.i 1739).trans NK
    have NF := NFo.drop hd0 ok (by omega) e139 m139
    have nf : DfC S h139 (sT S 1664 m) (caM (qrT l) (qrA l (qrN l)) w).1.1 := by unfold caM; rw [if_neg (by omega), if_neg (by omega), if_neg (by omega), if_neg (by omega)]; unfold caS; rw [if_neg (by omega), if_neg (by omega), if_neg (by omega), if_neg (by omega), if_neg (by omega), if_pos (by omega)]; exact (by unfold tsDrop; rw [if_neg (by omega), show (tix w.1.2.2 (qrA l (qrN l)).1).toNat = j by omega]; exact NF)
    have rs : RsR S h139 m (caM (qrT l) (qrA l (qrN l)) w).1.2.1 := by unfold caM; rw [if_neg (by omega), if_neg (by omega), if_neg (by omega), if_neg (by omega)]; unfold caS; rw [if_neg (by omega), if_neg (by omega), if_neg (by omega), if_neg (by omega), if_neg (by omega), if_pos (by omega)]; exact RS
    have sx : SxR S h139 m (caM (qrT l) (qrA l (qrN l)) w).1.2.2 := by unfold caM; rw [if_neg (by omega), if_neg (by omega), if_neg (by omega), if_neg (by omega)]; unfold caS; rw [if_neg (by omega), if_neg (by omega), if_neg (by omega), if_neg (by omega), if_neg (by omega), if_pos (by omega)]; exact SX
    have te : TeR S h139 m la := TE
    have e2 : (caM (qrT l) (qrA l (qrN l)) w).2 = [] := by unfold caM; rw [if_neg (by omega), if_neg (by omega), if_neg (by omega), if_neg (by omega)]; unfold caS; rw [if_neg (by omega), if_neg (by omega), if_neg (by omega), if_neg (by omega), if_neg (by omega), if_pos (by omega)]
    refine w_goto d237_140 ?_
    refine w_less ?_ (L213 _ h139  rfl FR139 nf rs sx te e2)
    exact ⟨Or.inr rfl, trivial⟩
  by_cases s6 : qrT l = 6
  · refine w_tsw 143 d237_4 (by rw [s6]; decide) ?_
    obtain ⟨f, e, NM, o1, o2, eN⟩ := RD.1 (by rw [s6]; decide)
    have eN : sl l f e = (qrA l (qrN l)).1 := eN
    have nl := sl_len ⟨o1, o2⟩
    rw [eN] at nl
    have hn : f + (qrA l (qrN l)).1.length = e := by omega
    have sg : SgC S h (sT S 1730 m) f (qrA l (qrN l)).1 := by rw [← eN]; exact RQ.2.2.sub ⟨o1, o2⟩
    have r := hok
    unfold refN at r
    rw [if_neg (by omega), if_neg (by omega), if_neg (by omega), if_neg (by omega), if_neg (by omega), if_pos (by omega)] at r
    have tr := tat_rg w.1.2.2 (qrA l (qrN l)).1
    obtain ⟨j, hj⟩ : ∃ j : Nat, tat w.1.2.2 (qrA l (qrN l)).1 = (j : Int) := ⟨(tat w.1.2.2 (qrA l (qrN l)).1).toNat, by by_cases q : tat w.1.2.2 (qrA l (qrN l)).1 < 0; rw [if_pos q] at r; omega; omega⟩
    refine w_aload_n d237_143 rfl ?_
    refine w_aload_n d237_144 rfl ?_
    refine w_callv1 d237_145 (by omega) rfl (ok.kd hm) (by simp) (Nat.le_of_ble_eq_true rfl) ?_
    refine k_M_target ok (by omega) hm NF NM hn sg ?_
    rw [hj]
    refine w_callv2 d237_148 (by omega) rfl (ok.kd hm) (by simp) (Nat.le_of_ble_eq_true rfl) ?_
    refine k_M_beginN (t := j) ok (by omega) hm NF SX (by omega) (by have := tat_H (ts := w.1.2.2) (n := (qrA l (qrN l)).1) (by omega); rw [hj] at this; exact this) (fun h148 f148 SX => ?_)
    have ok148 := f148.ok
    have FR148 := Fr.le (F := [1664, 1665, 1666, 1667, 1668, 1670, 1671, 1672, 1673, 1674, 1675, 1676, 1677, 1678, 1679, 1680, 1681, 1682, 1683, 1684, 1685, 1686, 1687, 1688, 1689, 1690, 1691, 1692, 1693, 1694, 1695, 1696, 1697, 1698, 1699, 1700, 1701, 1702, 1703, 1704, 1705, 1706, 1707, 1708, 1709, 1710, 1711, 1712, 1713, 1714, 1715, 1716, 1717, 1718, 1719, 1720, 1721, 1722, 1723, 1724, 1725, 1732, 1733]) f148 (by decide)
    have NF := DfC.r (f := 1664) f148 hm (by decide) NF
    have RS := RsR.s f148 hm RS
    have TE := TE.r f148 hm
    have RQ := RQ.r f148 hm
    have NK := (f148.i 1739).trans NK
    have nf : DfC S h148 (sT S 1664 m) (caM (qrT l) (qrA l (qrN l)) w).1.1 := by unfold caM; rw [if_neg (by omega), if_neg (by omega), if_neg (by omega), if_neg (by omega)]; unfold caS; rw [if_neg (by omega), if_neg (by omega), if_neg (by omega), if_neg (by omega), if_neg (by omega), if_neg (by omega), if_pos (by omega)]; exact NF
    have rs : RsR S h148 m (caM (qrT l) (qrA l (qrN l)) w).1.2.1 := by unfold caM; rw [if_neg (by omega), if_neg (by omega), if_neg (by omega), if_neg (by omega)]; unfold caS; rw [if_neg (by omega), if_neg (by omega), if_neg (by omega), if_neg (by omega), if_neg (by omega), if_neg (by omega), if_pos (by omega)]; exact RS
    have sx : SxR S h148 m (caM (qrT l) (qrA l (qrN l)) w).1.2.2 := by unfold caM; rw [if_neg (by omega), if_neg (by omega), if_neg (by omega), if_neg (by omega)]; unfold caS; rw [if_neg (by omega), if_neg (by omega), if_neg (by omega), if_neg (by omega), if_neg (by omega), if_neg (by omega), if_pos (by omega)]; exact (by rw [show (tat w.1.2.2 (qrA l (qrN l)).1).toNat = j by omega]; exact SX)
    have te : TeR S h148 m la := TE
    have e2 : (caM (qrT l) (qrA l (qrN l)) w).2 = [] := by unfold caM; rw [if_neg (by omega), if_neg (by omega), if_neg (by omega), if_neg (by omega)]; unfold caS; rw [if_neg (by omega), if_neg (by omega), if_neg (by omega), if_neg (by omega), if_neg (by omega), if_neg (by omega), if_pos (by omega)]
    refine w_goto d237_151 ?_
    refine w_less ?_ (L213 _ h148  rfl FR148 nf rs sx te e2)
    exact ⟨Or.inr rfl, trivial⟩
  by_cases s7 : qrT l = 7
  · refine w_tsw 154 d237_4 (by rw [s7]; decide) ?_
    have r := hok
    unfold refN at r
    rw [if_neg (by omega), if_neg (by omega), if_neg (by omega), if_neg (by omega), if_neg (by omega), if_neg (by omega), if_pos (by omega)] at r
    have on : seOn w.2.2 = true := by cases q : seOn w.2.2 with | true => rfl | false => (rw [q] at r; exact absurd r (by decide))
    refine w_aload_n d237_154 rfl ?_
    refine w_callv1 d237_155 (by omega) rfl (ok.kd hm) (by simp) (Nat.le_of_ble_eq_true rfl) ?_
    refine k_M_goN (n := (qrN l 0).toNat) ok (by omega) hm SX TE (RD.2.2.2.2.1 0 (by rw [s7]; decide)) tg on (W7 s7) (fun h155 f155 SX TE => ?_)
    have ok155 := f155.ok
    have FR155 := Fr.le (F := [1664, 1665, 1666, 1667, 1668, 1670, 1671, 1672, 1673, 1674, 1675, 1676, 1677, 1678, 1679, 1680, 1681, 1682, 1683, 1684, 1685, 1686, 1687, 1688, 1689, 1690, 1691, 1692, 1693, 1694, 1695, 1696, 1697, 1698, 1699, 1700, 1701, 1702, 1703, 1704, 1705, 1706, 1707, 1708, 1709, 1710, 1711, 1712, 1713, 1714, 1715, 1716, 1717, 1718, 1719, 1720, 1721, 1722, 1723, 1724, 1725, 1732, 1733]) f155 (by decide)
    have NF := DfC.r (f := 1664) f155 hm (by decide) NF
    have RS := RsR.s f155 hm RS
    have RQ := RQ.r f155 hm
    have NK := (f155.i 1739).trans NK
    refine w_return d237_158 ?_
    have nf : DfC S h155 (sT S 1664 m) (caM (qrT l) (qrA l (qrN l)) w).1.1 := by unfold caM; rw [if_neg (by omega), if_neg (by omega), if_neg (by omega), if_pos s7]; exact NF
    have rs : RsR S h155 m (caM (qrT l) (qrA l (qrN l)) w).1.2.1 := by unfold caM; rw [if_neg (by omega), if_neg (by omega), if_neg (by omega), if_pos s7]; exact RS
    have sx : SxR S h155 m (caM (qrT l) (qrA l (qrN l)) w).1.2.2 := by unfold caM; rw [if_neg (by omega), if_neg (by omega), if_neg (by omega), if_pos s7]; exact SX
    have e2 : (caM (qrT l) (qrA l (qrN l)) w).2 = endT (sePl w.2.2).2.2 (gonP w.2.2 (qrN l 0).toNat).2.1 (rF (goR (gonP w.2.2 (qrN l 0).toNat).1)) ((rT (goR (gonP w.2.2 (qrN l 0).toNat).1)).map told) := by unfold caM; rw [if_neg (by omega), if_neg (by omega), if_neg (by omega), if_pos s7]; rfl
    refine kk _ FR155 nf rs sx ?_
    rw [e2, if_neg endT_ne]
    exact TE
  by_cases s8 : qrT l = 8
  · refine w_tsw 159 d237_4 (by rw [s8]; decide) ?_
    have SXo := SX
    refine w_aload_n d237_159 rfl ?_
    refine w_iconst d237_160 (by decide) ?_
    refine wf1704 d237_161 ok hm (by omega) (fun h161 e161 m161 => ?_)
    have f161 : Fr S m [1704] _ _ := Fr.wF ok m161 (FK.pI e161)
    have ok161 := f161.ok
    have FR161 := Fr.le (F := [1664, 1665, 1666, 1667, 1668, 1670, 1671, 1672, 1673, 1674, 1675, 1676, 1677, 1678, 1679, 1680, 1681, 1682, 1683, 1684, 1685, 1686, 1687, 1688, 1689, 1690, 1691, 1692, 1693, 1694, 1695, 1696, 1697, 1698, 1699, 1700, 1701, 1702, 1703, 1704, 1705, 1706, 1707, 1708, 1709, 1710, 1711, 1712, 1713, 1714, 1715, 1716, 1717, 1718, 1719, 1720, 1721, 1722, 1723, 1724, 1725, 1732, 1733]) f161 (by decide)
    have NF := DfC.r (f := 1664) f161 hm (by decide) NF
    have RS := RsR.s f161 hm RS
    have TE := TE.r f161 hm
    have RQ := RQ.r f161 hm
    have NK := (f161.i 1739).trans NK
    refine w_aload_n d237_164 rfl ?_
    refine w_dloadS d237_165 (ok161.kd hm) (fr1713 ok161 hm) ?_
    refine w_iconst d237_168 (by decide) ?_
    refine w_iconst d237_169 (by decide) ?_
    refine wa1713 d237_170 ok161 hm (by omega) (by omega) (fun h170 e170 m170 => ?_)
    have f170 : Fr S m [1713] _ _ := Fr.wB ok161 hm m170 (fun ζ e => ⟨1713, by decide, by decide, e ▸ U_refl⟩)
    have ok170 := f170.ok
    have FR170 := Fr.tr (F := [1664, 1665, 1666, 1667, 1668, 1670, 1671, 1672, 1673, 1674, 1675, 1676, 1677, 1678, 1679, 1680, 1681, 1682, 1683, 1684, 1685, 1686, 1687, 1688, 1689, 1690, 1691, 1692, 1693, 1694, 1695, 1696, 1697, 1698, 1699, 1700, 1701, 1702, 1703, 1704, 1705, 1706, 1707, 1708, 1709, 1710, 1711, 1712, 1713, 1714, 1715, 1716, 1717, 1718, 1719, 1720, 1721, 1722, 1723, 1724, 1725, 1732, 1733]) FR161 f170 (by decide) (by decide)
    have NF := DfC.r (f := 1664) f170 hm (by decide) NF
    have RS := RsR.s f170 hm RS
    have TE := TE.r f170 hm
    have RQ := RQ.r f170 hm
    have NK := (f170.i 1739).trans NK
    refine w_aload_n d237_171 rfl ?_
    refine w_dloadS d237_172 (ok170.kd hm) (fr1713 ok170 hm) ?_
    refine w_iconst d237_175 (by decide) ?_
    refine w_iconst d237_176 (by decide) ?_
    refine wa1713 d237_177 ok170 hm (by omega) (by omega) (fun h177 e177 m177 => ?_)
    have f177 : Fr S m [1713] _ _ := Fr.wB ok170 hm m177 (fun ζ e => ⟨1713, by decide, by decide, e ▸ U_refl⟩)
    have ok177 := f177.ok
    have FR177 := Fr.tr (F := [1664, 1665, 1666, 1667, 1668, 1670, 1671, 1672, 1673, 1674, 1675, 1676, 1677, 1678, 1679, 1680, 1681, 1682, 1683, 1684, 1685, 1686, 1687, 1688, 1689, 1690, 1691, 1692, 1693, 1694, 1695, 1696, 1697, 1698, 1699, 1700, 1701, 1702, 1703, 1704, 1705, 1706, 1707, 1708, 1709, 1710, 1711, 1712, 1713, 1714, 1715, 1716, 1717, 1718, 1719, 1720, 1721, 1722, 1723, 1724, 1725, 1732, 1733]) FR170 f177 (by decide) (by decide)
    have NF := DfC.r (f := 1664) f177 hm (by decide) NF
    have RS := RsR.s f177 hm RS
    have TE := TE.r f177 hm
    have RQ := RQ.r f177 hm
    have NK := (f177.i 1739).trans NK
    have fr8 : Fr S m [1704, 1713] h h177 := Fr.tr (F := [1704, 1713]) (Fr.tr (F := [1704, 1713]) (Fr.le (F := [1704, 1713]) f161 (by decide)) f170 (by decide)) f177 (by decide)
    have SX := SXo.stop fr8 hm (by rw [e177, e170, e161]; show FI (sFI h 1704 m _) 1704 m = _; rw [FI_sFI, if_pos ⟨rfl, rfl⟩]) (by rw [e177, sArr, if_neg (by decide), e170, sArr]; exact if_pos rfl) (by rw [e177, sArr]; exact if_pos rfl)
    have nf : DfC S h177 (sT S 1664 m) (caM (qrT l) (qrA l (qrN l)) w).1.1 := by unfold caM; rw [if_neg (by omega), if_neg (by omega), if_neg (by omega), if_neg (by omega)]; unfold caS; rw [if_neg (by omega), if_neg (by omega), if_neg (by omega), if_neg (by omega), if_neg (by omega), if_neg (by omega), if_neg (by omega), if_neg (by omega), if_pos (by omega)]; exact NF
    have rs : RsR S h177 m (caM (qrT l) (qrA l (qrN l)) w).1.2.1 := by unfold caM; rw [if_neg (by omega), if_neg (by omega), if_neg (by omega), if_neg (by omega)]; unfold caS; rw [if_neg (by omega), if_neg (by omega), if_neg (by omega), if_neg (by omega), if_neg (by omega), if_neg (by omega), if_neg (by omega), if_neg (by omega), if_pos (by omega)]; exact RS
    have sx : SxR S h177 m (caM (qrT l) (qrA l (qrN l)) w).1.2.2 := by unfold caM; rw [if_neg (by omega), if_neg (by omega), if_neg (by omega), if_neg (by omega)]; unfold caS; rw [if_neg (by omega), if_neg (by omega), if_neg (by omega), if_neg (by omega), if_neg (by omega), if_neg (by omega), if_neg (by omega), if_neg (by omega), if_pos (by omega)]; exact SX
    have te : TeR S h177 m la := TE
    have e2 : (caM (qrT l) (qrA l (qrN l)) w).2 = [] := by unfold caM; rw [if_neg (by omega), if_neg (by omega), if_neg (by omega), if_neg (by omega)]; unfold caS; rw [if_neg (by omega), if_neg (by omega), if_neg (by omega), if_neg (by omega), if_neg (by omega), if_neg (by omega), if_neg (by omega), if_neg (by omega), if_pos (by omega)]
    refine w_goto d237_178 ?_
    refine w_less ?_ (L213 _ h177  rfl FR177 nf rs sx te e2)
    exact ⟨Or.inr rfl, trivial⟩
  by_cases s9 : qrT l = 9
  · refine w_tsw 181 d237_4 (by rw [s9]; decide) ?_
    obtain ⟨f, e, NM, o1, o2, eN⟩ := RD.1 (by rw [s9]; decide)
    have eN : sl l f e = (qrA l (qrN l)).1 := eN
    have nl := sl_len ⟨o1, o2⟩
    rw [eN] at nl
    have hn : f + (qrA l (qrN l)).1.length = e := by omega
    have sg : SgC S h (sT S 1730 m) f (qrA l (qrN l)).1 := by rw [← eN]; exact RQ.2.2.sub ⟨o1, o2⟩
    have r := hok
    unfold refN at r
    rw [if_neg (by omega), if_neg (by omega), if_neg (by omega), if_neg (by omega), if_neg (by omega), if_neg (by omega), if_neg (by omega), if_pos (by omega)] at r
    have hp : hpB (seGo w.2.2).1 (tix w.1.2.2 (qrA l (qrN l)).1) = true := by by_cases q : hpB (seGo w.2.2).1 (tix w.1.2.2 (qrA l (qrN l)).1) = true; exact q; (rw [if_neg q] at r; omega)
    have hp2 := hp
    unfold hpB at hp2
    rw [Bool.and_eq_true] at hp2
    have tr := of_decide_eq_true hp2.1
    obtain ⟨j, hj⟩ : ∃ j : Nat, tix w.1.2.2 (qrA l (qrN l)).1 = (j : Int) := ⟨(tix w.1.2.2 (qrA l (qrN l)).1).toNat, by omega⟩
    rw [hj] at hp2
    refine w_aload_n d237_181 rfl ?_
    refine w_aload_n d237_182 rfl ?_
    refine w_aload_n d237_183 rfl ?_
    refine w_getI (x := ((f : Nat) : Int)) d237_184 (ok.kd hm) NM.1 ?_
    refine w_aload_n d237_187 rfl ?_
    refine w_getI (x := ((e : Nat) : Int)) d237_188 (ok.kd hm) NM.2 ?_
    refine w_callv3 d237_191 (by omega) rfl (ok.kd hm) (by simp) (Nat.le_of_ble_eq_true rfl) ?_
    refine k_M_numberOf ok (by omega) hm NF hn sg ?_
    rw [hj]
    refine w_callv2 d237_194 (by omega) rfl (ok.kd hm) (by simp) (Nat.le_of_ble_eq_true rfl) ?_
    refine k_M_releaseN (t := j) ok (by omega) hm SX TE tg (by omega) hp2.2 (W9 j) (fun h194 f194 SX TE => ?_)
    have ok194 := f194.ok
    have FR194 := Fr.le (F := [1664, 1665, 1666, 1667, 1668, 1670, 1671, 1672, 1673, 1674, 1675, 1676, 1677, 1678, 1679, 1680, 1681, 1682, 1683, 1684, 1685, 1686, 1687, 1688, 1689, 1690, 1691, 1692, 1693, 1694, 1695, 1696, 1697, 1698, 1699, 1700, 1701, 1702, 1703, 1704, 1705, 1706, 1707, 1708, 1709, 1710, 1711, 1712, 1713, 1714, 1715, 1716, 1717, 1718, 1719, 1720, 1721, 1722, 1723, 1724, 1725, 1732, 1733]) f194 (by decide)
    have NF := DfC.r (f := 1664) f194 hm (by decide) NF
    have RS := RsR.s f194 hm RS
    have RQ := RQ.r f194 hm
    have NK := (f194.i 1739).trans NK
    refine w_return d237_197 ?_
    have ej : (tix w.1.2.2 (qrA l (qrN l)).1).toNat = j := by omega
    have nf : DfC S h194 (sT S 1664 m) (caM (qrT l) (qrA l (qrN l)) w).1.1 := by unfold caM; rw [if_neg (by omega), if_neg (by omega), if_neg (by omega), if_neg (by omega)]; unfold caS; rw [if_neg (by omega), if_neg (by omega), if_neg (by omega), if_neg (by omega), if_neg (by omega), if_neg (by omega), if_neg (by omega), if_neg (by omega), if_neg (by omega), if_pos (by omega)]; exact NF
    have rs : RsR S h194 m (caM (qrT l) (qrA l (qrN l)) w).1.2.1 := by unfold caM; rw [if_neg (by omega), if_neg (by omega), if_neg (by omega), if_neg (by omega)]; unfold caS; rw [if_neg (by omega), if_neg (by omega), if_neg (by omega), if_neg (by omega), if_neg (by omega), if_neg (by omega), if_neg (by omega), if_neg (by omega), if_neg (by omega), if_pos (by omega)]; exact RS
    have sx : SxR S h194 m (caM (qrT l) (qrA l (qrN l)) w).1.2.2 := by unfold caM; rw [if_neg (by omega), if_neg (by omega), if_neg (by omega), if_neg (by omega)]; unfold caS; rw [if_neg (by omega), if_neg (by omega), if_neg (by omega), if_neg (by omega), if_neg (by omega), if_neg (by omega), if_neg (by omega), if_neg (by omega), if_neg (by omega), if_pos (by omega)]; rw [ej]; exact SX
    have e2 : (caM (qrT l) (qrA l (qrN l)) w).2 = relTxt (w.2.2.2.1 j) ((seGo w.2.2).1 j) (w.2.2.2.2.1 j) := by unfold caM; rw [if_neg (by omega), if_neg (by omega), if_neg (by omega), if_neg (by omega)]; unfold caS; rw [if_neg (by omega), if_neg (by omega), if_neg (by omega), if_neg (by omega), if_neg (by omega), if_neg (by omega), if_neg (by omega), if_neg (by omega), if_neg (by omega), if_pos (by omega)]; rw [ej]
    refine kk _ FR194 nf rs sx ?_
    rw [e2, if_neg relTxt_ne]
    exact TE
  by_cases s10 : qrT l = 10
  · refine w_tsw 198 d237_4 (by rw [s10]; decide) ?_
    have r := hok
    unfold refN at r
    rw [if_neg (by omega), if_neg (by omega), if_neg (by omega), if_neg (by omega), if_neg (by omega), if_neg (by omega), if_neg (by omega), if_neg (by omega), if_pos (by omega)] at r
    have ri := rfs_in (f := 0) (by omega) (fun i _ => by obtain ⟨v, hv⟩ := qrN_n l i; show 0 ≤ qrN l i; omega) r
    refine w_aload_n d237_198 rfl ?_
    refine w_callv1 d237_199 (by omega) rfl (ok.kd hm) (by simp) (Nat.le_of_ble_eq_true rfl) ?_
    refine k_M_addRule0 (nu := qrN l) ok (by omega) hm RS (by rw [NK, s10]; rfl) (fun i hi => RD.2.2.2.2.1 i (by rw [s10]; exact hi)) TE tg ri.1 ri.2 (fun h199 f199 TE RS => ?_)
    have ok199 := f199.ok
    have FR199 := Fr.le (F := [1664, 1665, 1666, 1667, 1668, 1670, 1671, 1672, 1673, 1674, 1675, 1676, 1677, 1678, 1679, 1680, 1681, 1682, 1683, 1684, 1685, 1686, 1687, 1688, 1689, 1690, 1691, 1692, 1693, 1694, 1695, 1696, 1697, 1698, 1699, 1700, 1701, 1702, 1703, 1704, 1705, 1706, 1707, 1708, 1709, 1710, 1711, 1712, 1713, 1714, 1715, 1716, 1717, 1718, 1719, 1720, 1721, 1722, 1723, 1724, 1725, 1732, 1733]) f199 (by decide)
    have NF := DfC.r (f := 1664) f199 hm (by decide) NF
    have SX := SxR.r f199 hm SX
    have RQ := RQ.r f199 hm
    have NK := (f199.i 1739).trans NK
    refine w_return d237_202 ?_
    have nf : DfC S h199 (sT S 1664 m) (caM (qrT l) (qrA l (qrN l)) w).1.1 := by unfold caM; rw [if_neg (by omega), if_neg (by omega), if_neg (by omega), if_neg (by omega)]; unfold caS; rw [if_neg (by omega), if_neg (by omega), if_neg (by omega), if_neg (by omega), if_neg (by omega), if_neg (by omega), if_neg (by omega), if_neg (by omega), if_neg (by omega), if_neg (by omega), if_pos (by omega)]; exact NF
    have rs : RsR S h199 m (caM (qrT l) (qrA l (qrN l)) w).1.2.1 := by unfold caM; rw [if_neg (by omega), if_neg (by omega), if_neg (by omega), if_neg (by omega)]; unfold caS; rw [if_neg (by omega), if_neg (by omega), if_neg (by omega), if_neg (by omega), if_neg (by omega), if_neg (by omega), if_neg (by omega), if_neg (by omega), if_neg (by omega), if_neg (by omega), if_pos (by omega)]; exact RS
    have sx : SxR S h199 m (caM (qrT l) (qrA l (qrN l)) w).1.2.2 := by unfold caM; rw [if_neg (by omega), if_neg (by omega), if_neg (by omega), if_neg (by omega)]; unfold caS; rw [if_neg (by omega), if_neg (by omega), if_neg (by omega), if_neg (by omega), if_neg (by omega), if_neg (by omega), if_neg (by omega), if_neg (by omega), if_neg (by omega), if_neg (by omega), if_pos (by omega)]; exact SX
    have e2 : (caM (qrT l) (qrA l (qrN l)) w).2 = txt 20 ++ dec w.2.1.length := by unfold caM; rw [if_neg (by omega), if_neg (by omega), if_neg (by omega), if_neg (by omega)]; unfold caS; rw [if_neg (by omega), if_neg (by omega), if_neg (by omega), if_neg (by omega), if_neg (by omega), if_neg (by omega), if_neg (by omega), if_neg (by omega), if_neg (by omega), if_neg (by omega), if_pos (by omega)]
    refine kk _ FR199 nf rs sx ?_
    rw [e2, if_neg txt20_ne]
    exact TE
  by_cases s11 : qrT l = 11
  · refine w_tsw 198 d237_4 (by rw [s11]; decide) ?_
    have r := hok
    unfold refN at r
    rw [if_neg (by omega), if_neg (by omega), if_neg (by omega), if_neg (by omega), if_neg (by omega), if_neg (by omega), if_neg (by omega), if_neg (by omega), if_neg (by omega), if_pos (by omega)] at r
    have ri := rfs_in (f := 2) (by omega) (fun i _ => by obtain ⟨v, hv⟩ := qrN_n l i; show 0 ≤ qrN l i; omega) r
    refine w_aload_n d237_198 rfl ?_
    refine w_callv1 d237_199 (by omega) rfl (ok.kd hm) (by simp) (Nat.le_of_ble_eq_true rfl) ?_
    refine k_M_addRule2 (nu := qrN l) ok (by omega) hm RS (by rw [NK, s11]; rfl) (fun i hi => RD.2.2.2.2.1 i (by rw [s11]; exact hi)) TE tg ri.1 ri.2 (fun h199 f199 TE RS => ?_)
    have ok199 := f199.ok
    have FR199 := Fr.le (F := [1664, 1665, 1666, 1667, 1668, 1670, 1671, 1672, 1673, 1674, 1675, 1676, 1677, 1678, 1679, 1680, 1681, 1682, 1683, 1684, 1685, 1686, 1687, 1688, 1689, 1690, 1691, 1692, 1693, 1694, 1695, 1696, 1697, 1698, 1699, 1700, 1701, 1702, 1703, 1704, 1705, 1706, 1707, 1708, 1709, 1710, 1711, 1712, 1713, 1714, 1715, 1716, 1717, 1718, 1719, 1720, 1721, 1722, 1723, 1724, 1725, 1732, 1733]) f199 (by decide)
    have NF := DfC.r (f := 1664) f199 hm (by decide) NF
    have SX := SxR.r f199 hm SX
    have RQ := RQ.r f199 hm
    have NK := (f199.i 1739).trans NK
    refine w_return d237_202 ?_
    have nf : DfC S h199 (sT S 1664 m) (caM (qrT l) (qrA l (qrN l)) w).1.1 := by unfold caM; rw [if_neg (by omega), if_neg (by omega), if_neg (by omega), if_neg (by omega)]; unfold caS; rw [if_neg (by omega), if_neg (by omega), if_neg (by omega), if_neg (by omega), if_neg (by omega), if_neg (by omega), if_neg (by omega), if_neg (by omega), if_neg (by omega), if_neg (by omega), if_neg (by omega), if_pos (by omega)]; exact NF
    have rs : RsR S h199 m (caM (qrT l) (qrA l (qrN l)) w).1.2.1 := by unfold caM; rw [if_neg (by omega), if_neg (by omega), if_neg (by omega), if_neg (by omega)]; unfold caS; rw [if_neg (by omega), if_neg (by omega), if_neg (by omega), if_neg (by omega), if_neg (by omega), if_neg (by omega), if_neg (by omega), if_neg (by omega), if_neg (by omega), if_neg (by omega), if_neg (by omega), if_pos (by omega)]; exact RS
    have sx : SxR S h199 m (caM (qrT l) (qrA l (qrN l)) w).1.2.2 := by unfold caM; rw [if_neg (by omega), if_neg (by omega), if_neg (by omega), if_neg (by omega)]; unfold caS; rw [if_neg (by omega), if_neg (by omega), if_neg (by omega), if_neg (by omega), if_neg (by omega), if_neg (by omega), if_neg (by omega), if_neg (by omega), if_neg (by omega), if_neg (by omega), if_neg (by omega), if_pos (by omega)]; exact SX
    have e2 : (caM (qrT l) (qrA l (qrN l)) w).2 = txt 20 ++ dec w.2.1.length := by unfold caM; rw [if_neg (by omega), if_neg (by omega), if_neg (by omega), if_neg (by omega)]; unfold caS; rw [if_neg (by omega), if_neg (by omega), if_neg (by omega), if_neg (by omega), if_neg (by omega), if_neg (by omega), if_neg (by omega), if_neg (by omega), if_neg (by omega), if_neg (by omega), if_neg (by omega), if_pos (by omega)]
    refine kk _ FR199 nf rs sx ?_
    rw [e2, if_neg txt20_ne]
    exact TE
  refine w_tsw 203 d237_4 (by rw [show qrT l = 12 by omega]; decide) ?_
  have s12 : qrT l = 12 := by omega
  have r := hok
  unfold refN at r
  rw [if_neg (by omega), if_neg (by omega), if_neg (by omega), if_neg (by omega), if_neg (by omega), if_neg (by omega), if_neg (by omega), if_neg (by omega), if_neg (by omega), if_neg (by omega), if_pos (by omega)] at r
  have r0 : w.2.1.length ≠ 0 := fun z => by rw [if_pos z] at r; omega
  have r20 := RS.2.1
  refine w_aload_n d237_203 rfl ?_
  refine w_dupR d237_204 ?_
  refine w_getI (x := ((w.2.1.length : Nat) : Int)) d237_205 (ok.kd hm) RS.1 ?_
  refine w_iconst d237_208 (by decide) ?_
  refine w_isub d237_209 (by constructor <;> omega) ?_
  rw [show ((w.2.1.length : Nat) : Int) - 1 = ((w.2.1.length - 1 : Nat) : Int) by omega]
  have RSo := RS
  refine wf1720 d237_210 ok hm (by omega) (fun h210 e210 m210 => ?_)
  have f210 : Fr S m [1720] _ _ := Fr.wF ok m210 (FK.pI e210)
  have ok210 := f210.ok
  have FR210 := Fr.le (F := [1664, 1665, 1666, 1667, 1668, 1670, 1671, 1672, 1673, 1674, 1675, 1676, 1677, 1678, 1679, 1680, 1681, 1682, 1683, 1684, 1685, 1686, 1687, 1688, 1689, 1690, 1691, 1692, 1693, 1694, 1695, 1696, 1697, 1698, 1699, 1700, 1701, 1702, 1703, 1704, 1705, 1706, 1707, 1708, 1709, 1710, 1711, 1712, 1713, 1714, 1715, 1716, 1717, 1718, 1719, 1720, 1721, 1722, 1723, 1724, 1725, 1732, 1733]) f210 (by decide)
  have NF := DfC.r (f := 1664) f210 hm (by decide) NF
  have SX := SxR.r f210 hm SX
  have TE := TE.r f210 hm
  have RQ := RQ.r f210 hm
  have NK := (f210.i 1739).trans NK
  have RS := RSo.drop f210 hm (by rw [e210, FI_sFI, if_pos ⟨rfl, rfl⟩])
  have nf : DfC S h210 (sT S 1664 m) (caM (qrT l) (qrA l (qrN l)) w).1.1 := by unfold caM; rw [if_neg (by omega), if_neg (by omega), if_neg (by omega), if_neg (by omega)]; unfold caS; rw [if_neg (by omega), if_neg (by omega), if_neg (by omega), if_neg (by omega), if_neg (by omega), if_neg (by omega), if_neg (by omega), if_neg (by omega), if_neg (by omega), if_neg (by omega), if_neg (by omega), if_neg (by omega)]; exact NF
  have rs : RsR S h210 m (caM (qrT l) (qrA l (qrN l)) w).1.2.1 := by unfold caM; rw [if_neg (by omega), if_neg (by omega), if_neg (by omega), if_neg (by omega)]; unfold caS; rw [if_neg (by omega), if_neg (by omega), if_neg (by omega), if_neg (by omega), if_neg (by omega), if_neg (by omega), if_neg (by omega), if_neg (by omega), if_neg (by omega), if_neg (by omega), if_neg (by omega), if_neg (by omega)]; exact RS
  have sx : SxR S h210 m (caM (qrT l) (qrA l (qrN l)) w).1.2.2 := by unfold caM; rw [if_neg (by omega), if_neg (by omega), if_neg (by omega), if_neg (by omega)]; unfold caS; rw [if_neg (by omega), if_neg (by omega), if_neg (by omega), if_neg (by omega), if_neg (by omega), if_neg (by omega), if_neg (by omega), if_neg (by omega), if_neg (by omega), if_neg (by omega), if_neg (by omega), if_neg (by omega)]; exact SX
  have te : TeR S h210 m la := TE
  have e2 : (caM (qrT l) (qrA l (qrN l)) w).2 = [] := by unfold caM; rw [if_neg (by omega), if_neg (by omega), if_neg (by omega), if_neg (by omega)]; unfold caS; rw [if_neg (by omega), if_neg (by omega), if_neg (by omega), if_neg (by omega), if_neg (by omega), if_neg (by omega), if_neg (by omega), if_neg (by omega), if_neg (by omega), if_neg (by omega), if_neg (by omega), if_neg (by omega)]
  refine w_less ?_ (L213 _ h210  rfl FR210 nf rs sx te e2)
  exact ⟨Or.inr rfl, trivial⟩
