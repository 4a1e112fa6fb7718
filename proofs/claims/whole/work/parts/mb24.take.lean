/-! the reference: a worker takes a target -/
theorem k_M_failsAhead2 {S : Shp} {G : Nat → Option Nat} {d : Nat} {h : Hp} {Q : Option MV → Hp → Prop} {d0 t o : Nat} {P0 : PlV} {x : OmV} (ok : Ok S h) (h1 : 6 ≤ d) (tg : Tg S G) (hd0 : sK S d0 = 12) (ho : sK S o = 13) (DF : DFi S h d0 P0.1) (DG : DGs S h d0 P0.2.1) (DT : DTs S h d0 P0.2.2) (ht : t < P0.2.2.length) (OX : OmC S h o x) (nd : ∀ y, U S d0 y → ¬ U S o y)
    (kk : ∀ h', Mo S (fun y => U S o y) h h' → OmC S h' o (if tkA P0 t ≠ [] then ([], [], tkA P0 t) else x) → Q (some (vI (b2i (decide (tkA P0 t ≠ []))))) h') : Cl G d 249 [vR (some d0), vI (t : Nat), vR (some o)] h Q := by
  refine k_M_failsAhead ok h1 tg hd0 ho DF DG DT ht nd (fun e => ?_) (fun h' m n OC => ?_)
  · have e2 : tkA P0 t = [] := e
    have w := kk h (Mo.refl ok) (by rw [if_neg (fun z => z e2)]; exact OX)
    rw [decide_eq_false (fun z : tkA P0 t ≠ [] => z e2)] at w
    exact w
  · have n2 : tkA P0 t ≠ [] := n
    have w := kk h' m (by rw [if_pos n2]; exact OC)
    rw [decide_eq_true n2] at w
    exact w
theorem WkR.w {S : Shp} {m w : Nat} {wk : Nat → OmV} {x : OmV} {h h' : Hp} (D : WkR S h m wk) (ok : Ok S h) (hm : sK S m = 14) (hw : w < 2) (mo : Mo S (fun y => U S (sE S (sT S 1716 m) w) y) h h') (OC : OmC S h' (sE S (sT S 1716 m) w) x) : WkR S h' m (upO wk w x) := fun j hj => by
  unfold upO
  by_cases q : j = w
  · rw [if_pos q, q]; exact OC
  · rw [if_neg q]
    exact (D j hj).u ok mo (kE1716 ok hm hj) (fun y u => nUE ok.so (by omega) (by omega) q u)
/-- keys and parts on the way: k parts are written -/
def WpS (S : Shp) (h g : Hp) (m w k : Nat) (key : Int64) (ps : List Int64) : Prop := (∀ j, AL g (sT S 1717 m) j = if j = w then key else AL h (sT S 1717 m) j) ∧ (∀ j, AI g (sT S 1719 m) j = if j = w then ((ps.length : Nat) : Int) else AI h (sT S 1719 m) j) ∧ ∀ j, AL g (sT S 1718 m) j = if 7 * w ≤ j ∧ j < 7 * w + k then ps.getD (j - 7 * w) 0 else AL h (sT S 1718 m) j
theorem WpS.s {S : Shp} {h g g' : Hp} {m w k : Nat} {key : Int64} {ps : List Int64} (D : WpS S h g m w k key ps) (so : SOk S) (e : g' = sAL g (sT S 1718 m) (7 * w + k) (ps.getD k 0)) : WpS S h g' m w (k + 1) key ps := by
  refine ⟨fun j => ?_, fun j => ?_, fun j => ?_⟩
  · rw [e, AL_sAL, if_neg (fun z => absurd ((so.inj (by decide) (by decide)).mp z.1).1 (by decide))]; exact D.1 j
  · rw [e]; exact D.2.1 j
  · rw [e]
    rw [AL_sAL]
    by_cases q : j = 7 * w + k
    · rw [if_pos ⟨rfl, q⟩, if_pos (by omega), show j - 7 * w = k by omega]
    · rw [if_neg (fun z => q z.2), D.2.2 j]
      by_cases q2 : 7 * w ≤ j ∧ j < 7 * w + k
      · rw [if_pos q2, if_pos (by omega)]
      · rw [if_neg q2, if_neg (by omega)]
theorem WpS.e {S : Shp} {h g : Hp} {m w : Nat} {key : Int64} {ps : List Int64} {kf : Nat → Int64} {pf : Nat → List Int64} (D : WpS S h g m w ps.length key ps) (W : WpR S h m kf pf) (h7 : ps.length ≤ 7) : WpR S g m (upO kf w key) (upO pf w ps) := fun j hj => by
  unfold upO
  rw [D.1, D.2.1]
  by_cases q : j = w
  · rw [if_pos q, if_pos q, if_pos q, if_pos q]
    refine ⟨rfl, rfl, h7, fun k hk => ?_⟩
    rw [D.2.2, if_pos (by omega), show 7 * j + k - 7 * w = k by omega]
  · rw [if_neg q, if_neg q, if_neg q, if_neg q]
    obtain ⟨a, b, c, e⟩ := W j hj
    refine ⟨a, b, c, fun k hk => ?_⟩
    rw [D.2.2, if_neg (by omega)]
    exact e k hk
theorem RnR.w {S : Shp} {m t : Nat} {l : List Nat} {h h1 h2 : Hp} (D : RnR S h m l) (so : SOk S) (hl : l.length < 14) (e1 : h1 = sAI h (sT S 1708 m) l.length (t : Nat)) (e2 : h2 = sFI h1 1709 m ((l.length : Nat) + 1)) : RnR S h2 m (l ++ [t]) := by
  refine ⟨?_, ?_, fun i hi => ?_⟩
  · rw [e2, FI_sFI, if_pos ⟨rfl, rfl⟩, List.length_append]; rfl
  · rw [List.length_append]; exact hl
  · rw [List.length_append] at hi
    have hi2 : i < l.length + 1 := hi
    have a1 : AI h2 (sT S 1708 m) i = AI h1 (sT S 1708 m) i := by rw [e2]; rfl
    rw [a1, e1, sArr, List.getD_eq_getElem?_getD]
    by_cases q : i = l.length
    · rw [if_pos q, q, List.getElem?_append_right (Nat.le_refl _), Nat.sub_self]; rfl
    · rw [if_neg q, List.getElem?_append_left (by omega), ← List.getD_eq_getElem?_getD]
      exact D.2.2 i (by omega)
theorem flat_tot {ins : List (List Nat)} : ∀ {n : Nat}, n ≤ ins.length → totL ins n = (ins.take n).flatten.length
  | 0, _ => rfl
  | n + 1, h => by rw [totL, flt_succ h, List.length_append, flat_tot (n := n) (by omega)]
theorem tdiv_n {a : Nat} : (((a : Nat) : Int) + 9).tdiv 10 = (((a + 9) / 10 : Nat) : Int) := by
  rw [Int.tdiv_eq_ediv_of_nonneg (by omega)]; omega
theorem upO_upO {α : Type} {f : Nat → α} {w : Nat} {a b : α} : upO (upO f w a) w b = upO f w b := funext fun i => by
  unfold upO
  by_cases q : i = w
  · rw [if_pos q, if_pos q]
  · rw [if_neg q, if_neg q, if_neg q]
theorem d247_0 : dc 247 0 = some (.aload_n 0, 1) := by decide +kernel
theorem d247_1 : dc 247 1 = some (.invokevirtual 248, 4) := by decide +kernel
theorem d247_4 : dc 247 4 = some (.istore_n 2, 5) := by decide +kernel
theorem d247_5 : dc 247 5 = some (.iload_n 2, 6) := by decide +kernel
theorem d247_6 : dc 247 6 = some (.ifCond .ge ((10 : Nat) : Int), 9) := by decide +kernel
theorem d247_9 : dc 247 9 = some (.return_, 10) := by decide +kernel
theorem d247_10 : dc 247 10 = some (.aload_n 0, 11) := by decide +kernel
theorem d247_11 : dc 247 11 = some (.dload 1713, 14) := by decide +kernel
theorem d247_14 : dc 247 14 = some (.iload_n 1, 15) := by decide +kernel
theorem d247_15 : dc 247 15 = some (.iload_n 2, 16) := by decide +kernel
theorem d247_16 : dc 247 16 = some (.iastore, 17) := by decide +kernel
theorem d247_17 : dc 247 17 = some (.aload_n 0, 18) := by decide +kernel
theorem d247_18 : dc 247 18 = some (.dload 1714, 21) := by decide +kernel
theorem d247_21 : dc 247 21 = some (.iload_n 1, 22) := by decide +kernel
theorem d247_22 : dc 247 22 = some (.iconst 1, 23) := by decide +kernel
theorem d247_23 : dc 247 23 = some (.iastore, 24) := by decide +kernel
theorem d247_24 : dc 247 24 = some (.aload_n 0, 25) := by decide +kernel
theorem d247_25 : dc 247 25 = some (.dload 1715, 28) := by decide +kernel
theorem d247_28 : dc 247 28 = some (.iload_n 1, 29) := by decide +kernel
theorem d247_29 : dc 247 29 = some (.iconst 0, 30) := by decide +kernel
theorem d247_30 : dc 247 30 = some (.iastore, 31) := by decide +kernel
theorem d247_31 : dc 247 31 = some (.aload_n 0, 32) := by decide +kernel
theorem d247_32 : dc 247 32 = some (.dload 1665, 35) := by decide +kernel
theorem d247_35 : dc 247 35 = some (.iload_n 2, 36) := by decide +kernel
theorem d247_36 : dc 247 36 = some (.aload_n 0, 37) := by decide +kernel
theorem d247_37 : dc 247 37 = some (.dload 1716, 40) := by decide +kernel
theorem d247_40 : dc 247 40 = some (.iload_n 1, 41) := by decide +kernel
theorem d247_41 : dc 247 41 = some (.aaload, 42) := by decide +kernel
theorem d247_42 : dc 247 42 = some (.invokevirtual 249, 45) := by decide +kernel
theorem d247_45 : dc 247 45 = some (.ifCond .eq ((49 : Nat) : Int), 48) := by decide +kernel
theorem d247_48 : dc 247 48 = some (.return_, 49) := by decide +kernel
theorem d247_49 : dc 247 49 = some (.aload_n 0, 50) := by decide +kernel
theorem d247_50 : dc 247 50 = some (.aload_n 0, 51) := by decide +kernel
theorem d247_51 : dc 247 51 = some (.dload 1665, 54) := by decide +kernel
theorem d247_54 : dc 247 54 = some (.iload_n 2, 55) := by decide +kernel
theorem d247_55 : dc 247 55 = some (.aload_n 0, 56) := by decide +kernel
theorem d247_56 : dc 247 56 = some (.dload 1668, 59) := by decide +kernel
theorem d247_59 : dc 247 59 = some (.invokevirtual 256, 62) := by decide +kernel
theorem d247_62 : dc 247 62 = some (.aload_n 0, 63) := by decide +kernel
theorem d247_63 : dc 247 63 = some (.dload 1717, 66) := by decide +kernel
theorem d247_66 : dc 247 66 = some (.iload_n 1, 67) := by decide +kernel
theorem d247_67 : dc 247 67 = some (.aload_n 0, 68) := by decide +kernel
theorem d247_68 : dc 247 68 = some (.fload 1680, 71) := by decide +kernel
theorem d247_71 : dc 247 71 = some (.lastore, 72) := by decide +kernel
theorem d247_72 : dc 247 72 = some (.aload_n 0, 73) := by decide +kernel
theorem d247_73 : dc 247 73 = some (.dload 1719, 76) := by decide +kernel
theorem d247_76 : dc 247 76 = some (.iload_n 1, 77) := by decide +kernel
theorem d247_77 : dc 247 77 = some (.aload_n 0, 78) := by decide +kernel
theorem d247_78 : dc 247 78 = some (.getfield 1679, 81) := by decide +kernel
theorem d247_81 : dc 247 81 = some (.iastore, 82) := by decide +kernel
theorem d247_82 : dc 247 82 = some (.iconst 0, 83) := by decide +kernel
theorem d247_83 : dc 247 83 = some (.istore_n 3, 84) := by decide +kernel
theorem d247_84 : dc 247 84 = some (.iload_n 3, 85) := by decide +kernel
theorem d247_85 : dc 247 85 = some (.aload_n 0, 86) := by decide +kernel
theorem d247_86 : dc 247 86 = some (.getfield 1679, 89) := by decide +kernel
theorem d247_89 : dc 247 89 = some (.if_icmp .ge ((115 : Nat) : Int), 92) := by decide +kernel
theorem d247_92 : dc 247 92 = some (.aload_n 0, 93) := by decide +kernel
theorem d247_93 : dc 247 93 = some (.dload 1718, 96) := by decide +kernel
theorem d247_96 : dc 247 96 = some (.bipush 7, 98) := by decide +kernel
theorem d247_98 : dc 247 98 = some (.iload_n 1, 99) := by decide +kernel
theorem d247_99 : dc 247 99 = some (.imul, 100) := by decide +kernel
theorem d247_100 : dc 247 100 = some (.iload_n 3, 101) := by decide +kernel
theorem d247_101 : dc 247 101 = some (.iadd, 102) := by decide +kernel
theorem d247_102 : dc 247 102 = some (.aload_n 0, 103) := by decide +kernel
theorem d247_103 : dc 247 103 = some (.dload 1678, 106) := by decide +kernel
theorem d247_106 : dc 247 106 = some (.iload_n 3, 107) := by decide +kernel
theorem d247_107 : dc 247 107 = some (.laload, 108) := by decide +kernel
theorem d247_108 : dc 247 108 = some (.lastore, 109) := by decide +kernel
theorem d247_109 : dc 247 109 = some (.iinc 3 1, 112) := by decide +kernel
theorem d247_112 : dc 247 112 = some (.goto ((84 : Nat) : Int), 115) := by decide +kernel
theorem d247_115 : dc 247 115 = some (.aload_n 0, 116) := by decide +kernel
theorem d247_116 : dc 247 116 = some (.aload_n 0, 117) := by decide +kernel
theorem d247_117 : dc 247 117 = some (.fload 1680, 120) := by decide +kernel
theorem d247_120 : dc 247 120 = some (.invokevirtual 262, 123) := by decide +kernel
theorem d247_123 : dc 247 123 = some (.istore_n 3, 124) := by decide +kernel
theorem d247_124 : dc 247 124 = some (.aload_n 0, 125) := by decide +kernel
theorem d247_125 : dc 247 125 = some (.dload 1715, 128) := by decide +kernel
theorem d247_128 : dc 247 128 = some (.iload_n 1, 129) := by decide +kernel
theorem d247_129 : dc 247 129 = some (.iload_n 3, 130) := by decide +kernel
theorem d247_130 : dc 247 130 = some (.ifCond .lt ((137 : Nat) : Int), 133) := by decide +kernel
theorem d247_133 : dc 247 133 = some (.iconst 1, 134) := by decide +kernel
theorem d247_134 : dc 247 134 = some (.goto ((138 : Nat) : Int), 137) := by decide +kernel
theorem d247_137 : dc 247 137 = some (.iconst 2, 138) := by decide +kernel
theorem d247_138 : dc 247 138 = some (.iastore, 139) := by decide +kernel
theorem d247_139 : dc 247 139 = some (.iload_n 3, 140) := by decide +kernel
theorem d247_140 : dc 247 140 = some (.ifCond .lt ((159 : Nat) : Int), 143) := by decide +kernel
theorem d247_143 : dc 247 143 = some (.aload_n 0, 144) := by decide +kernel
theorem d247_144 : dc 247 144 = some (.dload 1716, 147) := by decide +kernel
theorem d247_147 : dc 247 147 = some (.iload_n 1, 148) := by decide +kernel
theorem d247_148 : dc 247 148 = some (.aaload, 149) := by decide +kernel
theorem d247_149 : dc 247 149 = some (.aload_n 0, 150) := by decide +kernel
theorem d247_150 : dc 247 150 = some (.dload 1703, 153) := by decide +kernel
theorem d247_153 : dc 247 153 = some (.iload_n 3, 154) := by decide +kernel
theorem d247_154 : dc 247 154 = some (.aaload, 155) := by decide +kernel
theorem d247_155 : dc 247 155 = some (.invokevirtual 263, 158) := by decide +kernel
theorem d247_158 : dc 247 158 = some (.return_, 159) := by decide +kernel
theorem d247_159 : dc 247 159 = some (.aload_n 0, 160) := by decide +kernel
theorem d247_160 : dc 247 160 = some (.iload_n 2, 161) := by decide +kernel
theorem d247_161 : dc 247 161 = some (.invokevirtual 264, 164) := by decide +kernel
theorem d247_164 : dc 247 164 = some (.aload_n 0, 165) := by decide +kernel
theorem d247_165 : dc 247 165 = some (.dload 1708, 168) := by decide +kernel
theorem d247_168 : dc 247 168 = some (.aload_n 0, 169) := by decide +kernel
theorem d247_169 : dc 247 169 = some (.getfield 1709, 172) := by decide +kernel
theorem d247_172 : dc 247 172 = some (.iload_n 2, 173) := by decide +kernel
theorem d247_173 : dc 247 173 = some (.iastore, 174) := by decide +kernel
theorem d247_174 : dc 247 174 = some (.aload_n 0, 175) := by decide +kernel
theorem d247_175 : dc 247 175 = some (.dup, 176) := by decide +kernel
theorem d247_176 : dc 247 176 = some (.getfield 1709, 179) := by decide +kernel
theorem d247_179 : dc 247 179 = some (.iconst 1, 180) := by decide +kernel
theorem d247_180 : dc 247 180 = some (.iadd, 181) := by decide +kernel
theorem d247_181 : dc 247 181 = some (.putfield 1709, 184) := by decide +kernel
theorem d247_184 : dc 247 184 = some (.aload_n 0, 185) := by decide +kernel
theorem d247_185 : dc 247 185 = some (.aload_n 0, 186) := by decide +kernel
theorem d247_186 : dc 247 186 = some (.dload 1665, 189) := by decide +kernel
theorem d247_189 : dc 247 189 = some (.iload_n 2, 190) := by decide +kernel
theorem d247_190 : dc 247 190 = some (.aload_n 0, 191) := by decide +kernel
theorem d247_191 : dc 247 191 = some (.dload 1668, 194) := by decide +kernel
theorem d247_194 : dc 247 194 = some (.invokevirtual 265, 197) := by decide +kernel
theorem d247_197 : dc 247 197 = some (.aload_n 0, 198) := by decide +kernel
theorem d247_198 : dc 247 198 = some (.dload 1716, 201) := by decide +kernel
theorem d247_201 : dc 247 201 = some (.iload_n 1, 202) := by decide +kernel
theorem d247_202 : dc 247 202 = some (.aaload, 203) := by decide +kernel
theorem d247_203 : dc 247 203 = some (.aload_n 0, 204) := by decide +kernel
theorem d247_204 : dc 247 204 = some (.dload 1683, 207) := by decide +kernel
theorem d247_207 : dc 247 207 = some (.invokevirtual 263, 210) := by decide +kernel
theorem d247_210 : dc 247 210 = some (.aload_n 0, 211) := by decide +kernel
theorem d247_211 : dc 247 211 = some (.dload 1714, 214) := by decide +kernel
theorem d247_214 : dc 247 214 = some (.iload_n 1, 215) := by decide +kernel
theorem d247_215 : dc 247 215 = some (.iconst 2, 216) := by decide +kernel
theorem d247_216 : dc 247 216 = some (.aload_n 0, 217) := by decide +kernel
theorem d247_217 : dc 247 217 = some (.getfield 1682, 220) := by decide +kernel
theorem d247_220 : dc 247 220 = some (.bipush 9, 222) := by decide +kernel
theorem d247_222 : dc 247 222 = some (.iadd, 223) := by decide +kernel
theorem d247_223 : dc 247 223 = some (.bipush 10, 225) := by decide +kernel
theorem d247_225 : dc 247 225 = some (.idiv, 226) := by decide +kernel
theorem d247_226 : dc 247 226 = some (.iadd, 227) := by decide +kernel
theorem d247_227 : dc 247 227 = some (.iastore, 228) := by decide +kernel
theorem d247_228 : dc 247 228 = some (.return_, 229) := by decide +kernel
theorem k_M_take {S : Shp} {G : Nat → Option Nat} {d : Nat} {h : Hp} {Q : Option MV → Hp → Prop} {m : Nat} {w : Nat} {P0 : PlV} {E nd : Nat → Nat} {H L Y : Nat → Int} {nn : Nat} {wk bu : Nat → OmV} {kf : Nat → Int64} {pf lf pp : Nat → List Int64} {ks : List (Int64 × OmV)} {ra : Nat → Nat} {l : List Nat} {pu : Nat → OutV} (ok : Ok S h) (h1 : 15 ≤ d) (hm : sK S m = 14) (TF : DfC S h (sT S 1665 m) P0) (ST : ArI S h m 1707 (fun t => ((E t : Nat) : Int)) 14) (HA : ArI S h m 1713 H 2) (NE : NeR h m nn) (LF_ : ArI S h m 1714 L 2) (HW : ArI S h m 1715 Y 2) (WK : WkR S h m wk) (WP : WpR S h m kf pf) (BU : OmS S h (sT S 1668 m) bu) (KP : KpR S h m ks) (LP : LpR S h m lf) (RE : ReR S h m ra) (RN : RnR S h m l) (tg : Tg S G) (hw : w < 2) (hN : ∀ u, u < P0.2.2.length → (bt nn u ↔ nd u = 1)) (hH : ∀ u, u < P0.2.2.length → nd u = 1 → tH P0.2.2 u = true) (hB : ∀ t : Nat, t < P0.2.2.length → chs P0.2.2 nd E H = (t : Int) → tkA P0 t = [] → tkI P0 (fun u => oV (bu u)) t = tkI P0 pu t) (hO : ∀ t, t < P0.2.2.length → okN (tgW (tD P0.2.2 t)) ∧ ∃ r : Nat, rix (tgR (tD P0.2.2 t)) = (r : Int)) (hl : 0 ≤ chs P0.2.2 nd E H → l.length < 14) (hb1 : ∀ t, t < 14 → (pu t).1 = true → lf t = pp t ∧ 0 < (pp t).length) (hb0 : ∀ t, t < 14 → (pu t).1 = false → lf t = [])
    (k0 : chs P0.2.2 nd E H < 0 → Q none h)
    (k1 : ∀ (t : Nat) h', chs P0.2.2 nd E H = (t : Int) → t < P0.2.2.length → Fr S m [1713, 1714, 1715, 1716, 1717, 1718, 1719, 1678, 1679, 1680, 1672, 1673, 1708, 1709, 1683, 1685, 1686, 1687, 1688, 1698, 1699, 1700, 1689, 1690, 1691, 1692, 1693, 1694, 1695, 1696, 1697, 1681, 1682, 1684, 1677] h h' → tkA P0 t ≠ [] → ArI S h' m 1713 (upO H w ((t : Nat) : Int)) 2 → ArI S h' m 1714 (upO L w 1) 2 → ArI S h' m 1715 (upO Y w 0) 2 → WkR S h' m (upO wk w ([], [], tkA P0 t)) → WpR S h' m kf pf → RnR S h' m l → ReR S h' m ra → Q none h')
    (k2 : ∀ (t : Nat) h', chs P0.2.2 nd E H = (t : Int) → t < P0.2.2.length → Fr S m [1713, 1714, 1715, 1716, 1717, 1718, 1719, 1678, 1679, 1680, 1672, 1673, 1708, 1709, 1683, 1685, 1686, 1687, 1688, 1698, 1699, 1700, 1689, 1690, 1691, 1692, 1693, 1694, 1695, 1696, 1697, 1681, 1682, 1684, 1677] h h' → tkA P0 t = [] → 0 ≤ kfM ks (tkK P0 pu t) → ArI S h' m 1713 (upO H w ((t : Nat) : Int)) 2 → ArI S h' m 1714 (upO L w 1) 2 → ArI S h' m 1715 (upO Y w 1) 2 → WkR S h' m (upO wk w (oM ks (kfM ks (tkK P0 pu t)).toNat)) → WpR S h' m (upO kf w (tkK P0 pu t)) (upO pf w (tkP P0 pu t)) → RnR S h' m l → ReR S h' m ra → Q none h')
    (k3 : ∀ (t : Nat) h' (x : OmV), chs P0.2.2 nd E H = (t : Int) → t < P0.2.2.length → Fr S m [1713, 1714, 1715, 1716, 1717, 1718, 1719, 1678, 1679, 1680, 1672, 1673, 1708, 1709, 1683, 1685, 1686, 1687, 1688, 1698, 1699, 1700, 1689, 1690, 1691, 1692, 1693, 1694, 1695, 1696, 1697, 1681, 1682, 1684, 1677] h h' → tkA P0 t = [] → ¬ 0 ≤ kfM ks (tkK P0 pu t) → ArI S h' m 1713 (upO H w ((t : Nat) : Int)) 2 → ArI S h' m 1714 (upO L w (tkS P0 pu t : Nat)) 2 → ArI S h' m 1715 (upO Y w 2) 2 → oV x = wrkV (tD P0.2.2 t) (tkI P0 pu t) → WkR S h' m (upO wk w x) → WpR S h' m (upO kf w (tkK P0 pu t)) (upO pf w (tkP P0 pu t)) → RnR S h' m (l ++ [t]) → ReR S h' m (upN ra t (rsnW (pu t).1 (tkP P0 pu t) (pp t))) → Q none h') : Cl G d 247 [vR (some m), vI (w : Nat)] h Q := by
  show Wp G d 247 0 [some (vR (some m)), some (vI (w : Nat)), none, none] [] h Q
  have TF_0 := TF
  have ST_0 := ST
  have HA_0 := HA
  have NE_0 := NE
  have LF__0 := LF_
  have HW_0 := HW
  have WK_0 := WK
  have WP_0 := WP
  have BU_0 := BU
  have KP_0 := KP
  have LP_0 := LP
  have RE_0 := RE
  have RN_0 := RN
  refine w_aload_n d247_0 rfl ?_
  refine w_callv1 d247_1 (by omega) rfl (ok.kd hm) (by simp) (Nat.le_of_ble_eq_true rfl) ?_
  refine k_M_takeable ok (by omega) hm TF ST HA NE hN hH ?_
  refine w_istore2 d247_4 rfl ?_
  refine w_iload_n d247_5 rfl ?_
  refine w_ifge d247_6 (fun c6 => ?_) (fun c6 => ?_)
  · obtain ⟨t, et, htl⟩ : ∃ t : Nat, chs P0.2.2 nd E H = (t : Int) ∧ t < P0.2.2.length := ⟨(chs P0.2.2 nd E H).toNat, by omega, by have := (chs_rg P0.2.2 nd E H).2; omega⟩
    have ht := htl
    have hld := hl (by omega)
    have t14 : t < 14 := by have := TF.2.2.2.1; omega
    rw [et]
    have rdy : rdyB P0.2.2 E t = true := by
      have g := srF_rg (p := mayB P0.2.2 nd E H) (n := P0.2.2.length) (i := 0)
      change chs P0.2.2 nd E H = -1 ∨ ∃ j, 0 ≤ j ∧ j < P0.2.2.length ∧ chs P0.2.2 nd E H = (j : Int) ∧ _ at g
      rcases g with g | ⟨j, -, -, j3, j4⟩
      · omega
      · have ej : j = t := by omega
        rw [ej] at j4
        unfold mayB at j4
        exact (of_decide_eq_true j4).2.2.2.2
    refine w_aload_n d247_10 rfl ?_
    refine w_dloadS d247_11 (ok.kd hm) (fr1713 ok hm) ?_
    refine w_iload_n d247_14 rfl ?_
    refine w_iload_n d247_15 rfl ?_
    refine wa1713 d247_16 ok hm (by omega) (by omega) (fun h16 e16 m16 => ?_)
    have e16 : h16 = sAI h (sT S 1713 m) w ((t : Nat) : Int) := e16
    have f16 : Fr S m [1713] _ _ := Fr.wB ok hm m16 (fun ζ e => ⟨1713, by decide, by decide, e ▸ U_refl⟩)
    have ok16 := f16.ok
    have FR16 := Fr.le (F := [1713, 1714, 1715, 1716, 1717, 1718, 1719, 1678, 1679, 1680, 1672, 1673, 1708, 1709, 1683, 1685, 1686, 1687, 1688, 1698, 1699, 1700, 1689, 1690, 1691, 1692, 1693, 1694, 1695, 1696, 1697, 1681, 1682, 1684, 1677]) f16 (by decide)
    have TF := DfC.r (f := 1665) f16 hm (by decide) TF
    have ST := ST.r f16 hm
    have NE := NE.r f16 hm
    have LF_ := LF_.r f16 hm
    have HW := HW.r f16 hm
    have WK := WK.r f16 hm
    have WP := WP.r f16 hm
    have BU := OmS.r (f := 1668) f16 hm (Or.inl rfl) (by decide) BU
    have KP := KP.r f16 hm
    have LP := LP.r f16 hm
    have RE := RE.r f16 hm
    have RN := RN.r f16 hm
    have HA := HA.w e16
    refine w_aload_n d247_17 rfl ?_
    refine w_dloadS d247_18 (ok16.kd hm) (fr1714 ok16 hm) ?_
    refine w_iload_n d247_21 rfl ?_
    refine w_iconst d247_22 (by decide) ?_
    refine wa1714 d247_23 ok16 hm (by omega) (by omega) (fun h23 e23 m23 => ?_)
    have e23 : h23 = sAI h16 (sT S 1714 m) w 1 := e23
    have f23 : Fr S m [1714] _ _ := Fr.wB ok16 hm m23 (fun ζ e => ⟨1714, by decide, by decide, e ▸ U_refl⟩)
    have ok23 := f23.ok
    have FR23 := Fr.tr (F := [1713, 1714, 1715, 1716, 1717, 1718, 1719, 1678, 1679, 1680, 1672, 1673, 1708, 1709, 1683, 1685, 1686, 1687, 1688, 1698, 1699, 1700, 1689, 1690, 1691, 1692, 1693, 1694, 1695, 1696, 1697, 1681, 1682, 1684, 1677]) FR16 f23 (by decide) (by decide)
    have TF := DfC.r (f := 1665) f23 hm (by decide) TF
    have ST := ST.r f23 hm
    have NE := NE.r f23 hm
    have HW := HW.r f23 hm
    have WK := WK.r f23 hm
    have WP := WP.r f23 hm
    have BU := OmS.r (f := 1668) f23 hm (Or.inl rfl) (by decide) BU
    have KP := KP.r f23 hm
    have LP := LP.r f23 hm
    have RE := RE.r f23 hm
    have RN := RN.r f23 hm
    have HA := HA.r f23 hm
    have LF_ := LF_.w e23
    refine w_aload_n d247_24 rfl ?_
    refine w_dloadS d247_25 (ok23.kd hm) (fr1715 ok23 hm) ?_
    refine w_iload_n d247_28 rfl ?_
    refine w_iconst d247_29 (by decide) ?_
    refine wa1715 d247_30 ok23 hm (by omega) (by omega) (fun h30 e30 m30 => ?_)
    have e30 : h30 = sAI h23 (sT S 1715 m) w 0 := e30
    have f30 : Fr S m [1715] _ _ := Fr.wB ok23 hm m30 (fun ζ e => ⟨1715, by decide, by decide, e ▸ U_refl⟩)
    have ok30 := f30.ok
    have FR30 := Fr.tr (F := [1713, 1714, 1715, 1716, 1717, 1718, 1719, 1678, 1679, 1680, 1672, 1673, 1708, 1709, 1683, 1685, 1686, 1687, 1688, 1698, 1699, 1700, 1689, 1690, 1691, 1692, 1693, 1694, 1695, 1696, 1697, 1681, 1682, 1684, 1677]) FR23 f30 (by decide) (by decide)
    have TF := DfC.r (f := 1665) f30 hm (by decide) TF
    have ST := ST.r f30 hm
    have NE := NE.r f30 hm
    have WK := WK.r f30 hm
    have WP := WP.r f30 hm
    have BU := OmS.r (f := 1668) f30 hm (Or.inl rfl) (by decide) BU
    have KP := KP.r f30 hm
    have LP := LP.r f30 hm
    have RE := RE.r f30 hm
    have RN := RN.r f30 hm
    have HA := HA.r f30 hm
    have LF_ := LF_.r f30 hm
    have HW := HW.w e30
    refine w_aload_n d247_31 rfl ?_
    refine w_dloadS d247_32 (ok30.kd hm) (fr1665 ok30 hm) ?_
    refine w_iload_n d247_35 rfl ?_
    refine w_aload_n d247_36 rfl ?_
    refine w_dloadS d247_37 (ok30.kd hm) (fr1716 ok30 hm) ?_
    refine w_iload_n d247_40 rfl ?_
    have k41 := kE1716 ok30 hm (j := w) (by omega)
    refine w_aaloadSN d247_41 (gi1716 ok30 hm (by omega)) (er1716 ok30 hm (by omega)) ?_
    have WKo := WK
    have okb := ok30
    refine w_calls3 d247_42 (by omega) rfl rfl (by simp) (Nat.le_of_ble_eq_true rfl) ?_
    refine k_M_failsAhead2 ok30 (by omega) tg (kT1665 ok30 hm) k41 TF.1 TF.2.1 TF.2.2 ht (WK w hw) (fun y u z => ok30.so.sib (f := 1665) (g := 1716) (by decide) (by decide) (by decide) u (U_trans (ok30.so.uE (by omega) U_refl) z)) (fun h42 m42 OC => ?_)
    have f42 : Fr S m [1716] _ _ := Fr.wB ok30 hm m42 (fun ζ u => ⟨1716, by decide, by decide, U_trans (ok.so.uE (by omega) U_refl) u⟩)
    have ok42 := f42.ok
    have FR42 := Fr.tr (F := [1713, 1714, 1715, 1716, 1717, 1718, 1719, 1678, 1679, 1680, 1672, 1673, 1708, 1709, 1683, 1685, 1686, 1687, 1688, 1698, 1699, 1700, 1689, 1690, 1691, 1692, 1693, 1694, 1695, 1696, 1697, 1681, 1682, 1684, 1677]) FR30 f42 (by decide) (by decide)
    have TF := DfC.r (f := 1665) f42 hm (by decide) TF
    have ST := ST.r f42 hm
    have NE := NE.r f42 hm
    have WP := WP.r f42 hm
    have BU := OmS.r (f := 1668) f42 hm (Or.inl rfl) (by decide) BU
    have KP := KP.r f42 hm
    have LP := LP.r f42 hm
    have RE := RE.r f42 hm
    have RN := RN.r f42 hm
    have HA := HA.r f42 hm
    have LF_ := LF_.r f42 hm
    have HW := HW.r f42 hm
    have WK := WKo.w okb hm hw m42 OC
    refine w_ifeq d247_45 (fun c45 => ?_) (fun c45 => ?_)
    · have ta : tkA P0 t = [] := by
        by_cases z : tkA P0 t = []
        · exact z
        · rw [decide_eq_true z] at c45; exact absurd c45 (by decide)
      rw [if_neg (fun z => z ta)] at WK
      have WK : WkR S h42 m wk := fun j hj => by
        have := WK j hj
        unfold upO at this
        by_cases q : j = w
        · rw [if_pos q] at this; rw [q] at this ⊢; exact this
        · rw [if_neg q] at this; exact this
      have nom := noMis_of ta
      have hBt := hB t ht et ta
      obtain ⟨r, hr⟩ := (hO t ht).2
      have eP : (tkP P0 pu t) = ptL (tD P0.2.2 t) (inpL P0.1 P0.2.2 (fun u => oV (bu u)) (tD P0.2.2 t)) (tgI (tD P0.2.2 t)).length := by
        unfold tkP
        rw [← hBt]
        unfold tkI
        rw [inpL_len]
      refine w_aload_n d247_49 rfl ?_
      refine w_aload_n d247_50 rfl ?_
      refine w_dloadS d247_51 (ok42.kd hm) (fr1665 ok42 hm) ?_
      refine w_iload_n d247_54 rfl ?_
      refine w_aload_n d247_55 rfl ?_
      refine w_dloadS d247_56 (ok42.kd hm) (fr1668 ok42 hm) ?_
      refine w_callv4 d247_59 (by omega) rfl (ok42.kd hm) (by simp) (Nat.le_of_ble_eq_true rfl) ?_
      refine k_M_findKey ok42 (by omega) hm (kT1665 ok42 hm) tg (Or.inl rfl) TF.1 TF.2.2 ht BU nom (fun y u z => z.elim (fun z => by have := ok42.so.uLe u; have := ok42.so.ltT (f := 1665) (a := m) (by decide); omega) (fun z => ok42.so.sib (f := 1665) (g := 1678) (by decide) (by decide) (by decide) u (z ▸ U_refl))) (fun h59 m59 q59 PR KY => ?_)
      have f59 : Fr S m [1677, 1678, 1679, 1680] _ _ := Fr.mk ok42 m59 (fun ζ q => q.elim ((fun ζ e => Or.inl e) ζ) ((fun ζ e => Or.inr ⟨1678, by decide, e ▸ U_refl⟩) ζ)) q59 (by decide)
      have ok59 := f59.ok
      have FR59 := Fr.tr (F := [1713, 1714, 1715, 1716, 1717, 1718, 1719, 1678, 1679, 1680, 1672, 1673, 1708, 1709, 1683, 1685, 1686, 1687, 1688, 1698, 1699, 1700, 1689, 1690, 1691, 1692, 1693, 1694, 1695, 1696, 1697, 1681, 1682, 1684, 1677]) FR42 f59 (by decide) (by decide)
      have TF := DfC.r (f := 1665) f59 hm (by decide) TF
      have ST := ST.r f59 hm
      have NE := NE.r f59 hm
      have WP := WP.r f59 hm
      have BU := OmS.r (f := 1668) f59 hm (Or.inl rfl) (by decide) BU
      have KP := KP.r f59 hm
      have LP := LP.r f59 hm
      have RE := RE.r f59 hm
      have RN := RN.r f59 hm
      have HA := HA.r f59 hm
      have LF_ := LF_.r f59 hm
      have HW := HW.r f59 hm
      have WK := WK.r f59 hm
      rw [← eP] at PR KY
      have p7 := PR.2.1
      have WPo := WP
      have p0 : 0 < (tkP P0 pu t).length := by rw [eP, ptL_len]; omega
      refine w_aload_n d247_62 rfl ?_
      refine w_dloadS d247_63 (ok59.kd hm) (fr1717 ok59 hm) ?_
      refine w_iload_n d247_66 rfl ?_
      refine w_aload_n d247_67 rfl ?_
      refine w_floadV (x := (tkK P0 pu t)) d247_68 (ok59.kd hm) KY ?_
      refine wa1717 d247_71 ok59 hm (by omega) (fun h71 e71 m71 => ?_)
      have e71 : h71 = sAL h59 (sT S 1717 m) w (tkK P0 pu t) := e71
      have f71 : Fr S m [1717] _ _ := Fr.wB ok59 hm m71 (fun ζ e => ⟨1717, by decide, by decide, e ▸ U_refl⟩)
      have ok71 := f71.ok
      have FR71 := Fr.tr (F := [1713, 1714, 1715, 1716, 1717, 1718, 1719, 1678, 1679, 1680, 1672, 1673, 1708, 1709, 1683, 1685, 1686, 1687, 1688, 1698, 1699, 1700, 1689, 1690, 1691, 1692, 1693, 1694, 1695, 1696, 1697, 1681, 1682, 1684, 1677]) FR59 f71 (by decide) (by decide)
      have TF := DfC.r (f := 1665) f71 hm (by decide) TF
      have ST := ST.r f71 hm
      have NE := NE.r f71 hm
      have BU := OmS.r (f := 1668) f71 hm (Or.inl rfl) (by decide) BU
      have KP := KP.r f71 hm
      have LP := LP.r f71 hm
      have RE := RE.r f71 hm
      have RN := RN.r f71 hm
      have HA := HA.r f71 hm
      have LF_ := LF_.r f71 hm
      have HW := HW.r f71 hm
      have WK := WK.r f71 hm
      have PR := PR.r f71 hm
      have KY := (f71.l 1680).trans KY
      refine w_aload_n d247_72 rfl ?_
      refine w_dloadS d247_73 (ok71.kd hm) (fr1719 ok71 hm) ?_
      refine w_iload_n d247_76 rfl ?_
      refine w_aload_n d247_77 rfl ?_
      refine w_getI (x := (((tkP P0 pu t).length : Nat) : Int)) d247_78 (ok71.kd hm) PR.1 ?_
      refine wa1719 d247_81 ok71 hm (by omega) (by omega) (fun h81 e81 m81 => ?_)
      have e81 : h81 = sAI h71 (sT S 1719 m) w (((tkP P0 pu t).length : Nat) : Int) := e81
      have f81 : Fr S m [1719] _ _ := Fr.wB ok71 hm m81 (fun ζ e => ⟨1719, by decide, by decide, e ▸ U_refl⟩)
      have ok81 := f81.ok
      have FR81 := Fr.tr (F := [1713, 1714, 1715, 1716, 1717, 1718, 1719, 1678, 1679, 1680, 1672, 1673, 1708, 1709, 1683, 1685, 1686, 1687, 1688, 1698, 1699, 1700, 1689, 1690, 1691, 1692, 1693, 1694, 1695, 1696, 1697, 1681, 1682, 1684, 1677]) FR71 f81 (by decide) (by decide)
      have TF := DfC.r (f := 1665) f81 hm (by decide) TF
      have ST := ST.r f81 hm
      have NE := NE.r f81 hm
      have BU := OmS.r (f := 1668) f81 hm (Or.inl rfl) (by decide) BU
      have KP := KP.r f81 hm
      have LP := LP.r f81 hm
      have RE := RE.r f81 hm
      have RN := RN.r f81 hm
      have HA := HA.r f81 hm
      have LF_ := LF_.r f81 hm
      have HW := HW.r f81 hm
      have WK := WK.r f81 hm
      have PR := PR.r f81 hm
      have KY := (f81.l 1680).trans KY
      refine w_iconst d247_82 (by decide) ?_
      refine w_istore3 d247_83 rfl ?_
      have L84 : ∀ (m84 : Nat) (g : Hp) (k : Nat), (tkP P0 pu t).length - k = m84 → Fr S m [1713, 1714, 1715, 1716, 1717, 1718, 1719, 1678, 1679, 1680, 1672, 1673, 1708, 1709, 1683, 1685, 1686, 1687, 1688, 1698, 1699, 1700, 1689, 1690, 1691, 1692, 1693, 1694, 1695, 1696, 1697, 1681, 1682, 1684, 1677] h g → (k ≤ (tkP P0 pu t).length) → (WpS S h59 g m w k (tkK P0 pu t) (tkP P0 pu t)) → (ArI S g m 1713 (upO H w ((t : Nat) : Int)) 2) → (ArI S g m 1714 (upO L w 1) 2) → (ArI S g m 1715 (upO Y w 0) 2) → (WkR S g m wk) → (PaR S g m (tkP P0 pu t)) → (FL g 1680 m = (tkK P0 pu t)) → (ReR S g m ra) → (RnR S g m l) → Wp G d 247 84 [some (vR (some m)), some (vI (w : Nat)), some (vI (t : Nat)), some (vI (k : Nat))] [] g Q := by
        intro m84
        induction m84 using Nat.strongRecOn with | ind m84 IH84 => ?_
        intro g k hm84 FRg kl WS HA LF_ HW WK PR KY RE RN
        have okg := FRg.ok
        have TF := DfC.r (f := 1665) FRg hm (by decide) TF_0
        have ST := ST_0.r FRg hm
        have NE := NE_0.r FRg hm
        have BU := OmS.r (f := 1668) FRg hm (Or.inl rfl) (by decide) BU_0
        have KP := KP_0.r FRg hm
        have LP := LP_0.r FRg hm
        refine w_iload_n d247_84 rfl ?_
        refine w_aload_n d247_85 rfl ?_
        refine w_getI (x := (((tkP P0 pu t).length : Nat) : Int)) d247_86 (okg.kd hm) PR.1 ?_
        refine w_icmpge d247_89 (fun c89 => ?_) (fun c89 => ?_)
        · have ek : k = (tkP P0 pu t).length := by omega
          rw [ek] at WS
          have WP := WS.e WPo p7
          refine w_aload_n d247_115 rfl ?_
          refine w_aload_n d247_116 rfl ?_
          refine w_floadV (x := (tkK P0 pu t)) d247_117 (okg.kd hm) KY ?_
          refine w_callv2 d247_120 (by omega) rfl (okg.kd hm) (by simp) (Nat.le_of_ble_eq_true rfl) ?_
          refine k_M_keptOf okg (by omega) hm KP ?_
          refine w_istore3 d247_123 rfl ?_
          refine w_aload_n d247_124 rfl ?_
          refine w_dloadS d247_125 (okg.kd hm) (fr1715 okg hm) ?_
          refine w_iload_n d247_128 rfl ?_
          refine w_iload_n d247_129 rfl ?_
          refine w_iflt d247_130 (fun c130 => ?_) (fun c130 => ?_)
          · have nk : ¬ 0 ≤ kfM ks (tkK P0 pu t) := by omega
            refine w_iconst d247_137 (by decide) ?_
            refine wa1715 d247_138 okg hm (by omega) (by omega) (fun h138 e138 m138 => ?_)
            have e138 : h138 = sAI g (sT S 1715 m) w 2 := e138
            have f138 : Fr S m [1715] _ _ := Fr.wB okg hm m138 (fun ζ e => ⟨1715, by decide, by decide, e ▸ U_refl⟩)
            have ok138 := f138.ok
            have FR138 := Fr.tr (F := [1713, 1714, 1715, 1716, 1717, 1718, 1719, 1678, 1679, 1680, 1672, 1673, 1708, 1709, 1683, 1685, 1686, 1687, 1688, 1698, 1699, 1700, 1689, 1690, 1691, 1692, 1693, 1694, 1695, 1696, 1697, 1681, 1682, 1684, 1677]) FRg f138 (by decide) (by decide)
            have HA := HA.r f138 hm
            have LF_ := LF_.r f138 hm
            have WK := WK.r f138 hm
            have PR := PR.r f138 hm
            have KY := (f138.l 1680).trans KY
            have RE := RE.r f138 hm
            have RN := RN.r f138 hm
            have TF := DfC.r (f := 1665) f138 hm (by decide) TF
            have ST := ST.r f138 hm
            have NE := NE.r f138 hm
            have BU := OmS.r (f := 1668) f138 hm (Or.inl rfl) (by decide) BU
            have KP := KP.r f138 hm
            have LP := LP.r f138 hm
            have WP := WP.r f138 hm
            have HW := HW.w e138
            refine w_iload_n d247_139 rfl ?_
            refine w_iflt d247_140 (fun c140 => ?_) (fun c140 => ?_)
            · have HW : ArI S h138 m 1715 (upO Y w 2) 2 := by rw [upO_upO] at HW; exact HW
              refine w_aload_n d247_159 rfl ?_
              refine w_iload_n d247_160 rfl ?_
              refine w_callv2 d247_161 (by omega) rfl (ok138.kd hm) (by simp) (Nat.le_of_ble_eq_true rfl) ?_
              refine k_M_findReason ok138 (by omega) hm PR LP RE t14 p0 (hb1 t t14) (hb0 t t14) (fun h161 f161 RE => ?_)
              have ok161 := f161.ok
              have FR161 := Fr.tr (F := [1713, 1714, 1715, 1716, 1717, 1718, 1719, 1678, 1679, 1680, 1672, 1673, 1708, 1709, 1683, 1685, 1686, 1687, 1688, 1698, 1699, 1700, 1689, 1690, 1691, 1692, 1693, 1694, 1695, 1696, 1697, 1681, 1682, 1684, 1677]) FR138 f161 (by decide) (by decide)
              have HA := HA.r f161 hm
              have LF_ := LF_.r f161 hm
              have WK := WK.r f161 hm
              have PR := PR.r f161 hm
              have KY := (f161.l 1680).trans KY
              have RN := RN.r f161 hm
              have TF := DfC.r (f := 1665) f161 hm (by decide) TF
              have ST := ST.r f161 hm
              have NE := NE.r f161 hm
              have BU := OmS.r (f := 1668) f161 hm (Or.inl rfl) (by decide) BU
              have KP := KP.r f161 hm
              have LP := LP.r f161 hm
              have WP := WP.r f161 hm
              have HW := HW.r f161 hm
              refine w_aload_n d247_164 rfl ?_
              refine w_dloadS d247_165 (ok161.kd hm) (fr1708 ok161 hm) ?_
              refine w_aload_n d247_168 rfl ?_
              refine w_getI (x := ((l.length : Nat) : Int)) d247_169 (ok161.kd hm) RN.1 ?_
              refine w_iload_n d247_172 rfl ?_
              have RNo := RN
              refine wa1708 d247_173 ok161 hm (by omega) (by omega) (fun h173 e173 m173 => ?_)
              have e173 : h173 = sAI h161 (sT S 1708 m) l.length ((t : Nat) : Int) := e173
              have f173 : Fr S m [1708] _ _ := Fr.wB ok161 hm m173 (fun ζ e => ⟨1708, by decide, by decide, e ▸ U_refl⟩)
              have ok173 := f173.ok
              have FR173 := Fr.tr (F := [1713, 1714, 1715, 1716, 1717, 1718, 1719, 1678, 1679, 1680, 1672, 1673, 1708, 1709, 1683, 1685, 1686, 1687, 1688, 1698, 1699, 1700, 1689, 1690, 1691, 1692, 1693, 1694, 1695, 1696, 1697, 1681, 1682, 1684, 1677]) FR161 f173 (by decide) (by decide)
              have HA := HA.r f173 hm
              have LF_ := LF_.r f173 hm
              have WK := WK.r f173 hm
              have PR := PR.r f173 hm
              have KY := (f173.l 1680).trans KY
              have RE := RE.r f173 hm
              have TF := DfC.r (f := 1665) f173 hm (by decide) TF
              have ST := ST.r f173 hm
              have NE := NE.r f173 hm
              have BU := OmS.r (f := 1668) f173 hm (Or.inl rfl) (by decide) BU
              have KP := KP.r f173 hm
              have LP := LP.r f173 hm
              have WP := WP.r f173 hm
              have HW := HW.r f173 hm
              refine w_aload_n d247_174 rfl ?_
              refine w_dupR d247_175 ?_
              refine w_getI (x := ((l.length : Nat) : Int)) d247_176 (ok173.kd hm) ((f173.i 1709).trans RNo.1) ?_
              refine w_iconst d247_179 (by decide) ?_
              refine w_iadd d247_180 (by constructor <;> omega) ?_
              refine wf1709 d247_181 ok173 hm (by omega) (fun h181 e181 m181 => ?_)
              have f181 : Fr S m [1709] _ _ := Fr.wF ok173 m181 (FK.pI e181)
              have ok181 := f181.ok
              have FR181 := Fr.tr (F := [1713, 1714, 1715, 1716, 1717, 1718, 1719, 1678, 1679, 1680, 1672, 1673, 1708, 1709, 1683, 1685, 1686, 1687, 1688, 1698, 1699, 1700, 1689, 1690, 1691, 1692, 1693, 1694, 1695, 1696, 1697, 1681, 1682, 1684, 1677]) FR173 f181 (by decide) (by decide)
              have HA := HA.r f181 hm
              have LF_ := LF_.r f181 hm
              have WK := WK.r f181 hm
              have PR := PR.r f181 hm
              have KY := (f181.l 1680).trans KY
              have RE := RE.r f181 hm
              have TF := DfC.r (f := 1665) f181 hm (by decide) TF
              have ST := ST.r f181 hm
              have NE := NE.r f181 hm
              have BU := OmS.r (f := 1668) f181 hm (Or.inl rfl) (by decide) BU
              have KP := KP.r f181 hm
              have LP := LP.r f181 hm
              have WP := WP.r f181 hm
              have HW := HW.r f181 hm
              have RN := RNo.w ok181.so hld e173 e181
              refine w_aload_n d247_184 rfl ?_
              refine w_aload_n d247_185 rfl ?_
              refine w_dloadS d247_186 (ok181.kd hm) (fr1665 ok181 hm) ?_
              refine w_iload_n d247_189 rfl ?_
              refine w_aload_n d247_190 rfl ?_
              refine w_dloadS d247_191 (ok181.kd hm) (fr1668 ok181 hm) ?_
              refine w_callv4 d247_194 (by omega) rfl (ok181.kd hm) (by simp) (Nat.le_of_ble_eq_true rfl) ?_
              refine k_M_act (fd := 1665) (of := 1668) ok181 (by omega) hm TF BU tg (Or.inr rfl) (Or.inl rfl) ht nom hr (hO t ht).1 (fun h194 x f194 OX hX AL => ?_)
              have ok194 := f194.ok
              have FR194 := Fr.tr (F := [1713, 1714, 1715, 1716, 1717, 1718, 1719, 1678, 1679, 1680, 1672, 1673, 1708, 1709, 1683, 1685, 1686, 1687, 1688, 1698, 1699, 1700, 1689, 1690, 1691, 1692, 1693, 1694, 1695, 1696, 1697, 1681, 1682, 1684, 1677]) FR181 f194 (by decide) (by decide)
              have HA := HA.r f194 hm
              have LF_ := LF_.r f194 hm
              have WK := WK.r f194 hm
              have PR := PR.r f194 hm
              have KY := (f194.l 1680).trans KY
              have RE := RE.r f194 hm
              have TF := DfC.r (f := 1665) f194 hm (by decide) TF
              have ST := ST.r f194 hm
              have NE := NE.r f194 hm
              have BU := OmS.r (f := 1668) f194 hm (Or.inl rfl) (by decide) BU
              have KP := KP.r f194 hm
              have LP := LP.r f194 hm
              have WP := WP.r f194 hm
              have HW := HW.r f194 hm
              have RN := RN.r f194 hm
              refine w_aload_n d247_197 rfl ?_
              refine w_dloadS d247_198 (ok194.kd hm) (fr1716 ok194 hm) ?_
              refine w_iload_n d247_201 rfl ?_
              have k202 := kE1716 ok194 hm (j := w) (by omega)
              refine w_aaloadSN d247_202 (gi1716 ok194 hm (by omega)) (er1716 ok194 hm (by omega)) ?_
              refine w_aload_n d247_203 rfl ?_
              refine w_dloadS d247_204 (ok194.kd hm) (fr1683 ok194 hm) ?_
              have WKo := WK
              have okb := ok194
              refine w_callv2 d247_207 (by omega) rfl (ok194.kd k202) (by simp) (Nat.le_of_ble_eq_true rfl) ?_
              refine k_O_copy ok194 (by omega) k202 (kT1683 ok194 hm) OX (fun y u z => ok194.so.sib (f := 1683) (g := 1716) (by decide) (by decide) (by decide) u (U_trans (ok194.so.uE (by omega) U_refl) z)) (fun h207 m207 OC => ?_)
              have f207 : Fr S m [1716] _ _ := Fr.wB ok194 hm m207 (fun ζ u => ⟨1716, by decide, by decide, U_trans (ok.so.uE (by omega) U_refl) u⟩)
              have ok207 := f207.ok
              have FR207 := Fr.tr (F := [1713, 1714, 1715, 1716, 1717, 1718, 1719, 1678, 1679, 1680, 1672, 1673, 1708, 1709, 1683, 1685, 1686, 1687, 1688, 1698, 1699, 1700, 1689, 1690, 1691, 1692, 1693, 1694, 1695, 1696, 1697, 1681, 1682, 1684, 1677]) FR194 f207 (by decide) (by decide)
              have HA := HA.r f207 hm
              have LF_ := LF_.r f207 hm
              have PR := PR.r f207 hm
              have KY := (f207.l 1680).trans KY
              have RE := RE.r f207 hm
              have TF := DfC.r (f := 1665) f207 hm (by decide) TF
              have ST := ST.r f207 hm
              have NE := NE.r f207 hm
              have BU := OmS.r (f := 1668) f207 hm (Or.inl rfl) (by decide) BU
              have KP := KP.r f207 hm
              have LP := LP.r f207 hm
              have WP := WP.r f207 hm
              have HW := HW.r f207 hm
              have RN := RN.r f207 hm
              have AL := AL.r f207 hm
              have WK := WKo.w okb hm hw m207 OC
              refine w_aload_n d247_210 rfl ?_
              refine w_dloadS d247_211 (ok207.kd hm) (fr1714 ok207 hm) ?_
              refine w_iload_n d247_214 rfl ?_
              refine w_iconst d247_215 (by decide) ?_
              refine w_aload_n d247_216 rfl ?_
              refine w_getI (x := (((inR P0.1 P0.2.2 bu t).flatten.length : Nat) : Int)) d247_217 (ok207.kd hm) AL.1 ?_
              have al6 := AL.2.2.1
              have sl6 := sLT ok207 (f := 1681) (n := 3600) hm (by decide) rfl (by decide)
              refine w_bipush d247_220 (by decide) ?_
              refine w_iadd d247_222 (by constructor <;> omega) ?_
              refine w_bipush d247_223 (by decide) ?_
              refine w_idiv d247_225 (by decide) ?_
              rw [tdiv_n]
              refine w_iadd d247_226 (by constructor <;> omega) ?_
              refine wa1714 d247_227 ok207 hm (by omega) (by omega) (fun h227 e227 m227 => ?_)
              have e227 : h227 = sAI h207 (sT S 1714 m) w (2 + ((((inR P0.1 P0.2.2 bu t).flatten.length + 9) / 10 : Nat) : Int)) := e227
              have f227 : Fr S m [1714] _ _ := Fr.wB ok207 hm m227 (fun ζ e => ⟨1714, by decide, by decide, e ▸ U_refl⟩)
              have ok227 := f227.ok
              have FR227 := Fr.tr (F := [1713, 1714, 1715, 1716, 1717, 1718, 1719, 1678, 1679, 1680, 1672, 1673, 1708, 1709, 1683, 1685, 1686, 1687, 1688, 1698, 1699, 1700, 1689, 1690, 1691, 1692, 1693, 1694, 1695, 1696, 1697, 1681, 1682, 1684, 1677]) FR207 f227 (by decide) (by decide)
              have HA := HA.r f227 hm
              have PR := PR.r f227 hm
              have KY := (f227.l 1680).trans KY
              have RE := RE.r f227 hm
              have TF := DfC.r (f := 1665) f227 hm (by decide) TF
              have ST := ST.r f227 hm
              have NE := NE.r f227 hm
              have BU := OmS.r (f := 1668) f227 hm (Or.inl rfl) (by decide) BU
              have KP := KP.r f227 hm
              have LP := LP.r f227 hm
              have WP := WP.r f227 hm
              have HW := HW.r f227 hm
              have RN := RN.r f227 hm
              have AL := AL.r f227 hm
              have WK := WK.r f227 hm
              have LF_ := LF_.w e227
              refine w_return d247_228 ?_
              rw [upO_upO] at LF_
              refine k3 t _ x et ht FR227 ta nk HA ?_ HW (by rw [hX]; exact congrArg _ hBt) WK WP RN RE
              have es : (tkS P0 pu t : Nat) = 2 + ((inR P0.1 P0.2.2 bu t).flatten.length + 9) / 10 := by
                unfold tkS
                rw [← hBt, flat_tot (Nat.le_refl _), List.take_length]
                rfl
              rw [es]
              exact LF_
            · omega
          · obtain ⟨p, hp⟩ : ∃ p : Nat, kfM ks (tkK P0 pu t) = (p : Int) := ⟨(kfM ks (tkK P0 pu t)).toNat, by omega⟩
            have hpl : p < ks.length := by have := kfM_rg ks (tkK P0 pu t); omega
            rw [hp]
            refine w_iconst d247_133 (by decide) ?_
            refine w_goto d247_134 ?_
            refine wa1715 d247_138 okg hm (by omega) (by omega) (fun h138 e138 m138 => ?_)
            have e138 : h138 = sAI g (sT S 1715 m) w 1 := e138
            have f138 : Fr S m [1715] _ _ := Fr.wB okg hm m138 (fun ζ e => ⟨1715, by decide, by decide, e ▸ U_refl⟩)
            have ok138 := f138.ok
            have FR138 := Fr.tr (F := [1713, 1714, 1715, 1716, 1717, 1718, 1719, 1678, 1679, 1680, 1672, 1673, 1708, 1709, 1683, 1685, 1686, 1687, 1688, 1698, 1699, 1700, 1689, 1690, 1691, 1692, 1693, 1694, 1695, 1696, 1697, 1681, 1682, 1684, 1677]) FRg f138 (by decide) (by decide)
            have HA := HA.r f138 hm
            have LF_ := LF_.r f138 hm
            have WK := WK.r f138 hm
            have PR := PR.r f138 hm
            have KY := (f138.l 1680).trans KY
            have RE := RE.r f138 hm
            have RN := RN.r f138 hm
            have TF := DfC.r (f := 1665) f138 hm (by decide) TF
            have ST := ST.r f138 hm
            have NE := NE.r f138 hm
            have BU := OmS.r (f := 1668) f138 hm (Or.inl rfl) (by decide) BU
            have KP := KP.r f138 hm
            have LP := LP.r f138 hm
            have WP := WP.r f138 hm
            have HW := HW.w e138
            refine w_iload_n d247_139 rfl ?_
            refine w_iflt d247_140 (fun c140 => ?_) (fun c140 => ?_)
            · omega
            · have HW : ArI S h138 m 1715 (upO Y w 1) 2 := by rw [upO_upO] at HW; exact HW
              obtain ⟨q1, q2, σ, s1, s2, q3⟩ := id KP
              refine w_aload_n d247_143 rfl ?_
              refine w_dloadS d247_144 (ok138.kd hm) (fr1716 ok138 hm) ?_
              refine w_iload_n d247_147 rfl ?_
              have k148 := kE1716 ok138 hm (j := w) (by omega)
              refine w_aaloadSN d247_148 (gi1716 ok138 hm (by omega)) (er1716 ok138 hm (by omega)) ?_
              refine w_aload_n d247_149 rfl ?_
              refine w_dloadS d247_150 (ok138.kd hm) (fr1703 ok138 hm) ?_
              refine w_iload_n d247_153 rfl ?_
              refine w_aaloadSN d247_154 (gi1703 ok138 hm (by omega)) ((s1 p (by omega)).2) ?_
              have WKo := WK
              have okb := ok138
              refine w_callv2 d247_155 (by omega) rfl (ok138.kd k148) (by simp) (Nat.le_of_ble_eq_true rfl) ?_
              refine k_O_copy ok138 (by omega) k148 (kE1703 ok138 hm (s1 p (by omega)).1) (q3 p hpl).2 (fun y u z => ok138.so.sib (f := 1703) (g := 1716) (by decide) (by decide) (by decide) (U_trans (ok138.so.uE (by have := (s1 p (by omega)).1; omega) U_refl) u) (U_trans (ok138.so.uE (by omega) U_refl) z)) (fun h155 m155 OC => ?_)
              have f155 : Fr S m [1716] _ _ := Fr.wB ok138 hm m155 (fun ζ u => ⟨1716, by decide, by decide, U_trans (ok.so.uE (by omega) U_refl) u⟩)
              have ok155 := f155.ok
              have FR155 := Fr.tr (F := [1713, 1714, 1715, 1716, 1717, 1718, 1719, 1678, 1679, 1680, 1672, 1673, 1708, 1709, 1683, 1685, 1686, 1687, 1688, 1698, 1699, 1700, 1689, 1690, 1691, 1692, 1693, 1694, 1695, 1696, 1697, 1681, 1682, 1684, 1677]) FR138 f155 (by decide) (by decide)
              have HA := HA.r f155 hm
              have LF_ := LF_.r f155 hm
              have PR := PR.r f155 hm
              have KY := (f155.l 1680).trans KY
              have RE := RE.r f155 hm
              have RN := RN.r f155 hm
              have TF := DfC.r (f := 1665) f155 hm (by decide) TF
              have ST := ST.r f155 hm
              have NE := NE.r f155 hm
              have BU := OmS.r (f := 1668) f155 hm (Or.inl rfl) (by decide) BU
              have KP := KP.r f155 hm
              have LP := LP.r f155 hm
              have WP := WP.r f155 hm
              have HW := HW.r f155 hm
              have WK := WKo.w okb hm hw m155 OC
              refine w_return d247_158 ?_
              exact k2 t _ et ht FR155 ta (by omega) HA LF_ HW (by rw [hp, Int.toNat_natCast]; exact WK) WP RN RE
        · have hk : k < (tkP P0 pu t).length := by omega
          refine w_aload_n d247_92 rfl ?_
          refine w_dloadS d247_93 (okg.kd hm) (fr1718 okg hm) ?_
          refine w_bipush d247_96 (by decide) ?_
          refine w_iload_n d247_98 rfl ?_
          refine w_imul d247_99 (by constructor <;> omega) ?_
          rw [show (7 : Int) * ((w : Nat) : Int) = ((7 * w : Nat) : Int) by omega]
          refine w_iload_n d247_100 rfl ?_
          refine w_iadd d247_101 (by constructor <;> omega) ?_
          rw [show ((7 * w : Nat) : Int) + ((k : Nat) : Int) = ((7 * w + k : Nat) : Int) by omega]
          refine w_aload_n d247_102 rfl ?_
          refine w_dloadS d247_103 (okg.kd hm) (fr1678 okg hm) ?_
          refine w_iload_n d247_106 rfl ?_
          refine w_laloadV (x := ((tkP P0 pu t).getD k 0)) d247_107 (gi1678 okg hm (by omega)) (PR.2.2 k hk) ?_
          refine wa1718 d247_108 okg hm (by omega) (fun h108 e108 m108 => ?_)
          have e108 : h108 = sAL g (sT S 1718 m) (7 * w + k) ((tkP P0 pu t).getD k 0) := e108
          have f108 : Fr S m [1718] _ _ := Fr.wB okg hm m108 (fun ζ e => ⟨1718, by decide, by decide, e ▸ U_refl⟩)
          have ok108 := f108.ok
          have FR108 := Fr.tr (F := [1713, 1714, 1715, 1716, 1717, 1718, 1719, 1678, 1679, 1680, 1672, 1673, 1708, 1709, 1683, 1685, 1686, 1687, 1688, 1698, 1699, 1700, 1689, 1690, 1691, 1692, 1693, 1694, 1695, 1696, 1697, 1681, 1682, 1684, 1677]) FRg f108 (by decide) (by decide)
          have HA := HA.r f108 hm
          have LF_ := LF_.r f108 hm
          have HW := HW.r f108 hm
          have WK := WK.r f108 hm
          have PR := PR.r f108 hm
          have KY := (f108.l 1680).trans KY
          have RE := RE.r f108 hm
          have RN := RN.r f108 hm
          have TF := DfC.r (f := 1665) f108 hm (by decide) TF
          have ST := ST.r f108 hm
          have NE := NE.r f108 hm
          have BU := OmS.r (f := 1668) f108 hm (Or.inl rfl) (by decide) BU
          have KP := KP.r f108 hm
          have LP := LP.r f108 hm
          refine w_iinc3 d247_109 rfl (by constructor <;> omega) ?_
          refine w_goto d247_112 ?_
          rw [show ((k : Nat) : Int) + 1 = ((k + 1 : Nat) : Int) by omega]
          have WS2 := WS.s okg.so e108
          refine w_less ?_ (IH84 _ (by omega) h108 (k + 1) rfl FR108 (by omega) WS2 HA LF_ HW WK PR KY RE RN)
          exact ⟨Or.inr rfl, Or.inr rfl, Or.inr rfl, Or.inr rfl, trivial⟩
      have WS : WpS S h59 h81 m w 0 (tkK P0 pu t) (tkP P0 pu t) := by
        refine ⟨fun j => ?_, fun j => ?_, fun j => ?_⟩
        · rw [e81]
          show AL h71 _ _ = _
          rw [e71, AL_sAL]
          by_cases q : j = w
          · rw [if_pos ⟨rfl, q⟩, if_pos q]
          · rw [if_neg (fun z => q z.2), if_neg q]
        · rw [e81, sArr, f71.ai (by have := kT1719 ok hm; omega) (by decide) (by decide) (by decide)]
        · rw [if_neg (by omega), f81.al (by have := kT1718 ok hm; omega) (by decide) (by decide) (by decide), f71.al (by have := kT1718 ok hm; omega) (by decide) (by decide) (by decide)]
      refine w_less ?_ (L84 _ h81 0 rfl FR81 (Nat.zero_le _) WS HA LF_ HW WK PR KY RE RN)
      exact ⟨Or.inr rfl, Or.inr rfl, Or.inr rfl, Or.inr rfl, trivial⟩
    · have na : tkA P0 t ≠ [] := fun z => c45 (by rw [decide_eq_false (fun y : tkA P0 t ≠ [] => y z)]; rfl)
      rw [if_pos na] at WK
      refine w_return d247_48 ?_
      exact k1 t _ et ht FR42 na HA LF_ HW WK WP RN RE
  · refine w_return d247_9 ?_
    exact k0 (by omega)
