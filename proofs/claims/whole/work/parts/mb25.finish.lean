/-! the reference: a worker finishes -/
def CtR (S : Shp) (h : Hp) (m : Nat) (C : Nat → Nat) : Prop := FI h 1710 m = (C 0 : Nat) ∧ FI h 1711 m = (C 1 : Nat) ∧ FI h 1712 m = (C 2 : Nat)
theorem CtR.r {S : Shp} {m : Nat} {C : Nat → Nat} {F : List Nat} {h h' : Hp} (D : CtR S h m C) (fr : Fr S m F h h') (_ : sK S m = 14) (h1 : 1710 ∉ F ∧ 1711 ∉ F ∧ 1712 ∉ F := by decide) : CtR S h' m C := ⟨(fr.i _ h1.1).trans D.1, (fr.i _ h1.2.1).trans D.2.1, (fr.i _ h1.2.2).trans D.2.2⟩
theorem CtR.w {S : Shp} {m j f : Nat} {C : Nat → Nat} {h h' : Hp} (D : CtR S h m C) (hj : (j = 0 ∧ f = 1710) ∨ (j = 1 ∧ f = 1711) ∨ (j = 2 ∧ f = 1712)) (e : h' = sFI h f m ((C j : Nat) + 1)) : CtR S h' m (upN C j (C j + 1)) := by
  obtain ⟨a, b, c⟩ := D
  unfold CtR upN
  rw [e]
  rcases hj with ⟨rfl, rfl⟩ | ⟨rfl, rfl⟩ | ⟨rfl, rfl⟩ <;> (simp only [FI_sFI]; simp [a, b, c])
theorem OmS.w {S : Shp} {m f t : Nat} {bu : Nat → OmV} {x : OmV} {h h' : Hp} (D : OmS S h (sT S f m) bu) (ok : Ok S h) (hk : ∀ j, j < 14 → sK S (sE S (sT S f m) j) = 13) (ht : t < 14) (mo : Mo S (fun y => U S (sE S (sT S f m) t) y) h h') (OC : OmC S h' (sE S (sT S f m) t) x) : OmS S h' (sT S f m) (upO bu t x) := fun j hj => by
  unfold upO
  by_cases q : j = t
  · rw [if_pos q, q]; exact OC
  · rw [if_neg q]
    exact (D j hj).u ok mo (hk j hj) (fun y u => nUE ok.so (by omega) (by omega) q u)
theorem PuR.w {S : Shp} {m t : Nat} {pb : Nat → Bool} {h h' : Hp} (D : PuR S h m pb) (e : h' = sAI h (sT S 1666 m) t 1) : PuR S h' m (upO pb t true) := fun j hj => by
  rw [e, sArr]
  unfold upO
  by_cases q : j = t
  · rw [if_pos q, if_pos q]; rfl
  · rw [if_neg q, if_neg q]; exact D j hj
theorem StR.w {S : Shp} {m t x : Nat} {E : Nat → Nat} {h h' : Hp} (D : ArI S h m 1707 (fun t => ((E t : Nat) : Int)) 14) (e : h' = sAI h (sT S 1707 m) t ((x : Nat) : Int)) : ArI S h' m 1707 (fun u => ((upN E t x u : Nat) : Int)) 14 := fun j hj => by
  rw [e, sArr]
  dsimp only
  unfold upN
  by_cases q : j = t
  · rw [if_pos q, if_pos q]
  · rw [if_neg q, if_neg q]; exact D j hj
/-- the latest parts on the way: k parts are written -/
def LpS (S : Shp) (h g : Hp) (m t k : Nat) (ps : List Int64) : Prop := (∀ j, AI g (sT S 1671 m) j = if j = t then ((ps.length : Nat) : Int) else AI h (sT S 1671 m) j) ∧ ∀ j, AL g (sT S 1670 m) j = if 7 * t ≤ j ∧ j < 7 * t + k then ps.getD (j - 7 * t) 0 else AL h (sT S 1670 m) j
theorem LpS.s {S : Shp} {h g g' : Hp} {m t k : Nat} {ps : List Int64} (D : LpS S h g m t k ps) (e : g' = sAL g (sT S 1670 m) (7 * t + k) (ps.getD k 0)) : LpS S h g' m t (k + 1) ps := by
  refine ⟨fun j => ?_, fun j => ?_⟩
  · rw [e]; exact D.1 j
  · rw [e]
    rw [AL_sAL]
    by_cases q : j = 7 * t + k
    · rw [if_pos ⟨rfl, q⟩, if_pos (by omega), show j - 7 * t = k by omega]
    · rw [if_neg (fun z => q z.2), D.2 j]
      by_cases q2 : 7 * t ≤ j ∧ j < 7 * t + k
      · rw [if_pos q2, if_pos (by omega)]
      · rw [if_neg q2, if_neg (by omega)]
theorem LpS.e {S : Shp} {h g : Hp} {m t : Nat} {ps : List Int64} {lf : Nat → List Int64} (D : LpS S h g m t ps.length ps) (W : LpR S h m lf) (h7 : ps.length ≤ 7) : LpR S g m (upO lf t ps) := fun j hj => by
  unfold upO
  rw [D.1]
  by_cases q : j = t
  · rw [if_pos q, if_pos q]
    refine ⟨rfl, h7, fun k hk => ?_⟩
    rw [D.2, if_pos (by omega), show 7 * j + k - 7 * t = k by omega]
  · rw [if_neg q, if_neg q]
    obtain ⟨a, b, c⟩ := W j hj
    refine ⟨a, b, fun k hk => ?_⟩
    rw [D.2, if_neg (by omega)]
    exact c k hk
theorem d290_0 : dc 290 0 = some (.aload_n 0, 1) := by decide +kernel
theorem d290_1 : dc 290 1 = some (.dload 1713, 4) := by decide +kernel
theorem d290_4 : dc 290 4 = some (.iload_n 1, 5) := by decide +kernel
theorem d290_5 : dc 290 5 = some (.iaload, 6) := by decide +kernel
theorem d290_6 : dc 290 6 = some (.istore_n 2, 7) := by decide +kernel
theorem d290_7 : dc 290 7 = some (.aload_n 0, 8) := by decide +kernel
theorem d290_8 : dc 290 8 = some (.dload 1713, 11) := by decide +kernel
theorem d290_11 : dc 290 11 = some (.iload_n 1, 12) := by decide +kernel
theorem d290_12 : dc 290 12 = some (.iconst (-1), 13) := by decide +kernel
theorem d290_13 : dc 290 13 = some (.iastore, 14) := by decide +kernel
theorem d290_14 : dc 290 14 = some (.aload_n 0, 15) := by decide +kernel
theorem d290_15 : dc 290 15 = some (.dload 1715, 18) := by decide +kernel
theorem d290_18 : dc 290 18 = some (.iload_n 1, 19) := by decide +kernel
theorem d290_19 : dc 290 19 = some (.iaload, 20) := by decide +kernel
theorem d290_20 : dc 290 20 = some (.ifCond .ne ((36 : Nat) : Int), 23) := by decide +kernel
theorem d290_23 : dc 290 23 = some (.aload_n 0, 24) := by decide +kernel
theorem d290_24 : dc 290 24 = some (.dup, 25) := by decide +kernel
theorem d290_25 : dc 290 25 = some (.getfield 1712, 28) := by decide +kernel
theorem d290_28 : dc 290 28 = some (.iconst 1, 29) := by decide +kernel
theorem d290_29 : dc 290 29 = some (.iadd, 30) := by decide +kernel
theorem d290_30 : dc 290 30 = some (.putfield 1712, 33) := by decide +kernel
theorem d290_33 : dc 290 33 = some (.goto ((69 : Nat) : Int), 36) := by decide +kernel
theorem d290_36 : dc 290 36 = some (.aload_n 0, 37) := by decide +kernel
theorem d290_37 : dc 290 37 = some (.dload 1715, 40) := by decide +kernel
theorem d290_40 : dc 290 40 = some (.iload_n 1, 41) := by decide +kernel
theorem d290_41 : dc 290 41 = some (.iaload, 42) := by decide +kernel
theorem d290_42 : dc 290 42 = some (.iconst 1, 43) := by decide +kernel
theorem d290_43 : dc 290 43 = some (.if_icmp .ne ((59 : Nat) : Int), 46) := by decide +kernel
theorem d290_46 : dc 290 46 = some (.aload_n 0, 47) := by decide +kernel
theorem d290_47 : dc 290 47 = some (.dup, 48) := by decide +kernel
theorem d290_48 : dc 290 48 = some (.getfield 1711, 51) := by decide +kernel
theorem d290_51 : dc 290 51 = some (.iconst 1, 52) := by decide +kernel
theorem d290_52 : dc 290 52 = some (.iadd, 53) := by decide +kernel
theorem d290_53 : dc 290 53 = some (.putfield 1711, 56) := by decide +kernel
theorem d290_56 : dc 290 56 = some (.goto ((69 : Nat) : Int), 59) := by decide +kernel
theorem d290_59 : dc 290 59 = some (.aload_n 0, 60) := by decide +kernel
theorem d290_60 : dc 290 60 = some (.dup, 61) := by decide +kernel
theorem d290_61 : dc 290 61 = some (.getfield 1710, 64) := by decide +kernel
theorem d290_64 : dc 290 64 = some (.iconst 1, 65) := by decide +kernel
theorem d290_65 : dc 290 65 = some (.iadd, 66) := by decide +kernel
theorem d290_66 : dc 290 66 = some (.putfield 1710, 69) := by decide +kernel
theorem d290_69 : dc 290 69 = some (.aload_n 0, 70) := by decide +kernel
theorem d290_70 : dc 290 70 = some (.dload 1715, 73) := by decide +kernel
theorem d290_73 : dc 290 73 = some (.iload_n 1, 74) := by decide +kernel
theorem d290_74 : dc 290 74 = some (.iaload, 75) := by decide +kernel
theorem d290_75 : dc 290 75 = some (.ifCond .le ((94 : Nat) : Int), 78) := by decide +kernel
theorem d290_78 : dc 290 78 = some (.aload_n 0, 79) := by decide +kernel
theorem d290_79 : dc 290 79 = some (.aload_n 0, 80) := by decide +kernel
theorem d290_80 : dc 290 80 = some (.dload 1717, 83) := by decide +kernel
theorem d290_83 : dc 290 83 = some (.iload_n 1, 84) := by decide +kernel
theorem d290_84 : dc 290 84 = some (.laload, 85) := by decide +kernel
theorem d290_85 : dc 290 85 = some (.aload_n 0, 86) := by decide +kernel
theorem d290_86 : dc 290 86 = some (.dload 1716, 89) := by decide +kernel
theorem d290_89 : dc 290 89 = some (.iload_n 1, 90) := by decide +kernel
theorem d290_90 : dc 290 90 = some (.aaload, 91) := by decide +kernel
theorem d290_91 : dc 290 91 = some (.invokevirtual 291, 94) := by decide +kernel
theorem d290_94 : dc 290 94 = some (.aload_n 0, 95) := by decide +kernel
theorem d290_95 : dc 290 95 = some (.dload 1668, 98) := by decide +kernel
theorem d290_98 : dc 290 98 = some (.iload_n 2, 99) := by decide +kernel
theorem d290_99 : dc 290 99 = some (.aaload, 100) := by decide +kernel
theorem d290_100 : dc 290 100 = some (.aload_n 0, 101) := by decide +kernel
theorem d290_101 : dc 290 101 = some (.dload 1716, 104) := by decide +kernel
theorem d290_104 : dc 290 104 = some (.iload_n 1, 105) := by decide +kernel
theorem d290_105 : dc 290 105 = some (.aaload, 106) := by decide +kernel
theorem d290_106 : dc 290 106 = some (.invokevirtual 263, 109) := by decide +kernel
theorem d290_109 : dc 290 109 = some (.aload_n 0, 110) := by decide +kernel
theorem d290_110 : dc 290 110 = some (.dload 1707, 113) := by decide +kernel
theorem d290_113 : dc 290 113 = some (.iload_n 2, 114) := by decide +kernel
theorem d290_114 : dc 290 114 = some (.aload_n 0, 115) := by decide +kernel
theorem d290_115 : dc 290 115 = some (.dload 1716, 118) := by decide +kernel
theorem d290_118 : dc 290 118 = some (.iload_n 1, 119) := by decide +kernel
theorem d290_119 : dc 290 119 = some (.aaload, 120) := by decide +kernel
theorem d290_120 : dc 290 120 = some (.getfield 1541, 123) := by decide +kernel
theorem d290_123 : dc 290 123 = some (.ifCond .le ((130 : Nat) : Int), 126) := by decide +kernel
theorem d290_126 : dc 290 126 = some (.iconst 2, 127) := by decide +kernel
theorem d290_127 : dc 290 127 = some (.goto ((131 : Nat) : Int), 130) := by decide +kernel
theorem d290_130 : dc 290 130 = some (.iconst 1, 131) := by decide +kernel
theorem d290_131 : dc 290 131 = some (.iastore, 132) := by decide +kernel
theorem d290_132 : dc 290 132 = some (.aload_n 0, 133) := by decide +kernel
theorem d290_133 : dc 290 133 = some (.dload 1707, 136) := by decide +kernel
theorem d290_136 : dc 290 136 = some (.iload_n 2, 137) := by decide +kernel
theorem d290_137 : dc 290 137 = some (.iaload, 138) := by decide +kernel
theorem d290_138 : dc 290 138 = some (.iconst 2, 139) := by decide +kernel
theorem d290_139 : dc 290 139 = some (.if_icmp .ne ((143 : Nat) : Int), 142) := by decide +kernel
theorem d290_142 : dc 290 142 = some (.return_, 143) := by decide +kernel
theorem d290_143 : dc 290 143 = some (.aload_n 0, 144) := by decide +kernel
theorem d290_144 : dc 290 144 = some (.dload 1667, 147) := by decide +kernel
theorem d290_147 : dc 290 147 = some (.iload_n 2, 148) := by decide +kernel
theorem d290_148 : dc 290 148 = some (.aaload, 149) := by decide +kernel
theorem d290_149 : dc 290 149 = some (.aload_n 0, 150) := by decide +kernel
theorem d290_150 : dc 290 150 = some (.dload 1716, 153) := by decide +kernel
theorem d290_153 : dc 290 153 = some (.iload_n 1, 154) := by decide +kernel
theorem d290_154 : dc 290 154 = some (.aaload, 155) := by decide +kernel
theorem d290_155 : dc 290 155 = some (.invokevirtual 263, 158) := by decide +kernel
theorem d290_158 : dc 290 158 = some (.aload_n 0, 159) := by decide +kernel
theorem d290_159 : dc 290 159 = some (.dload 1666, 162) := by decide +kernel
theorem d290_162 : dc 290 162 = some (.iload_n 2, 163) := by decide +kernel
theorem d290_163 : dc 290 163 = some (.iconst 1, 164) := by decide +kernel
theorem d290_164 : dc 290 164 = some (.bastore, 165) := by decide +kernel
theorem d290_165 : dc 290 165 = some (.aload_n 0, 166) := by decide +kernel
theorem d290_166 : dc 290 166 = some (.dload 1671, 169) := by decide +kernel
theorem d290_169 : dc 290 169 = some (.iload_n 2, 170) := by decide +kernel
theorem d290_170 : dc 290 170 = some (.aload_n 0, 171) := by decide +kernel
theorem d290_171 : dc 290 171 = some (.dload 1719, 174) := by decide +kernel
theorem d290_174 : dc 290 174 = some (.iload_n 1, 175) := by decide +kernel
theorem d290_175 : dc 290 175 = some (.iaload, 176) := by decide +kernel
theorem d290_176 : dc 290 176 = some (.iastore, 177) := by decide +kernel
theorem d290_177 : dc 290 177 = some (.iconst 0, 178) := by decide +kernel
theorem d290_178 : dc 290 178 = some (.istore_n 3, 179) := by decide +kernel
theorem d290_179 : dc 290 179 = some (.iload_n 3, 180) := by decide +kernel
theorem d290_180 : dc 290 180 = some (.aload_n 0, 181) := by decide +kernel
theorem d290_181 : dc 290 181 = some (.dload 1719, 184) := by decide +kernel
theorem d290_184 : dc 290 184 = some (.iload_n 1, 185) := by decide +kernel
theorem d290_185 : dc 290 185 = some (.iaload, 186) := by decide +kernel
theorem d290_186 : dc 290 186 = some (.if_icmp .ge ((217 : Nat) : Int), 189) := by decide +kernel
theorem d290_189 : dc 290 189 = some (.aload_n 0, 190) := by decide +kernel
theorem d290_190 : dc 290 190 = some (.dload 1670, 193) := by decide +kernel
theorem d290_193 : dc 290 193 = some (.bipush 7, 195) := by decide +kernel
theorem d290_195 : dc 290 195 = some (.iload_n 2, 196) := by decide +kernel
theorem d290_196 : dc 290 196 = some (.imul, 197) := by decide +kernel
theorem d290_197 : dc 290 197 = some (.iload_n 3, 198) := by decide +kernel
theorem d290_198 : dc 290 198 = some (.iadd, 199) := by decide +kernel
theorem d290_199 : dc 290 199 = some (.aload_n 0, 200) := by decide +kernel
theorem d290_200 : dc 290 200 = some (.dload 1718, 203) := by decide +kernel
theorem d290_203 : dc 290 203 = some (.bipush 7, 205) := by decide +kernel
theorem d290_205 : dc 290 205 = some (.iload_n 1, 206) := by decide +kernel
theorem d290_206 : dc 290 206 = some (.imul, 207) := by decide +kernel
theorem d290_207 : dc 290 207 = some (.iload_n 3, 208) := by decide +kernel
theorem d290_208 : dc 290 208 = some (.iadd, 209) := by decide +kernel
theorem d290_209 : dc 290 209 = some (.laload, 210) := by decide +kernel
theorem d290_210 : dc 290 210 = some (.lastore, 211) := by decide +kernel
theorem d290_211 : dc 290 211 = some (.iinc 3 1, 214) := by decide +kernel
theorem d290_214 : dc 290 214 = some (.goto ((179 : Nat) : Int), 217) := by decide +kernel
theorem d290_217 : dc 290 217 = some (.return_, 218) := by decide +kernel
theorem k_M_finish {S : Shp} {G : Nat → Option Nat} {d : Nat} {h : Hp} {Q : Option MV → Hp → Prop} {m : Nat} {w : Nat} {E : Nat → Nat} {H Y : Nat → Int} {wk bu bp : Nat → OmV} {kf : Nat → Int64} {pf lf : Nat → List Int64} {ks : List (Int64 × OmV)} {C : Nat → Nat} {pb : Nat → Bool} {t z : Nat} (ok : Ok S h) (h1 : 3 ≤ d) (hm : sK S m = 14) (HA : ArI S h m 1713 H 2) (ST : ArI S h m 1707 (fun t => ((E t : Nat) : Int)) 14) (HW : ArI S h m 1715 Y 2) (WK : WkR S h m wk) (WP : WpR S h m kf pf) (BU : OmS S h (sT S 1668 m) bu) (KP : KpR S h m ks) (LP : LpR S h m lf) (CT : CtR S h m C) (PT : OmA S h m 1667 bp) (PU : PuR S h m pb) (hw : w < 2) (hT : H w = (t : Int)) (ht : t < 14) (hz : z ≤ 2) (hy : Y w = ((2 - z : Nat) : Int)) (hC : C z + 1 ≤ 2147483647)
    (k1 : ∀ h', Fr S m [1713, 1710, 1711, 1712, 1701, 1702, 1703, 1668, 1707, 1667, 1666, 1671, 1670] h h' → ArI S h' m 1713 (upO H w (-1)) 2 → CtR S h' m (upN C z (C z + 1)) → KpR S h' m (if z = 2 then ks else kpM ks (kf w) (wk w)) → OmS S h' (sT S 1668 m) (upO bu t (wk w)) → ArI S h' m 1707 (fun u => ((upN E t 2 u : Nat) : Int)) 14 → (wk w).2.2 ≠ [] → OmA S h' m 1667 bp → PuR S h' m pb → LpR S h' m lf → Q none h')
    (k2 : ∀ h', Fr S m [1713, 1710, 1711, 1712, 1701, 1702, 1703, 1668, 1707, 1667, 1666, 1671, 1670] h h' → ArI S h' m 1713 (upO H w (-1)) 2 → CtR S h' m (upN C z (C z + 1)) → KpR S h' m (if z = 2 then ks else kpM ks (kf w) (wk w)) → OmS S h' (sT S 1668 m) (upO bu t (wk w)) → ArI S h' m 1707 (fun u => ((upN E t 1 u : Nat) : Int)) 14 → (wk w).2.2 = [] → OmA S h' m 1667 (upO bp t (wk w)) → PuR S h' m (upO pb t true) → LpR S h' m (upO lf t (pf w)) → Q none h') : Cl G d 290 [vR (some m), vI (w : Nat)] h Q := by
  show Wp G d 290 0 [some (vR (some m)), some (vI (w : Nat)), none, none] [] h Q
  have HA_0 := HA
  have ST_0 := ST
  have HW_0 := HW
  have WK_0 := WK
  have WP_0 := WP
  have BU_0 := BU
  have KP_0 := KP
  have LP_0 := LP
  have CT_0 := CT
  have PT_0 := PT
  have PU_0 := PU
  refine w_aload_n d290_0 rfl ?_
  refine w_dloadS d290_1 (ok.kd hm) (fr1713 ok hm) ?_
  refine w_iload_n d290_4 rfl ?_
  refine w_ialoadV (x := ((t : Nat) : Int)) d290_5 (gi1713 ok hm (by omega)) ((HA w hw).trans hT) ?_
  refine w_istore2 d290_6 rfl ?_
  refine w_aload_n d290_7 rfl ?_
  refine w_dloadS d290_8 (ok.kd hm) (fr1713 ok hm) ?_
  refine w_iload_n d290_11 rfl ?_
  refine w_iconst d290_12 (by decide) ?_
  refine wa1713 d290_13 ok hm (by omega) (by omega) (fun h13 e13 m13 => ?_)
  have e13 : h13 = sAI h (sT S 1713 m) w (-1) := e13
  have f13 : Fr S m [1713] _ _ := Fr.wB ok hm m13 (fun ζ e => ⟨1713, by decide, by decide, e ▸ U_refl⟩)
  have ok13 := f13.ok
  have FR13 := Fr.le (F := [1713, 1710, 1711, 1712, 1701, 1702, 1703, 1668, 1707, 1667, 1666, 1671, 1670]) f13 (by decide)
  have ST := ST.r f13 hm
  have HW := HW.r f13 hm
  have WK := WK.r f13 hm
  have WP := WP.r f13 hm
  have BU := OmS.r (f := 1668) f13 hm (Or.inl rfl) (by decide) BU
  have KP := KP.r f13 hm
  have LP := LP.r f13 hm
  have CT := CT.r f13 hm
  have PT := PT.r f13 hm
  have PU := PU.r f13 hm
  have HA := HA.w e13
  refine w_aload_n d290_14 rfl ?_
  refine w_dloadS d290_15 (ok13.kd hm) (fr1715 ok13 hm) ?_
  refine w_iload_n d290_18 rfl ?_
  refine w_ialoadV (x := (Y w)) d290_19 (gi1715 ok13 hm (by omega)) (HW w hw) ?_
  refine w_ifne d290_20 (fun c20 => ?_) (fun c20 => ?_)
  · refine w_aload_n d290_36 rfl ?_
    refine w_dloadS d290_37 (ok13.kd hm) (fr1715 ok13 hm) ?_
    refine w_iload_n d290_40 rfl ?_
    refine w_ialoadV (x := (Y w)) d290_41 (gi1715 ok13 hm (by omega)) (HW w hw) ?_
    refine w_iconst d290_42 (by decide) ?_
    refine w_icmpne d290_43 (fun c43 => ?_) (fun c43 => ?_)
    · have ez : z = 0 := by omega
      subst ez
      have CTo := CT
      refine w_aload_n d290_59 rfl ?_
      refine w_dupR d290_60 ?_
      refine w_getI (x := ((C 0 : Nat) : Int)) d290_61 (ok13.kd hm) CT.1 ?_
      refine w_iconst d290_64 (by decide) ?_
      refine w_iadd d290_65 (by constructor <;> omega) ?_
      refine wf1710 d290_66 ok13 hm (by omega) (fun h66 e66 m66 => ?_)
      have f66 : Fr S m [1710] _ _ := Fr.wF ok13 m66 (FK.pI e66)
      have ok66 := f66.ok
      have FR66 := Fr.tr (F := [1713, 1710, 1711, 1712, 1701, 1702, 1703, 1668, 1707, 1667, 1666, 1671, 1670]) FR13 f66 (by decide) (by decide)
      have ST := ST.r f66 hm
      have HW := HW.r f66 hm
      have WK := WK.r f66 hm
      have WP := WP.r f66 hm
      have BU := OmS.r (f := 1668) f66 hm (Or.inl rfl) (by decide) BU
      have KP := KP.r f66 hm
      have LP := LP.r f66 hm
      have PT := PT.r f66 hm
      have PU := PU.r f66 hm
      have HA := HA.r f66 hm
      have CT : CtR S h66 m (upN C 0 (C 0 + 1)) := CTo.w (j := 0) (f := 1710) (by decide) e66
      refine w_aload_n d290_69 rfl ?_
      refine w_dloadS d290_70 (ok66.kd hm) (fr1715 ok66 hm) ?_
      refine w_iload_n d290_73 rfl ?_
      refine w_ialoadV (x := (Y w)) d290_74 (gi1715 ok66 hm (by omega)) (HW w hw) ?_
      refine w_ifle d290_75 (fun c75 => ?_) (fun c75 => ?_)
      · omega
      · refine w_aload_n d290_78 rfl ?_
        refine w_aload_n d290_79 rfl ?_
        refine w_dloadS d290_80 (ok66.kd hm) (fr1717 ok66 hm) ?_
        refine w_iload_n d290_83 rfl ?_
        refine w_laloadV (x := (kf w)) d290_84 (gi1717 ok66 hm (by omega)) ((WP w hw).1) ?_
        refine w_aload_n d290_85 rfl ?_
        refine w_dloadS d290_86 (ok66.kd hm) (fr1716 ok66 hm) ?_
        refine w_iload_n d290_89 rfl ?_
        have k90 := kE1716 ok66 hm (j := w) (by omega)
        refine w_aaloadSN d290_90 (gi1716 ok66 hm (by omega)) (er1716 ok66 hm (by omega)) ?_
        refine w_callv3 d290_91 (by omega) rfl (ok66.kd hm) (by simp) (Nat.le_of_ble_eq_true rfl) ?_
        refine k_M_keep ok66 (by omega) hm k90 KP (WK w hw) (fun y u => MA.no ok66.so (g := 1716) (by decide) (by decide) (by decide) (U_trans (ok66.so.uE (by omega) U_refl) u)) (fun h91 f91 KP => ?_)
        have ok91 := f91.ok
        have FR91 := Fr.tr (F := [1713, 1710, 1711, 1712, 1701, 1702, 1703, 1668, 1707, 1667, 1666, 1671, 1670]) FR66 f91 (by decide) (by decide)
        have ST := ST.r f91 hm
        have HW := HW.r f91 hm
        have WK := WK.r f91 hm
        have WP := WP.r f91 hm
        have BU := OmS.r (f := 1668) f91 hm (Or.inl rfl) (by decide) BU
        have LP := LP.r f91 hm
        have PT := PT.r f91 hm
        have PU := PU.r f91 hm
        have HA := HA.r f91 hm
        have CT := CT.r f91 hm
        refine w_aload_n d290_94 rfl ?_
        refine w_dloadS d290_95 (ok91.kd hm) (fr1668 ok91 hm) ?_
        refine w_iload_n d290_98 rfl ?_
        have k99 := kE1668 ok91 hm (j := t) (by omega)
        refine w_aaloadSN d290_99 (gi1668 ok91 hm (by omega)) (er1668 ok91 hm (by omega)) ?_
        refine w_aload_n d290_100 rfl ?_
        refine w_dloadS d290_101 (ok91.kd hm) (fr1716 ok91 hm) ?_
        refine w_iload_n d290_104 rfl ?_
        have k105 := kE1716 ok91 hm (j := w) (by omega)
        refine w_aaloadSN d290_105 (gi1716 ok91 hm (by omega)) (er1716 ok91 hm (by omega)) ?_
        have BUo := BU
        have okb := ok91
        refine w_callv2 d290_106 (by omega) rfl (ok91.kd k99) (by simp) (Nat.le_of_ble_eq_true rfl) ?_
        refine k_O_copy ok91 (by omega) k99 k105 (WK w hw) (fun y u z => ok91.so.sib (f := 1716) (g := 1668) (by decide) (by decide) (by decide) (U_trans (ok91.so.uE (by omega) U_refl) u) (U_trans (ok91.so.uE (by omega) U_refl) z)) (fun h106 m106 OC => ?_)
        have f106 : Fr S m [1668] _ _ := Fr.wB ok91 hm m106 (fun ζ u => ⟨1668, by decide, by decide, U_trans (ok.so.uE (by omega) U_refl) u⟩)
        have ok106 := f106.ok
        have FR106 := Fr.tr (F := [1713, 1710, 1711, 1712, 1701, 1702, 1703, 1668, 1707, 1667, 1666, 1671, 1670]) FR91 f106 (by decide) (by decide)
        have ST := ST.r f106 hm
        have HW := HW.r f106 hm
        have WK := WK.r f106 hm
        have WP := WP.r f106 hm
        have KP := KP.r f106 hm
        have LP := LP.r f106 hm
        have PT := PT.r f106 hm
        have PU := PU.r f106 hm
        have HA := HA.r f106 hm
        have CT := CT.r f106 hm
        have BU := BUo.w okb (fun j hj => kE1668 okb hm hj) ht m106 OC
        refine w_aload_n d290_109 rfl ?_
        refine w_dloadS d290_110 (ok106.kd hm) (fr1707 ok106 hm) ?_
        refine w_iload_n d290_113 rfl ?_
        refine w_aload_n d290_114 rfl ?_
        refine w_dloadS d290_115 (ok106.kd hm) (fr1716 ok106 hm) ?_
        refine w_iload_n d290_118 rfl ?_
        have k119 := kE1716 ok106 hm (j := w) (by omega)
        refine w_aaloadSN d290_119 (gi1716 ok106 hm (by omega)) (er1716 ok106 hm (by omega)) ?_
        refine w_getI (x := (((wk w).2.2.length : Nat) : Int)) d290_120 (ok106.kd k119) ((WK w hw).2.2.1) ?_
        refine w_ifle d290_123 (fun c123 => ?_) (fun c123 => ?_)
        · have wn : (wk w).2.2 = [] := List.length_eq_zero_iff.mp (by omega)
          refine w_iconst d290_130 (by decide) ?_
          refine wa1707 d290_131 ok106 hm (by omega) (by omega) (fun h131 e131 m131 => ?_)
          have e131 : h131 = sAI h106 (sT S 1707 m) t 1 := e131
          have f131 : Fr S m [1707] _ _ := Fr.wB ok106 hm m131 (fun ζ e => ⟨1707, by decide, by decide, e ▸ U_refl⟩)
          have ok131 := f131.ok
          have FR131 := Fr.tr (F := [1713, 1710, 1711, 1712, 1701, 1702, 1703, 1668, 1707, 1667, 1666, 1671, 1670]) FR106 f131 (by decide) (by decide)
          have HW := HW.r f131 hm
          have WK := WK.r f131 hm
          have WP := WP.r f131 hm
          have KP := KP.r f131 hm
          have LP := LP.r f131 hm
          have PT := PT.r f131 hm
          have PU := PU.r f131 hm
          have HA := HA.r f131 hm
          have CT := CT.r f131 hm
          have BU := OmS.r (f := 1668) f131 hm (Or.inl rfl) (by decide) BU
          have ST := StR.w ST (x := 1) e131
          refine w_aload_n d290_132 rfl ?_
          refine w_dloadS d290_133 (ok131.kd hm) (fr1707 ok131 hm) ?_
          refine w_iload_n d290_136 rfl ?_
          refine w_ialoadV (x := ((1 : Nat) : Int)) d290_137 (gi1707 ok131 hm (by omega)) ((ST t ht).trans (by dsimp only; rw [upN_at])) ?_
          refine w_iconst d290_138 (by decide) ?_
          refine w_icmpne d290_139 (fun c139 => ?_) (fun c139 => ?_)
          · refine w_aload_n d290_143 rfl ?_
            refine w_dloadS d290_144 (ok131.kd hm) (fr1667 ok131 hm) ?_
            refine w_iload_n d290_147 rfl ?_
            have k148 := kE1667 ok131 hm (j := t) (by omega)
            refine w_aaloadSN d290_148 (gi1667 ok131 hm (by omega)) (er1667 ok131 hm (by omega)) ?_
            refine w_aload_n d290_149 rfl ?_
            refine w_dloadS d290_150 (ok131.kd hm) (fr1716 ok131 hm) ?_
            refine w_iload_n d290_153 rfl ?_
            have k154 := kE1716 ok131 hm (j := w) (by omega)
            refine w_aaloadSN d290_154 (gi1716 ok131 hm (by omega)) (er1716 ok131 hm (by omega)) ?_
            have PTo := PT
            have okb := ok131
            refine w_callv2 d290_155 (by omega) rfl (ok131.kd k148) (by simp) (Nat.le_of_ble_eq_true rfl) ?_
            refine k_O_copy ok131 (by omega) k148 k154 (WK w hw) (fun y u z => ok131.so.sib (f := 1716) (g := 1667) (by decide) (by decide) (by decide) (U_trans (ok131.so.uE (by omega) U_refl) u) (U_trans (ok131.so.uE (by omega) U_refl) z)) (fun h155 m155 OC => ?_)
            have f155 : Fr S m [1667] _ _ := Fr.wB ok131 hm m155 (fun ζ u => ⟨1667, by decide, by decide, U_trans (ok.so.uE (by omega) U_refl) u⟩)
            have ok155 := f155.ok
            have FR155 := Fr.tr (F := [1713, 1710, 1711, 1712, 1701, 1702, 1703, 1668, 1707, 1667, 1666, 1671, 1670]) FR131 f155 (by decide) (by decide)
            have HW := HW.r f155 hm
            have WK := WK.r f155 hm
            have WP := WP.r f155 hm
            have KP := KP.r f155 hm
            have LP := LP.r f155 hm
            have PU := PU.r f155 hm
            have HA := HA.r f155 hm
            have CT := CT.r f155 hm
            have BU := OmS.r (f := 1668) f155 hm (Or.inl rfl) (by decide) BU
            have ST := ST.r f155 hm
            have PT : OmA S h155 m 1667 (upO bp t (wk w)) := OmS.w PTo okb (fun j hj => kE1667 okb hm hj) ht m155 OC
            refine w_aload_n d290_158 rfl ?_
            refine w_dloadS d290_159 (ok155.kd hm) (fr1666 ok155 hm) ?_
            refine w_iload_n d290_162 rfl ?_
            refine w_iconst d290_163 (by decide) ?_
            refine wa1666 d290_164 ok155 hm (by omega) (by omega) (fun h164 e164 m164 => ?_)
            have e164 : h164 = sAI h155 (sT S 1666 m) t 1 := e164
            have f164 : Fr S m [1666] _ _ := Fr.wB ok155 hm m164 (fun ζ e => ⟨1666, by decide, by decide, e ▸ U_refl⟩)
            have ok164 := f164.ok
            have FR164 := Fr.tr (F := [1713, 1710, 1711, 1712, 1701, 1702, 1703, 1668, 1707, 1667, 1666, 1671, 1670]) FR155 f164 (by decide) (by decide)
            have HW := HW.r f164 hm
            have WK := WK.r f164 hm
            have WP := WP.r f164 hm
            have KP := KP.r f164 hm
            have LP := LP.r f164 hm
            have HA := HA.r f164 hm
            have CT := CT.r f164 hm
            have BU := OmS.r (f := 1668) f164 hm (Or.inl rfl) (by decide) BU
            have ST := ST.r f164 hm
            have PT := PT.r f164 hm
            have PU := PU.w e164
            refine w_aload_n d290_165 rfl ?_
            refine w_dloadS d290_166 (ok164.kd hm) (fr1671 ok164 hm) ?_
            refine w_iload_n d290_169 rfl ?_
            refine w_aload_n d290_170 rfl ?_
            refine w_dloadS d290_171 (ok164.kd hm) (fr1719 ok164 hm) ?_
            refine w_iload_n d290_174 rfl ?_
            refine w_ialoadV (x := (((pf w).length : Nat) : Int)) d290_175 (gi1719 ok164 hm (by omega)) ((WP w hw).2.1) ?_
            have LPo := LP
            have hb := 0
            refine wa1671 d290_176 ok164 hm (by omega) (by have := (WP w hw).2.2.1; omega) (fun h176 e176 m176 => ?_)
            have e176 : h176 = sAI h164 (sT S 1671 m) t (((pf w).length : Nat) : Int) := e176
            have f176 : Fr S m [1671] _ _ := Fr.wB ok164 hm m176 (fun ζ e => ⟨1671, by decide, by decide, e ▸ U_refl⟩)
            have ok176 := f176.ok
            have FR176 := Fr.tr (F := [1713, 1710, 1711, 1712, 1701, 1702, 1703, 1668, 1707, 1667, 1666, 1671, 1670]) FR164 f176 (by decide) (by decide)
            have HW := HW.r f176 hm
            have WK := WK.r f176 hm
            have WP := WP.r f176 hm
            have KP := KP.r f176 hm
            have HA := HA.r f176 hm
            have CT := CT.r f176 hm
            have BU := OmS.r (f := 1668) f176 hm (Or.inl rfl) (by decide) BU
            have ST := ST.r f176 hm
            have PT := PT.r f176 hm
            have PU := PU.r f176 hm
            refine w_iconst d290_177 (by decide) ?_
            refine w_istore3 d290_178 rfl ?_
            have L179 : ∀ (m179 : Nat) (g : Hp) (k : Nat), (pf w).length - k = m179 → Fr S m [1713, 1710, 1711, 1712, 1701, 1702, 1703, 1668, 1707, 1667, 1666, 1671, 1670] h g → (k ≤ (pf w).length) → (LpS S h164 g m t k (pf w)) → (ArI S g m 1713 (upO H w (-1)) 2) → (CtR S g m (upN C 0 (C 0 + 1))) → (KpR S g m (kpM ks (kf w) (wk w))) → (OmS S g (sT S 1668 m) (upO bu t (wk w))) → (ArI S g m 1707 (fun u => ((upN E t 1 u : Nat) : Int)) 14) → (OmA S g m 1667 (upO bp t (wk w))) → (PuR S g m (upO pb t true)) → Wp G d 290 179 [some (vR (some m)), some (vI (w : Nat)), some (vI (t : Nat)), some (vI (k : Nat))] [] g Q := by
              intro m179
              induction m179 using Nat.strongRecOn with | ind m179 IH179 => ?_
              intro g k hm179 FRg kl LS HA CT KP BU ST PT PU
              have okg := FRg.ok
              have HW := HW_0.r FRg hm
              have WK := WK_0.r FRg hm
              have WP := WP_0.r FRg hm
              refine w_iload_n d290_179 rfl ?_
              refine w_aload_n d290_180 rfl ?_
              refine w_dloadS d290_181 (okg.kd hm) (fr1719 okg hm) ?_
              refine w_iload_n d290_184 rfl ?_
              refine w_ialoadV (x := (((pf w).length : Nat) : Int)) d290_185 (gi1719 okg hm (by omega)) ((WP w hw).2.1) ?_
              refine w_icmpge d290_186 (fun c186 => ?_) (fun c186 => ?_)
              · have ek : k = (pf w).length := by omega
                rw [ek] at LS
                have LP := LS.e LPo (WP w hw).2.2.1
                refine w_return d290_217 ?_
                refine k2 _ FRg HA CT ?_ BU ST wn PT PU LP
                first | (rw [if_pos rfl]; exact KP) | (rw [if_neg (by decide)]; exact KP)
              · have hk : k < (pf w).length := by omega
                have h7 := (WP w hw).2.2.1
                refine w_aload_n d290_189 rfl ?_
                refine w_dloadS d290_190 (okg.kd hm) (fr1670 okg hm) ?_
                refine w_bipush d290_193 (by decide) ?_
                refine w_iload_n d290_195 rfl ?_
                refine w_imul d290_196 (by constructor <;> omega) ?_
                rw [show (7 : Int) * ((t : Nat) : Int) = ((7 * t : Nat) : Int) by omega]
                refine w_iload_n d290_197 rfl ?_
                refine w_iadd d290_198 (by constructor <;> omega) ?_
                rw [show ((7 * t : Nat) : Int) + ((k : Nat) : Int) = ((7 * t + k : Nat) : Int) by omega]
                refine w_aload_n d290_199 rfl ?_
                refine w_dloadS d290_200 (okg.kd hm) (fr1718 okg hm) ?_
                refine w_bipush d290_203 (by decide) ?_
                refine w_iload_n d290_205 rfl ?_
                refine w_imul d290_206 (by constructor <;> omega) ?_
                rw [show (7 : Int) * ((w : Nat) : Int) = ((7 * w : Nat) : Int) by omega]
                refine w_iload_n d290_207 rfl ?_
                refine w_iadd d290_208 (by constructor <;> omega) ?_
                rw [show ((7 * w : Nat) : Int) + ((k : Nat) : Int) = ((7 * w + k : Nat) : Int) by omega]
                refine w_laloadV (x := ((pf w).getD k 0)) d290_209 (gi1718 okg hm (by omega)) ((WP w hw).2.2.2 k hk) ?_
                refine wa1670 d290_210 okg hm (by omega) (fun h210 e210 m210 => ?_)
                have e210 : h210 = sAL g (sT S 1670 m) (7 * t + k) ((pf w).getD k 0) := e210
                have f210 : Fr S m [1670] _ _ := Fr.wB okg hm m210 (fun ζ e => ⟨1670, by decide, by decide, e ▸ U_refl⟩)
                have ok210 := f210.ok
                have FR210 := Fr.tr (F := [1713, 1710, 1711, 1712, 1701, 1702, 1703, 1668, 1707, 1667, 1666, 1671, 1670]) FRg f210 (by decide) (by decide)
                have HA := HA.r f210 hm
                have CT := CT.r f210 hm
                have KP := KP.r f210 hm
                have BU := OmS.r (f := 1668) f210 hm (Or.inl rfl) (by decide) BU
                have ST := ST.r f210 hm
                have PT := PT.r f210 hm
                have PU := PU.r f210 hm
                have HW := HW.r f210 hm
                have WK := WK.r f210 hm
                have WP := WP.r f210 hm
                refine w_iinc3 d290_211 rfl (by constructor <;> omega) ?_
                refine w_goto d290_214 ?_
                rw [show ((k : Nat) : Int) + 1 = ((k + 1 : Nat) : Int) by omega]
                have LS2 := LS.s e210
                refine w_less ?_ (IH179 _ (by omega) h210 (k + 1) rfl FR210 (by omega) LS2 HA CT KP BU ST PT PU)
                exact ⟨Or.inr rfl, Or.inr rfl, Or.inr rfl, Or.inr rfl, trivial⟩
            have LS : LpS S h164 h176 m t 0 (pf w) := by
              refine ⟨fun j => ?_, fun j => ?_⟩
              · rw [e176, sArr]
              · rw [if_neg (by omega), e176]; rfl
            refine w_less ?_ (L179 _ h176 0 rfl FR176 (Nat.zero_le _) LS HA CT KP BU ST PT PU)
            exact ⟨Or.inr rfl, Or.inr rfl, Or.inr rfl, Or.inr rfl, trivial⟩
          · omega
        · have wn : (wk w).2.2 ≠ [] := fun y => by rw [y] at c123; exact absurd c123 (by decide)
          refine w_iconst d290_126 (by decide) ?_
          refine w_goto d290_127 ?_
          refine wa1707 d290_131 ok106 hm (by omega) (by omega) (fun h131 e131 m131 => ?_)
          have e131 : h131 = sAI h106 (sT S 1707 m) t 2 := e131
          have f131 : Fr S m [1707] _ _ := Fr.wB ok106 hm m131 (fun ζ e => ⟨1707, by decide, by decide, e ▸ U_refl⟩)
          have ok131 := f131.ok
          have FR131 := Fr.tr (F := [1713, 1710, 1711, 1712, 1701, 1702, 1703, 1668, 1707, 1667, 1666, 1671, 1670]) FR106 f131 (by decide) (by decide)
          have HW := HW.r f131 hm
          have WK := WK.r f131 hm
          have WP := WP.r f131 hm
          have KP := KP.r f131 hm
          have LP := LP.r f131 hm
          have PT := PT.r f131 hm
          have PU := PU.r f131 hm
          have HA := HA.r f131 hm
          have CT := CT.r f131 hm
          have BU := OmS.r (f := 1668) f131 hm (Or.inl rfl) (by decide) BU
          have ST := StR.w ST (x := 2) e131
          refine w_aload_n d290_132 rfl ?_
          refine w_dloadS d290_133 (ok131.kd hm) (fr1707 ok131 hm) ?_
          refine w_iload_n d290_136 rfl ?_
          refine w_ialoadV (x := ((2 : Nat) : Int)) d290_137 (gi1707 ok131 hm (by omega)) ((ST t ht).trans (by dsimp only; rw [upN_at])) ?_
          refine w_iconst d290_138 (by decide) ?_
          refine w_icmpne d290_139 (fun c139 => ?_) (fun c139 => ?_)
          · omega
          · refine w_return d290_142 ?_
            refine k1 _ FR131 HA CT ?_ BU ST wn PT PU LP
            first | (rw [if_pos rfl]; exact KP) | (rw [if_neg (by decide)]; exact KP)
    · have ez : z = 1 := by omega
      subst ez
      have CTo := CT
      refine w_aload_n d290_46 rfl ?_
      refine w_dupR d290_47 ?_
      refine w_getI (x := ((C 1 : Nat) : Int)) d290_48 (ok13.kd hm) CT.2.1 ?_
      refine w_iconst d290_51 (by decide) ?_
      refine w_iadd d290_52 (by constructor <;> omega) ?_
      refine wf1711 d290_53 ok13 hm (by omega) (fun h53 e53 m53 => ?_)
      have f53 : Fr S m [1711] _ _ := Fr.wF ok13 m53 (FK.pI e53)
      have ok53 := f53.ok
      have FR53 := Fr.tr (F := [1713, 1710, 1711, 1712, 1701, 1702, 1703, 1668, 1707, 1667, 1666, 1671, 1670]) FR13 f53 (by decide) (by decide)
      have ST := ST.r f53 hm
      have HW := HW.r f53 hm
      have WK := WK.r f53 hm
      have WP := WP.r f53 hm
      have BU := OmS.r (f := 1668) f53 hm (Or.inl rfl) (by decide) BU
      have KP := KP.r f53 hm
      have LP := LP.r f53 hm
      have PT := PT.r f53 hm
      have PU := PU.r f53 hm
      have HA := HA.r f53 hm
      have CT : CtR S h53 m (upN C 1 (C 1 + 1)) := CTo.w (j := 1) (f := 1711) (by decide) e53
      refine w_goto d290_56 ?_
      refine w_aload_n d290_69 rfl ?_
      refine w_dloadS d290_70 (ok53.kd hm) (fr1715 ok53 hm) ?_
      refine w_iload_n d290_73 rfl ?_
      refine w_ialoadV (x := (Y w)) d290_74 (gi1715 ok53 hm (by omega)) (HW w hw) ?_
      refine w_ifle d290_75 (fun c75 => ?_) (fun c75 => ?_)
      · omega
      · refine w_aload_n d290_78 rfl ?_
        refine w_aload_n d290_79 rfl ?_
        refine w_dloadS d290_80 (ok53.kd hm) (fr1717 ok53 hm) ?_
        refine w_iload_n d290_83 rfl ?_
        refine w_laloadV (x := (kf w)) d290_84 (gi1717 ok53 hm (by omega)) ((WP w hw).1) ?_
        refine w_aload_n d290_85 rfl ?_
        refine w_dloadS d290_86 (ok53.kd hm) (fr1716 ok53 hm) ?_
        refine w_iload_n d290_89 rfl ?_
        have k90 := kE1716 ok53 hm (j := w) (by omega)
        refine w_aaloadSN d290_90 (gi1716 ok53 hm (by omega)) (er1716 ok53 hm (by omega)) ?_
        refine w_callv3 d290_91 (by omega) rfl (ok53.kd hm) (by simp) (Nat.le_of_ble_eq_true rfl) ?_
        refine k_M_keep ok53 (by omega) hm k90 KP (WK w hw) (fun y u => MA.no ok53.so (g := 1716) (by decide) (by decide) (by decide) (U_trans (ok53.so.uE (by omega) U_refl) u)) (fun h91 f91 KP => ?_)
        have ok91 := f91.ok
        have FR91 := Fr.tr (F := [1713, 1710, 1711, 1712, 1701, 1702, 1703, 1668, 1707, 1667, 1666, 1671, 1670]) FR53 f91 (by decide) (by decide)
        have ST := ST.r f91 hm
        have HW := HW.r f91 hm
        have WK := WK.r f91 hm
        have WP := WP.r f91 hm
        have BU := OmS.r (f := 1668) f91 hm (Or.inl rfl) (by decide) BU
        have LP := LP.r f91 hm
        have PT := PT.r f91 hm
        have PU := PU.r f91 hm
        have HA := HA.r f91 hm
        have CT := CT.r f91 hm
        refine w_aload_n d290_94 rfl ?_
        refine w_dloadS d290_95 (ok91.kd hm) (fr1668 ok91 hm) ?_
        refine w_iload_n d290_98 rfl ?_
        have k99 := kE1668 ok91 hm (j := t) (by omega)
        refine w_aaloadSN d290_99 (gi1668 ok91 hm (by omega)) (er1668 ok91 hm (by omega)) ?_
        refine w_aload_n d290_100 rfl ?_
        refine w_dloadS d290_101 (ok91.kd hm) (fr1716 ok91 hm) ?_
        refine w_iload_n d290_104 rfl ?_
        have k105 := kE1716 ok91 hm (j := w) (by omega)
        refine w_aaloadSN d290_105 (gi1716 ok91 hm (by omega)) (er1716 ok91 hm (by omega)) ?_
        have BUo := BU
        have okb := ok91
        refine w_callv2 d290_106 (by omega) rfl (ok91.kd k99) (by simp) (Nat.le_of_ble_eq_true rfl) ?_
        refine k_O_copy ok91 (by omega) k99 k105 (WK w hw) (fun y u z => ok91.so.sib (f := 1716) (g := 1668) (by decide) (by decide) (by decide) (U_trans (ok91.so.uE (by omega) U_refl) u) (U_trans (ok91.so.uE (by omega) U_refl) z)) (fun h106 m106 OC => ?_)
        have f106 : Fr S m [1668] _ _ := Fr.wB ok91 hm m106 (fun ζ u => ⟨1668, by decide, by decide, U_trans (ok.so.uE (by omega) U_refl) u⟩)
        have ok106 := f106.ok
        have FR106 := Fr.tr (F := [1713, 1710, 1711, 1712, 1701, 1702, 1703, 1668, 1707, 1667, 1666, 1671, 1670]) FR91 f106 (by decide) (by decide)
        have ST := ST.r f106 hm
        have HW := HW.r f106 hm
        have WK := WK.r f106 hm
        have WP := WP.r f106 hm
        have KP := KP.r f106 hm
        have LP := LP.r f106 hm
        have PT := PT.r f106 hm
        have PU := PU.r f106 hm
        have HA := HA.r f106 hm
        have CT := CT.r f106 hm
        have BU := BUo.w okb (fun j hj => kE1668 okb hm hj) ht m106 OC
        refine w_aload_n d290_109 rfl ?_
        refine w_dloadS d290_110 (ok106.kd hm) (fr1707 ok106 hm) ?_
        refine w_iload_n d290_113 rfl ?_
        refine w_aload_n d290_114 rfl ?_
        refine w_dloadS d290_115 (ok106.kd hm) (fr1716 ok106 hm) ?_
        refine w_iload_n d290_118 rfl ?_
        have k119 := kE1716 ok106 hm (j := w) (by omega)
        refine w_aaloadSN d290_119 (gi1716 ok106 hm (by omega)) (er1716 ok106 hm (by omega)) ?_
        refine w_getI (x := (((wk w).2.2.length : Nat) : Int)) d290_120 (ok106.kd k119) ((WK w hw).2.2.1) ?_
        refine w_ifle d290_123 (fun c123 => ?_) (fun c123 => ?_)
        · have wn : (wk w).2.2 = [] := List.length_eq_zero_iff.mp (by omega)
          refine w_iconst d290_130 (by decide) ?_
          refine wa1707 d290_131 ok106 hm (by omega) (by omega) (fun h131 e131 m131 => ?_)
          have e131 : h131 = sAI h106 (sT S 1707 m) t 1 := e131
          have f131 : Fr S m [1707] _ _ := Fr.wB ok106 hm m131 (fun ζ e => ⟨1707, by decide, by decide, e ▸ U_refl⟩)
          have ok131 := f131.ok
          have FR131 := Fr.tr (F := [1713, 1710, 1711, 1712, 1701, 1702, 1703, 1668, 1707, 1667, 1666, 1671, 1670]) FR106 f131 (by decide) (by decide)
          have HW := HW.r f131 hm
          have WK := WK.r f131 hm
          have WP := WP.r f131 hm
          have KP := KP.r f131 hm
          have LP := LP.r f131 hm
          have PT := PT.r f131 hm
          have PU := PU.r f131 hm
          have HA := HA.r f131 hm
          have CT := CT.r f131 hm
          have BU := OmS.r (f := 1668) f131 hm (Or.inl rfl) (by decide) BU
          have ST := StR.w ST (x := 1) e131
          refine w_aload_n d290_132 rfl ?_
          refine w_dloadS d290_133 (ok131.kd hm) (fr1707 ok131 hm) ?_
          refine w_iload_n d290_136 rfl ?_
          refine w_ialoadV (x := ((1 : Nat) : Int)) d290_137 (gi1707 ok131 hm (by omega)) ((ST t ht).trans (by dsimp only; rw [upN_at])) ?_
          refine w_iconst d290_138 (by decide) ?_
          refine w_icmpne d290_139 (fun c139 => ?_) (fun c139 => ?_)
          · refine w_aload_n d290_143 rfl ?_
            refine w_dloadS d290_144 (ok131.kd hm) (fr1667 ok131 hm) ?_
            refine w_iload_n d290_147 rfl ?_
            have k148 := kE1667 ok131 hm (j := t) (by omega)
            refine w_aaloadSN d290_148 (gi1667 ok131 hm (by omega)) (er1667 ok131 hm (by omega)) ?_
            refine w_aload_n d290_149 rfl ?_
            refine w_dloadS d290_150 (ok131.kd hm) (fr1716 ok131 hm) ?_
            refine w_iload_n d290_153 rfl ?_
            have k154 := kE1716 ok131 hm (j := w) (by omega)
            refine w_aaloadSN d290_154 (gi1716 ok131 hm (by omega)) (er1716 ok131 hm (by omega)) ?_
            have PTo := PT
            have okb := ok131
            refine w_callv2 d290_155 (by omega) rfl (ok131.kd k148) (by simp) (Nat.le_of_ble_eq_true rfl) ?_
            refine k_O_copy ok131 (by omega) k148 k154 (WK w hw) (fun y u z => ok131.so.sib (f := 1716) (g := 1667) (by decide) (by decide) (by decide) (U_trans (ok131.so.uE (by omega) U_refl) u) (U_trans (ok131.so.uE (by omega) U_refl) z)) (fun h155 m155 OC => ?_)
            have f155 : Fr S m [1667] _ _ := Fr.wB ok131 hm m155 (fun ζ u => ⟨1667, by decide, by decide, U_trans (ok.so.uE (by omega) U_refl) u⟩)
            have ok155 := f155.ok
            have FR155 := Fr.tr (F := [1713, 1710, 1711, 1712, 1701, 1702, 1703, 1668, 1707, 1667, 1666, 1671, 1670]) FR131 f155 (by decide) (by decide)
            have HW := HW.r f155 hm
            have WK := WK.r f155 hm
            have WP := WP.r f155 hm
            have KP := KP.r f155 hm
            have LP := LP.r f155 hm
            have PU := PU.r f155 hm
            have HA := HA.r f155 hm
            have CT := CT.r f155 hm
            have BU := OmS.r (f := 1668) f155 hm (Or.inl rfl) (by decide) BU
            have ST := ST.r f155 hm
            have PT : OmA S h155 m 1667 (upO bp t (wk w)) := OmS.w PTo okb (fun j hj => kE1667 okb hm hj) ht m155 OC
            refine w_aload_n d290_158 rfl ?_
            refine w_dloadS d290_159 (ok155.kd hm) (fr1666 ok155 hm) ?_
            refine w_iload_n d290_162 rfl ?_
            refine w_iconst d290_163 (by decide) ?_
            refine wa1666 d290_164 ok155 hm (by omega) (by omega) (fun h164 e164 m164 => ?_)
            have e164 : h164 = sAI h155 (sT S 1666 m) t 1 := e164
            have f164 : Fr S m [1666] _ _ := Fr.wB ok155 hm m164 (fun ζ e => ⟨1666, by decide, by decide, e ▸ U_refl⟩)
            have ok164 := f164.ok
            have FR164 := Fr.tr (F := [1713, 1710, 1711, 1712, 1701, 1702, 1703, 1668, 1707, 1667, 1666, 1671, 1670]) FR155 f164 (by decide) (by decide)
            have HW := HW.r f164 hm
            have WK := WK.r f164 hm
            have WP := WP.r f164 hm
            have KP := KP.r f164 hm
            have LP := LP.r f164 hm
            have HA := HA.r f164 hm
            have CT := CT.r f164 hm
            have BU := OmS.r (f := 1668) f164 hm (Or.inl rfl) (by decide) BU
            have ST := ST.r f164 hm
            have PT := PT.r f164 hm
            have PU := PU.w e164
            refine w_aload_n d290_165 rfl ?_
            refine w_dloadS d290_166 (ok164.kd hm) (fr1671 ok164 hm) ?_
            refine w_iload_n d290_169 rfl ?_
            refine w_aload_n d290_170 rfl ?_
            refine w_dloadS d290_171 (ok164.kd hm) (fr1719 ok164 hm) ?_
            refine w_iload_n d290_174 rfl ?_
            refine w_ialoadV (x := (((pf w).length : Nat) : Int)) d290_175 (gi1719 ok164 hm (by omega)) ((WP w hw).2.1) ?_
            have LPo := LP
            have hb := 0
            refine wa1671 d290_176 ok164 hm (by omega) (by have := (WP w hw).2.2.1; omega) (fun h176 e176 m176 => ?_)
            have e176 : h176 = sAI h164 (sT S 1671 m) t (((pf w).length : Nat) : Int) := e176
            have f176 : Fr S m [1671] _ _ := Fr.wB ok164 hm m176 (fun ζ e => ⟨1671, by decide, by decide, e ▸ U_refl⟩)
            have ok176 := f176.ok
            have FR176 := Fr.tr (F := [1713, 1710, 1711, 1712, 1701, 1702, 1703, 1668, 1707, 1667, 1666, 1671, 1670]) FR164 f176 (by decide) (by decide)
            have HW := HW.r f176 hm
            have WK := WK.r f176 hm
            have WP := WP.r f176 hm
            have KP := KP.r f176 hm
            have HA := HA.r f176 hm
            have CT := CT.r f176 hm
            have BU := OmS.r (f := 1668) f176 hm (Or.inl rfl) (by decide) BU
            have ST := ST.r f176 hm
            have PT := PT.r f176 hm
            have PU := PU.r f176 hm
            refine w_iconst d290_177 (by decide) ?_
            refine w_istore3 d290_178 rfl ?_
            have L179 : ∀ (m179 : Nat) (g : Hp) (k : Nat), (pf w).length - k = m179 → Fr S m [1713, 1710, 1711, 1712, 1701, 1702, 1703, 1668, 1707, 1667, 1666, 1671, 1670] h g → (k ≤ (pf w).length) → (LpS S h164 g m t k (pf w)) → (ArI S g m 1713 (upO H w (-1)) 2) → (CtR S g m (upN C 1 (C 1 + 1))) → (KpR S g m (kpM ks (kf w) (wk w))) → (OmS S g (sT S 1668 m) (upO bu t (wk w))) → (ArI S g m 1707 (fun u => ((upN E t 1 u : Nat) : Int)) 14) → (OmA S g m 1667 (upO bp t (wk w))) → (PuR S g m (upO pb t true)) → Wp G d 290 179 [some (vR (some m)), some (vI (w : Nat)), some (vI (t : Nat)), some (vI (k : Nat))] [] g Q := by
              intro m179
              induction m179 using Nat.strongRecOn with | ind m179 IH179 => ?_
              intro g k hm179 FRg kl LS HA CT KP BU ST PT PU
              have okg := FRg.ok
              have HW := HW_0.r FRg hm
              have WK := WK_0.r FRg hm
              have WP := WP_0.r FRg hm
              refine w_iload_n d290_179 rfl ?_
              refine w_aload_n d290_180 rfl ?_
              refine w_dloadS d290_181 (okg.kd hm) (fr1719 okg hm) ?_
              refine w_iload_n d290_184 rfl ?_
              refine w_ialoadV (x := (((pf w).length : Nat) : Int)) d290_185 (gi1719 okg hm (by omega)) ((WP w hw).2.1) ?_
              refine w_icmpge d290_186 (fun c186 => ?_) (fun c186 => ?_)
              · have ek : k = (pf w).length := by omega
                rw [ek] at LS
                have LP := LS.e LPo (WP w hw).2.2.1
                refine w_return d290_217 ?_
                refine k2 _ FRg HA CT ?_ BU ST wn PT PU LP
                first | (rw [if_pos rfl]; exact KP) | (rw [if_neg (by decide)]; exact KP)
              · have hk : k < (pf w).length := by omega
                have h7 := (WP w hw).2.2.1
                refine w_aload_n d290_189 rfl ?_
                refine w_dloadS d290_190 (okg.kd hm) (fr1670 okg hm) ?_
                refine w_bipush d290_193 (by decide) ?_
                refine w_iload_n d290_195 rfl ?_
                refine w_imul d290_196 (by constructor <;> omega) ?_
                rw [show (7 : Int) * ((t : Nat) : Int) = ((7 * t : Nat) : Int) by omega]
                refine w_iload_n d290_197 rfl ?_
                refine w_iadd d290_198 (by constructor <;> omega) ?_
                rw [show ((7 * t : Nat) : Int) + ((k : Nat) : Int) = ((7 * t + k : Nat) : Int) by omega]
                refine w_aload_n d290_199 rfl ?_
                refine w_dloadS d290_200 (okg.kd hm) (fr1718 okg hm) ?_
                refine w_bipush d290_203 (by decide) ?_
                refine w_iload_n d290_205 rfl ?_
                refine w_imul d290_206 (by constructor <;> omega) ?_
                rw [show (7 : Int) * ((w : Nat) : Int) = ((7 * w : Nat) : Int) by omega]
                refine w_iload_n d290_207 rfl ?_
                refine w_iadd d290_208 (by constructor <;> omega) ?_
                rw [show ((7 * w : Nat) : Int) + ((k : Nat) : Int) = ((7 * w + k : Nat) : Int) by omega]
                refine w_laloadV (x := ((pf w).getD k 0)) d290_209 (gi1718 okg hm (by omega)) ((WP w hw).2.2.2 k hk) ?_
                refine wa1670 d290_210 okg hm (by omega) (fun h210 e210 m210 => ?_)
                have e210 : h210 = sAL g (sT S 1670 m) (7 * t + k) ((pf w).getD k 0) := e210
                have f210 : Fr S m [1670] _ _ := Fr.wB okg hm m210 (fun ζ e => ⟨1670, by decide, by decide, e ▸ U_refl⟩)
                have ok210 := f210.ok
                have FR210 := Fr.tr (F := [1713, 1710, 1711, 1712, 1701, 1702, 1703, 1668, 1707, 1667, 1666, 1671, 1670]) FRg f210 (by decide) (by decide)
                have HA := HA.r f210 hm
                have CT := CT.r f210 hm
                have KP := KP.r f210 hm
                have BU := OmS.r (f := 1668) f210 hm (Or.inl rfl) (by decide) BU
                have ST := ST.r f210 hm
                have PT := PT.r f210 hm
                have PU := PU.r f210 hm
                have HW := HW.r f210 hm
                have WK := WK.r f210 hm
                have WP := WP.r f210 hm
                refine w_iinc3 d290_211 rfl (by constructor <;> omega) ?_
                refine w_goto d290_214 ?_
                rw [show ((k : Nat) : Int) + 1 = ((k + 1 : Nat) : Int) by omega]
                have LS2 := LS.s e210
                refine w_less ?_ (IH179 _ (by omega) h210 (k + 1) rfl FR210 (by omega) LS2 HA CT KP BU ST PT PU)
                exact ⟨Or.inr rfl, Or.inr rfl, Or.inr rfl, Or.inr rfl, trivial⟩
            have LS : LpS S h164 h176 m t 0 (pf w) := by
              refine ⟨fun j => ?_, fun j => ?_⟩
              · rw [e176, sArr]
              · rw [if_neg (by omega), e176]; rfl
            refine w_less ?_ (L179 _ h176 0 rfl FR176 (Nat.zero_le _) LS HA CT KP BU ST PT PU)
            exact ⟨Or.inr rfl, Or.inr rfl, Or.inr rfl, Or.inr rfl, trivial⟩
          · omega
        · have wn : (wk w).2.2 ≠ [] := fun y => by rw [y] at c123; exact absurd c123 (by decide)
          refine w_iconst d290_126 (by decide) ?_
          refine w_goto d290_127 ?_
          refine wa1707 d290_131 ok106 hm (by omega) (by omega) (fun h131 e131 m131 => ?_)
          have e131 : h131 = sAI h106 (sT S 1707 m) t 2 := e131
          have f131 : Fr S m [1707] _ _ := Fr.wB ok106 hm m131 (fun ζ e => ⟨1707, by decide, by decide, e ▸ U_refl⟩)
          have ok131 := f131.ok
          have FR131 := Fr.tr (F := [1713, 1710, 1711, 1712, 1701, 1702, 1703, 1668, 1707, 1667, 1666, 1671, 1670]) FR106 f131 (by decide) (by decide)
          have HW := HW.r f131 hm
          have WK := WK.r f131 hm
          have WP := WP.r f131 hm
          have KP := KP.r f131 hm
          have LP := LP.r f131 hm
          have PT := PT.r f131 hm
          have PU := PU.r f131 hm
          have HA := HA.r f131 hm
          have CT := CT.r f131 hm
          have BU := OmS.r (f := 1668) f131 hm (Or.inl rfl) (by decide) BU
          have ST := StR.w ST (x := 2) e131
          refine w_aload_n d290_132 rfl ?_
          refine w_dloadS d290_133 (ok131.kd hm) (fr1707 ok131 hm) ?_
          refine w_iload_n d290_136 rfl ?_
          refine w_ialoadV (x := ((2 : Nat) : Int)) d290_137 (gi1707 ok131 hm (by omega)) ((ST t ht).trans (by dsimp only; rw [upN_at])) ?_
          refine w_iconst d290_138 (by decide) ?_
          refine w_icmpne d290_139 (fun c139 => ?_) (fun c139 => ?_)
          · omega
          · refine w_return d290_142 ?_
            refine k1 _ FR131 HA CT ?_ BU ST wn PT PU LP
            first | (rw [if_pos rfl]; exact KP) | (rw [if_neg (by decide)]; exact KP)
  · have ez : z = 2 := by omega
    subst ez
    have CTo := CT
    refine w_aload_n d290_23 rfl ?_
    refine w_dupR d290_24 ?_
    refine w_getI (x := ((C 2 : Nat) : Int)) d290_25 (ok13.kd hm) CT.2.2 ?_
    refine w_iconst d290_28 (by decide) ?_
    refine w_iadd d290_29 (by constructor <;> omega) ?_
    refine wf1712 d290_30 ok13 hm (by omega) (fun h30 e30 m30 => ?_)
    have f30 : Fr S m [1712] _ _ := Fr.wF ok13 m30 (FK.pI e30)
    have ok30 := f30.ok
    have FR30 := Fr.tr (F := [1713, 1710, 1711, 1712, 1701, 1702, 1703, 1668, 1707, 1667, 1666, 1671, 1670]) FR13 f30 (by decide) (by decide)
    have ST := ST.r f30 hm
    have HW := HW.r f30 hm
    have WK := WK.r f30 hm
    have WP := WP.r f30 hm
    have BU := OmS.r (f := 1668) f30 hm (Or.inl rfl) (by decide) BU
    have KP := KP.r f30 hm
    have LP := LP.r f30 hm
    have PT := PT.r f30 hm
    have PU := PU.r f30 hm
    have HA := HA.r f30 hm
    have CT : CtR S h30 m (upN C 2 (C 2 + 1)) := CTo.w (j := 2) (f := 1712) (by decide) e30
    refine w_goto d290_33 ?_
    refine w_aload_n d290_69 rfl ?_
    refine w_dloadS d290_70 (ok30.kd hm) (fr1715 ok30 hm) ?_
    refine w_iload_n d290_73 rfl ?_
    refine w_ialoadV (x := (Y w)) d290_74 (gi1715 ok30 hm (by omega)) (HW w hw) ?_
    refine w_ifle d290_75 (fun c75 => ?_) (fun c75 => ?_)
    · refine w_aload_n d290_94 rfl ?_
      refine w_dloadS d290_95 (ok30.kd hm) (fr1668 ok30 hm) ?_
      refine w_iload_n d290_98 rfl ?_
      have k99 := kE1668 ok30 hm (j := t) (by omega)
      refine w_aaloadSN d290_99 (gi1668 ok30 hm (by omega)) (er1668 ok30 hm (by omega)) ?_
      refine w_aload_n d290_100 rfl ?_
      refine w_dloadS d290_101 (ok30.kd hm) (fr1716 ok30 hm) ?_
      refine w_iload_n d290_104 rfl ?_
      have k105 := kE1716 ok30 hm (j := w) (by omega)
      refine w_aaloadSN d290_105 (gi1716 ok30 hm (by omega)) (er1716 ok30 hm (by omega)) ?_
      have BUo := BU
      have okb := ok30
      refine w_callv2 d290_106 (by omega) rfl (ok30.kd k99) (by simp) (Nat.le_of_ble_eq_true rfl) ?_
      refine k_O_copy ok30 (by omega) k99 k105 (WK w hw) (fun y u z => ok30.so.sib (f := 1716) (g := 1668) (by decide) (by decide) (by decide) (U_trans (ok30.so.uE (by omega) U_refl) u) (U_trans (ok30.so.uE (by omega) U_refl) z)) (fun h106 m106 OC => ?_)
      have f106 : Fr S m [1668] _ _ := Fr.wB ok30 hm m106 (fun ζ u => ⟨1668, by decide, by decide, U_trans (ok.so.uE (by omega) U_refl) u⟩)
      have ok106 := f106.ok
      have FR106 := Fr.tr (F := [1713, 1710, 1711, 1712, 1701, 1702, 1703, 1668, 1707, 1667, 1666, 1671, 1670]) FR30 f106 (by decide) (by decide)
      have ST := ST.r f106 hm
      have HW := HW.r f106 hm
      have WK := WK.r f106 hm
      have WP := WP.r f106 hm
      have KP := KP.r f106 hm
      have LP := LP.r f106 hm
      have PT := PT.r f106 hm
      have PU := PU.r f106 hm
      have HA := HA.r f106 hm
      have CT := CT.r f106 hm
      have BU := BUo.w okb (fun j hj => kE1668 okb hm hj) ht m106 OC
      refine w_aload_n d290_109 rfl ?_
      refine w_dloadS d290_110 (ok106.kd hm) (fr1707 ok106 hm) ?_
      refine w_iload_n d290_113 rfl ?_
      refine w_aload_n d290_114 rfl ?_
      refine w_dloadS d290_115 (ok106.kd hm) (fr1716 ok106 hm) ?_
      refine w_iload_n d290_118 rfl ?_
      have k119 := kE1716 ok106 hm (j := w) (by omega)
      refine w_aaloadSN d290_119 (gi1716 ok106 hm (by omega)) (er1716 ok106 hm (by omega)) ?_
      refine w_getI (x := (((wk w).2.2.length : Nat) : Int)) d290_120 (ok106.kd k119) ((WK w hw).2.2.1) ?_
      refine w_ifle d290_123 (fun c123 => ?_) (fun c123 => ?_)
      · have wn : (wk w).2.2 = [] := List.length_eq_zero_iff.mp (by omega)
        refine w_iconst d290_130 (by decide) ?_
        refine wa1707 d290_131 ok106 hm (by omega) (by omega) (fun h131 e131 m131 => ?_)
        have e131 : h131 = sAI h106 (sT S 1707 m) t 1 := e131
        have f131 : Fr S m [1707] _ _ := Fr.wB ok106 hm m131 (fun ζ e => ⟨1707, by decide, by decide, e ▸ U_refl⟩)
        have ok131 := f131.ok
        have FR131 := Fr.tr (F := [1713, 1710, 1711, 1712, 1701, 1702, 1703, 1668, 1707, 1667, 1666, 1671, 1670]) FR106 f131 (by decide) (by decide)
        have HW := HW.r f131 hm
        have WK := WK.r f131 hm
        have WP := WP.r f131 hm
        have KP := KP.r f131 hm
        have LP := LP.r f131 hm
        have PT := PT.r f131 hm
        have PU := PU.r f131 hm
        have HA := HA.r f131 hm
        have CT := CT.r f131 hm
        have BU := OmS.r (f := 1668) f131 hm (Or.inl rfl) (by decide) BU
        have ST := StR.w ST (x := 1) e131
        refine w_aload_n d290_132 rfl ?_
        refine w_dloadS d290_133 (ok131.kd hm) (fr1707 ok131 hm) ?_
        refine w_iload_n d290_136 rfl ?_
        refine w_ialoadV (x := ((1 : Nat) : Int)) d290_137 (gi1707 ok131 hm (by omega)) ((ST t ht).trans (by dsimp only; rw [upN_at])) ?_
        refine w_iconst d290_138 (by decide) ?_
        refine w_icmpne d290_139 (fun c139 => ?_) (fun c139 => ?_)
        · refine w_aload_n d290_143 rfl ?_
          refine w_dloadS d290_144 (ok131.kd hm) (fr1667 ok131 hm) ?_
          refine w_iload_n d290_147 rfl ?_
          have k148 := kE1667 ok131 hm (j := t) (by omega)
          refine w_aaloadSN d290_148 (gi1667 ok131 hm (by omega)) (er1667 ok131 hm (by omega)) ?_
          refine w_aload_n d290_149 rfl ?_
          refine w_dloadS d290_150 (ok131.kd hm) (fr1716 ok131 hm) ?_
          refine w_iload_n d290_153 rfl ?_
          have k154 := kE1716 ok131 hm (j := w) (by omega)
          refine w_aaloadSN d290_154 (gi1716 ok131 hm (by omega)) (er1716 ok131 hm (by omega)) ?_
          have PTo := PT
          have okb := ok131
          refine w_callv2 d290_155 (by omega) rfl (ok131.kd k148) (by simp) (Nat.le_of_ble_eq_true rfl) ?_
          refine k_O_copy ok131 (by omega) k148 k154 (WK w hw) (fun y u z => ok131.so.sib (f := 1716) (g := 1667) (by decide) (by decide) (by decide) (U_trans (ok131.so.uE (by omega) U_refl) u) (U_trans (ok131.so.uE (by omega) U_refl) z)) (fun h155 m155 OC => ?_)
          have f155 : Fr S m [1667] _ _ := Fr.wB ok131 hm m155 (fun ζ u => ⟨1667, by decide, by decide, U_trans (ok.so.uE (by omega) U_refl) u⟩)
          have ok155 := f155.ok
          have FR155 := Fr.tr (F := [1713, 1710, 1711, 1712, 1701, 1702, 1703, 1668, 1707, 1667, 1666, 1671, 1670]) FR131 f155 (by decide) (by decide)
          have HW := HW.r f155 hm
          have WK := WK.r f155 hm
          have WP := WP.r f155 hm
          have KP := KP.r f155 hm
          have LP := LP.r f155 hm
          have PU := PU.r f155 hm
          have HA := HA.r f155 hm
          have CT := CT.r f155 hm
          have BU := OmS.r (f := 1668) f155 hm (Or.inl rfl) (by decide) BU
          have ST := ST.r f155 hm
          have PT : OmA S h155 m 1667 (upO bp t (wk w)) := OmS.w PTo okb (fun j hj => kE1667 okb hm hj) ht m155 OC
          refine w_aload_n d290_158 rfl ?_
          refine w_dloadS d290_159 (ok155.kd hm) (fr1666 ok155 hm) ?_
          refine w_iload_n d290_162 rfl ?_
          refine w_iconst d290_163 (by decide) ?_
          refine wa1666 d290_164 ok155 hm (by omega) (by omega) (fun h164 e164 m164 => ?_)
          have e164 : h164 = sAI h155 (sT S 1666 m) t 1 := e164
          have f164 : Fr S m [1666] _ _ := Fr.wB ok155 hm m164 (fun ζ e => ⟨1666, by decide, by decide, e ▸ U_refl⟩)
          have ok164 := f164.ok
          have FR164 := Fr.tr (F := [1713, 1710, 1711, 1712, 1701, 1702, 1703, 1668, 1707, 1667, 1666, 1671, 1670]) FR155 f164 (by decide) (by decide)
          have HW := HW.r f164 hm
          have WK := WK.r f164 hm
          have WP := WP.r f164 hm
          have KP := KP.r f164 hm
          have LP := LP.r f164 hm
          have HA := HA.r f164 hm
          have CT := CT.r f164 hm
          have BU := OmS.r (f := 1668) f164 hm (Or.inl rfl) (by decide) BU
          have ST := ST.r f164 hm
          have PT := PT.r f164 hm
          have PU := PU.w e164
          refine w_aload_n d290_165 rfl ?_
          refine w_dloadS d290_166 (ok164.kd hm) (fr1671 ok164 hm) ?_
          refine w_iload_n d290_169 rfl ?_
          refine w_aload_n d290_170 rfl ?_
          refine w_dloadS d290_171 (ok164.kd hm) (fr1719 ok164 hm) ?_
          refine w_iload_n d290_174 rfl ?_
          refine w_ialoadV (x := (((pf w).length : Nat) : Int)) d290_175 (gi1719 ok164 hm (by omega)) ((WP w hw).2.1) ?_
          have LPo := LP
          have hb := 0
          refine wa1671 d290_176 ok164 hm (by omega) (by have := (WP w hw).2.2.1; omega) (fun h176 e176 m176 => ?_)
          have e176 : h176 = sAI h164 (sT S 1671 m) t (((pf w).length : Nat) : Int) := e176
          have f176 : Fr S m [1671] _ _ := Fr.wB ok164 hm m176 (fun ζ e => ⟨1671, by decide, by decide, e ▸ U_refl⟩)
          have ok176 := f176.ok
          have FR176 := Fr.tr (F := [1713, 1710, 1711, 1712, 1701, 1702, 1703, 1668, 1707, 1667, 1666, 1671, 1670]) FR164 f176 (by decide) (by decide)
          have HW := HW.r f176 hm
          have WK := WK.r f176 hm
          have WP := WP.r f176 hm
          have KP := KP.r f176 hm
          have HA := HA.r f176 hm
          have CT := CT.r f176 hm
          have BU := OmS.r (f := 1668) f176 hm (Or.inl rfl) (by decide) BU
          have ST := ST.r f176 hm
          have PT := PT.r f176 hm
          have PU := PU.r f176 hm
          refine w_iconst d290_177 (by decide) ?_
          refine w_istore3 d290_178 rfl ?_
          have L179 : ∀ (m179 : Nat) (g : Hp) (k : Nat), (pf w).length - k = m179 → Fr S m [1713, 1710, 1711, 1712, 1701, 1702, 1703, 1668, 1707, 1667, 1666, 1671, 1670] h g → (k ≤ (pf w).length) → (LpS S h164 g m t k (pf w)) → (ArI S g m 1713 (upO H w (-1)) 2) → (CtR S g m (upN C 2 (C 2 + 1))) → (KpR S g m ks) → (OmS S g (sT S 1668 m) (upO bu t (wk w))) → (ArI S g m 1707 (fun u => ((upN E t 1 u : Nat) : Int)) 14) → (OmA S g m 1667 (upO bp t (wk w))) → (PuR S g m (upO pb t true)) → Wp G d 290 179 [some (vR (some m)), some (vI (w : Nat)), some (vI (t : Nat)), some (vI (k : Nat))] [] g Q := by
            intro m179
            induction m179 using Nat.strongRecOn with | ind m179 IH179 => ?_
            intro g k hm179 FRg kl LS HA CT KP BU ST PT PU
            have okg := FRg.ok
            have HW := HW_0.r FRg hm
            have WK := WK_0.r FRg hm
            have WP := WP_0.r FRg hm
            refine w_iload_n d290_179 rfl ?_
            refine w_aload_n d290_180 rfl ?_
            refine w_dloadS d290_181 (okg.kd hm) (fr1719 okg hm) ?_
            refine w_iload_n d290_184 rfl ?_
            refine w_ialoadV (x := (((pf w).length : Nat) : Int)) d290_185 (gi1719 okg hm (by omega)) ((WP w hw).2.1) ?_
            refine w_icmpge d290_186 (fun c186 => ?_) (fun c186 => ?_)
            · have ek : k = (pf w).length := by omega
              rw [ek] at LS
              have LP := LS.e LPo (WP w hw).2.2.1
              refine w_return d290_217 ?_
              refine k2 _ FRg HA CT ?_ BU ST wn PT PU LP
              first | (rw [if_pos rfl]; exact KP) | (rw [if_neg (by decide)]; exact KP)
            · have hk : k < (pf w).length := by omega
              have h7 := (WP w hw).2.2.1
              refine w_aload_n d290_189 rfl ?_
              refine w_dloadS d290_190 (okg.kd hm) (fr1670 okg hm) ?_
              refine w_bipush d290_193 (by decide) ?_
              refine w_iload_n d290_195 rfl ?_
              refine w_imul d290_196 (by constructor <;> omega) ?_
              rw [show (7 : Int) * ((t : Nat) : Int) = ((7 * t : Nat) : Int) by omega]
              refine w_iload_n d290_197 rfl ?_
              refine w_iadd d290_198 (by constructor <;> omega) ?_
              rw [show ((7 * t : Nat) : Int) + ((k : Nat) : Int) = ((7 * t + k : Nat) : Int) by omega]
              refine w_aload_n d290_199 rfl ?_
              refine w_dloadS d290_200 (okg.kd hm) (fr1718 okg hm) ?_
              refine w_bipush d290_203 (by decide) ?_
              refine w_iload_n d290_205 rfl ?_
              refine w_imul d290_206 (by constructor <;> omega) ?_
              rw [show (7 : Int) * ((w : Nat) : Int) = ((7 * w : Nat) : Int) by omega]
              refine w_iload_n d290_207 rfl ?_
              refine w_iadd d290_208 (by constructor <;> omega) ?_
              rw [show ((7 * w : Nat) : Int) + ((k : Nat) : Int) = ((7 * w + k : Nat) : Int) by omega]
              refine w_laloadV (x := ((pf w).getD k 0)) d290_209 (gi1718 okg hm (by omega)) ((WP w hw).2.2.2 k hk) ?_
              refine wa1670 d290_210 okg hm (by omega) (fun h210 e210 m210 => ?_)
              have e210 : h210 = sAL g (sT S 1670 m) (7 * t + k) ((pf w).getD k 0) := e210
              have f210 : Fr S m [1670] _ _ := Fr.wB okg hm m210 (fun ζ e => ⟨1670, by decide, by decide, e ▸ U_refl⟩)
              have ok210 := f210.ok
              have FR210 := Fr.tr (F := [1713, 1710, 1711, 1712, 1701, 1702, 1703, 1668, 1707, 1667, 1666, 1671, 1670]) FRg f210 (by decide) (by decide)
              have HA := HA.r f210 hm
              have CT := CT.r f210 hm
              have KP := KP.r f210 hm
              have BU := OmS.r (f := 1668) f210 hm (Or.inl rfl) (by decide) BU
              have ST := ST.r f210 hm
              have PT := PT.r f210 hm
              have PU := PU.r f210 hm
              have HW := HW.r f210 hm
              have WK := WK.r f210 hm
              have WP := WP.r f210 hm
              refine w_iinc3 d290_211 rfl (by constructor <;> omega) ?_
              refine w_goto d290_214 ?_
              rw [show ((k : Nat) : Int) + 1 = ((k + 1 : Nat) : Int) by omega]
              have LS2 := LS.s e210
              refine w_less ?_ (IH179 _ (by omega) h210 (k + 1) rfl FR210 (by omega) LS2 HA CT KP BU ST PT PU)
              exact ⟨Or.inr rfl, Or.inr rfl, Or.inr rfl, Or.inr rfl, trivial⟩
          have LS : LpS S h164 h176 m t 0 (pf w) := by
            refine ⟨fun j => ?_, fun j => ?_⟩
            · rw [e176, sArr]
            · rw [if_neg (by omega), e176]; rfl
          refine w_less ?_ (L179 _ h176 0 rfl FR176 (Nat.zero_le _) LS HA CT KP BU ST PT PU)
          exact ⟨Or.inr rfl, Or.inr rfl, Or.inr rfl, Or.inr rfl, trivial⟩
        · omega
      · have wn : (wk w).2.2 ≠ [] := fun y => by rw [y] at c123; exact absurd c123 (by decide)
        refine w_iconst d290_126 (by decide) ?_
        refine w_goto d290_127 ?_
        refine wa1707 d290_131 ok106 hm (by omega) (by omega) (fun h131 e131 m131 => ?_)
        have e131 : h131 = sAI h106 (sT S 1707 m) t 2 := e131
        have f131 : Fr S m [1707] _ _ := Fr.wB ok106 hm m131 (fun ζ e => ⟨1707, by decide, by decide, e ▸ U_refl⟩)
        have ok131 := f131.ok
        have FR131 := Fr.tr (F := [1713, 1710, 1711, 1712, 1701, 1702, 1703, 1668, 1707, 1667, 1666, 1671, 1670]) FR106 f131 (by decide) (by decide)
        have HW := HW.r f131 hm
        have WK := WK.r f131 hm
        have WP := WP.r f131 hm
        have KP := KP.r f131 hm
        have LP := LP.r f131 hm
        have PT := PT.r f131 hm
        have PU := PU.r f131 hm
        have HA := HA.r f131 hm
        have CT := CT.r f131 hm
        have BU := OmS.r (f := 1668) f131 hm (Or.inl rfl) (by decide) BU
        have ST := StR.w ST (x := 2) e131
        refine w_aload_n d290_132 rfl ?_
        refine w_dloadS d290_133 (ok131.kd hm) (fr1707 ok131 hm) ?_
        refine w_iload_n d290_136 rfl ?_
        refine w_ialoadV (x := ((2 : Nat) : Int)) d290_137 (gi1707 ok131 hm (by omega)) ((ST t ht).trans (by dsimp only; rw [upN_at])) ?_
        refine w_iconst d290_138 (by decide) ?_
        refine w_icmpne d290_139 (fun c139 => ?_) (fun c139 => ?_)
        · omega
        · refine w_return d290_142 ?_
          refine k1 _ FR131 HA CT ?_ BU ST wn PT PU LP
          first | (rw [if_pos rfl]; exact KP) | (rw [if_neg (by decide)]; exact KP)
    · omega
