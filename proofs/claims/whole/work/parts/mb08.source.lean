/-! the reference: a line of a source -/
section SRR
variable {y : List Nat} {ss : List SrV} {fs : List FaV}
theorem srR_b1 (hne : 0 < y.length) (h : wordE y (opF y 0) 8 48 = opF y 0 ∨ atv y (wordE y (opF y 0) 8 48 : Nat) ≠ 61 ∨ 0 ≤ sAt ss (srN y 0) ∨ 246 ≤ ss.length) : srR y 0 y.length ss fs = (false, ss) := by
  unfold srR
  rw [if_neg (by omega), if_pos h]
theorem srR_b2 (hne : 0 < y.length) (h : rsG ss fs y y.length (wordE y (opF y 0) 8 48) (y.length + 1) (wordE y (opF y 0) 8 48) 0 0 = none) : srR y 0 y.length ss fs = (false, ss) := by
  by_cases c : wordE y (opF y 0) 8 48 = opF y 0 ∨ atv y (wordE y (opF y 0) 8 48 : Nat) ≠ 61 ∨ 0 ≤ sAt ss (srN y 0) ∨ 246 ≤ ss.length
  · exact srR_b1 hne c
  · unfold srR
    rw [if_neg (by omega), if_neg c, h]
theorem srR_g {s q : Nat} (hne : 0 < y.length) (c : ¬ (wordE y (opF y 0) 8 48 = opF y 0 ∨ atv y (wordE y (opF y 0) 8 48 : Nat) ≠ 61 ∨ 0 ≤ sAt ss (srN y 0) ∨ 246 ≤ ss.length)) (h : rsG ss fs y y.length (wordE y (opF y 0) 8 48) (y.length + 1) (wordE y (opF y 0) 8 48) 0 0 = some (s, q)) : srR y 0 y.length ss fs = (true, ss ++ [(srN y 0, (s + q) % 10000, opB y 0)]) := by
  unfold srR
  rw [if_neg (by omega), if_neg c, h]
end SRR
/-- sums so far -/
def SrI (ss : List SrV) (fs : List FaV) (y : List Nat) (a p2 v : Nat) (w : Bool) : Prop := (w = false ∧ a < p2 ∧ atv y (p2 : Nat) ≠ 42 ∧ ∃ s q n2, y.length - p2 < n2 ∧ rsG ss fs y y.length a (y.length + 1) a 0 0 = rsG ss fs y y.length a n2 p2 s q ∧ v = (s + q) % 10000) ∨ (w = true ∧ rsG ss fs y y.length a (y.length + 1) a 0 0 = none)
/-- pub is read, or not -/
def PubI (y : List Nat) (p0 : Nat) (pb : Bool) : Prop := (opF y 0 = p0 ∧ opB y 0 = pb ∧ p0 ≤ y.length) ∨ (p0 = 0 ∧ pb = false ∧ wordE y (opF y 0) 8 48 = opF y 0 ∧ atv y (wordE y 0 8 48 : Nat) ≠ 61)
theorem PubI.of {y : List Nat} {pb : Bool} (hy : ∀ j, y.getD j 0 < 256) (h : (pb = true ∧ 4 < y.length ∧ opB y 0 = true) ∨ (pb = false ∧ (y.length ≤ 4 ∨ ¬ opB y 0 = true))) : PubI y (if pb = true then 4 else 0) pb := by
  rcases h with ⟨h1, h2, h3⟩ | ⟨h1, h2⟩
  · subst h1
    refine Or.inl ⟨?_, h3, ?_⟩
    · unfold opF; rw [if_pos h3]; rfl
    · show 4 ≤ y.length; omega
  · subst h1
    by_cases o : opB y 0 = true
    · have l4 := h2.resolve_right (fun z => z o)
      obtain ⟨e0, e1, e2, e3⟩ := (opB_iff hy).mp o
      have l3 : 3 < y.length := by
        rcases Nat.lt_or_ge 3 y.length with z | z
        · exact z
        · rw [List.getD_eq_getElem?_getD, List.getElem?_eq_none z] at e3
          exact absurd e3 (by decide)
      refine Or.inr ⟨rfl, rfl, ?_, ?_⟩
      · have : opF y 0 = 4 := by unfold opF; rw [if_pos o]
        rw [this]
        exact word_no (fun z => by omega)
      · have w : wordE y 0 8 48 = 3 := by
          have := word_to (y := y) (p := 0) (q := 3) (by omega) (by rw [e0]; decide) ⟨by decide, by omega⟩ (fun j _ hj => by
            rcases j with _ | _ | _ | j
            · rw [e0]; decide
            · rw [e1]; decide
            · rw [e2]; decide
            · omega) (Or.inr (by rw [e3]; decide))
          simpa using this
        rw [w, atvI, if_pos l3, e3]
        decide
    · have o2 : opB y 0 = false := by
        rcases Bool.eq_false_or_eq_true (opB y 0) with z | z
        · exact absurd z o
        · exact z
      refine Or.inl ⟨?_, o2, Nat.zero_le _⟩
      unfold opF; rw [if_neg o]; rfl
theorem d276_0 : dc 276 0 = some (.iload_n 1, 1) := by decide +kernel
theorem d276_1 : dc 276 1 = some (.iload_n 2, 2) := by decide +kernel
theorem d276_2 : dc 276 2 = some (.if_icmp .ne ((7 : Nat) : Int), 5) := by decide +kernel
theorem d276_5 : dc 276 5 = some (.iconst 1, 6) := by decide +kernel
theorem d276_6 : dc 276 6 = some (.freturn, 7) := by decide +kernel
theorem d276_7 : dc 276 7 = some (.aload_n 0, 8) := by decide +kernel
theorem d276_8 : dc 276 8 = some (.iload_n 1, 9) := by decide +kernel
theorem d276_9 : dc 276 9 = some (.putfield 1698, 12) := by decide +kernel
theorem d276_12 : dc 276 12 = some (.aload_n 0, 13) := by decide +kernel
theorem d276_13 : dc 276 13 = some (.iload_n 2, 14) := by decide +kernel
theorem d276_14 : dc 276 14 = some (.putfield 1699, 17) := by decide +kernel
theorem d276_17 : dc 276 17 = some (.aload_n 0, 18) := by decide +kernel
theorem d276_18 : dc 276 18 = some (.iconst 0, 19) := by decide +kernel
theorem d276_19 : dc 276 19 = some (.putstatic 1700, 22) := by decide +kernel
theorem d276_22 : dc 276 22 = some (.iload_n 2, 23) := by decide +kernel
theorem d276_23 : dc 276 23 = some (.iload_n 1, 24) := by decide +kernel
theorem d276_24 : dc 276 24 = some (.isub, 25) := by decide +kernel
theorem d276_25 : dc 276 25 = some (.iconst 4, 26) := by decide +kernel
theorem d276_26 : dc 276 26 = some (.if_icmp .le ((83 : Nat) : Int), 29) := by decide +kernel
theorem d276_29 : dc 276 29 = some (.aload_n 0, 30) := by decide +kernel
theorem d276_30 : dc 276 30 = some (.dload 1681, 33) := by decide +kernel
theorem d276_33 : dc 276 33 = some (.iload_n 1, 34) := by decide +kernel
theorem d276_34 : dc 276 34 = some (.iaload, 35) := by decide +kernel
theorem d276_35 : dc 276 35 = some (.bipush 112, 37) := by decide +kernel
theorem d276_37 : dc 276 37 = some (.if_icmp .ne ((83 : Nat) : Int), 40) := by decide +kernel
theorem d276_40 : dc 276 40 = some (.aload_n 0, 41) := by decide +kernel
theorem d276_41 : dc 276 41 = some (.dload 1681, 44) := by decide +kernel
theorem d276_44 : dc 276 44 = some (.iload_n 1, 45) := by decide +kernel
theorem d276_45 : dc 276 45 = some (.iconst 1, 46) := by decide +kernel
theorem d276_46 : dc 276 46 = some (.iadd, 47) := by decide +kernel
theorem d276_47 : dc 276 47 = some (.iaload, 48) := by decide +kernel
theorem d276_48 : dc 276 48 = some (.bipush 117, 50) := by decide +kernel
theorem d276_50 : dc 276 50 = some (.if_icmp .ne ((83 : Nat) : Int), 53) := by decide +kernel
theorem d276_53 : dc 276 53 = some (.aload_n 0, 54) := by decide +kernel
theorem d276_54 : dc 276 54 = some (.dload 1681, 57) := by decide +kernel
theorem d276_57 : dc 276 57 = some (.iload_n 1, 58) := by decide +kernel
theorem d276_58 : dc 276 58 = some (.iconst 2, 59) := by decide +kernel
theorem d276_59 : dc 276 59 = some (.iadd, 60) := by decide +kernel
theorem d276_60 : dc 276 60 = some (.iaload, 61) := by decide +kernel
theorem d276_61 : dc 276 61 = some (.bipush 98, 63) := by decide +kernel
theorem d276_63 : dc 276 63 = some (.if_icmp .ne ((83 : Nat) : Int), 66) := by decide +kernel
theorem d276_66 : dc 276 66 = some (.aload_n 0, 67) := by decide +kernel
theorem d276_67 : dc 276 67 = some (.dload 1681, 70) := by decide +kernel
theorem d276_70 : dc 276 70 = some (.iload_n 1, 71) := by decide +kernel
theorem d276_71 : dc 276 71 = some (.iconst 3, 72) := by decide +kernel
theorem d276_72 : dc 276 72 = some (.iadd, 73) := by decide +kernel
theorem d276_73 : dc 276 73 = some (.iaload, 74) := by decide +kernel
theorem d276_74 : dc 276 74 = some (.bipush 32, 76) := by decide +kernel
theorem d276_76 : dc 276 76 = some (.if_icmp .ne ((83 : Nat) : Int), 79) := by decide +kernel
theorem d276_79 : dc 276 79 = some (.iconst 1, 80) := by decide +kernel
theorem d276_80 : dc 276 80 = some (.goto ((84 : Nat) : Int), 83) := by decide +kernel
theorem d276_83 : dc 276 83 = some (.iconst 0, 84) := by decide +kernel
theorem d276_84 : dc 276 84 = some (.istore_n 3, 85) := by decide +kernel
theorem d276_85 : dc 276 85 = some (.iload_n 3, 86) := by decide +kernel
theorem d276_86 : dc 276 86 = some (.ifCond .eq ((99 : Nat) : Int), 89) := by decide +kernel
theorem d276_89 : dc 276 89 = some (.aload_n 0, 90) := by decide +kernel
theorem d276_90 : dc 276 90 = some (.dup, 91) := by decide +kernel
theorem d276_91 : dc 276 91 = some (.getfield 1698, 94) := by decide +kernel
theorem d276_94 : dc 276 94 = some (.iconst 4, 95) := by decide +kernel
theorem d276_95 : dc 276 95 = some (.iadd, 96) := by decide +kernel
theorem d276_96 : dc 276 96 = some (.putfield 1698, 99) := by decide +kernel
theorem d276_99 : dc 276 99 = some (.aload_n 0, 100) := by decide +kernel
theorem d276_100 : dc 276 100 = some (.getfield 1698, 103) := by decide +kernel
theorem d276_103 : dc 276 103 = some (.istore 4, 105) := by decide +kernel
theorem d276_105 : dc 276 105 = some (.aload_n 0, 106) := by decide +kernel
theorem d276_106 : dc 276 106 = some (.invokevirtual 272, 109) := by decide +kernel
theorem d276_109 : dc 276 109 = some (.istore 5, 111) := by decide +kernel
theorem d276_111 : dc 276 111 = some (.aload_n 0, 112) := by decide +kernel
theorem d276_112 : dc 276 112 = some (.bipush 61, 114) := by decide +kernel
theorem d276_114 : dc 276 114 = some (.invokevirtual 274, 117) := by decide +kernel
theorem d276_117 : dc 276 117 = some (.aload_n 0, 118) := by decide +kernel
theorem d276_118 : dc 276 118 = some (.getfield 1700, 121) := by decide +kernel
theorem d276_121 : dc 276 121 = some (.ifCond .eq ((126 : Nat) : Int), 124) := by decide +kernel
theorem d276_124 : dc 276 124 = some (.iconst 0, 125) := by decide +kernel
theorem d276_125 : dc 276 125 = some (.freturn, 126) := by decide +kernel
theorem d276_126 : dc 276 126 = some (.aload_n 0, 127) := by decide +kernel
theorem d276_127 : dc 276 127 = some (.invokevirtual 277, 130) := by decide +kernel
theorem d276_130 : dc 276 130 = some (.istore 6, 132) := by decide +kernel
theorem d276_132 : dc 276 132 = some (.aload_n 0, 133) := by decide +kernel
theorem d276_133 : dc 276 133 = some (.getfield 1700, 136) := by decide +kernel
theorem d276_136 : dc 276 136 = some (.ifCond .ne ((174 : Nat) : Int), 139) := by decide +kernel
theorem d276_139 : dc 276 139 = some (.aload_n 0, 140) := by decide +kernel
theorem d276_140 : dc 276 140 = some (.invokevirtual 273, 143) := by decide +kernel
theorem d276_143 : dc 276 143 = some (.bipush 43, 145) := by decide +kernel
theorem d276_145 : dc 276 145 = some (.if_icmp .ne ((174 : Nat) : Int), 148) := by decide +kernel
theorem d276_148 : dc 276 148 = some (.aload_n 0, 149) := by decide +kernel
theorem d276_149 : dc 276 149 = some (.dup, 150) := by decide +kernel
theorem d276_150 : dc 276 150 = some (.getfield 1698, 153) := by decide +kernel
theorem d276_153 : dc 276 153 = some (.iconst 1, 154) := by decide +kernel
theorem d276_154 : dc 276 154 = some (.iadd, 155) := by decide +kernel
theorem d276_155 : dc 276 155 = some (.putfield 1698, 158) := by decide +kernel
theorem d276_158 : dc 276 158 = some (.iload 6, 160) := by decide +kernel
theorem d276_160 : dc 276 160 = some (.aload_n 0, 161) := by decide +kernel
theorem d276_161 : dc 276 161 = some (.invokevirtual 277, 164) := by decide +kernel
theorem d276_164 : dc 276 164 = some (.iadd, 165) := by decide +kernel
theorem d276_165 : dc 276 165 = some (.sipush 10000, 168) := by decide +kernel
theorem d276_168 : dc 276 168 = some (.irem, 169) := by decide +kernel
theorem d276_169 : dc 276 169 = some (.istore 6, 171) := by decide +kernel
theorem d276_171 : dc 276 171 = some (.goto ((132 : Nat) : Int), 174) := by decide +kernel
theorem d276_174 : dc 276 174 = some (.aload_n 0, 175) := by decide +kernel
theorem d276_175 : dc 276 175 = some (.getfield 1700, 178) := by decide +kernel
theorem d276_178 : dc 276 178 = some (.ifCond .ne ((192 : Nat) : Int), 181) := by decide +kernel
theorem d276_181 : dc 276 181 = some (.aload_n 0, 182) := by decide +kernel
theorem d276_182 : dc 276 182 = some (.getfield 1698, 185) := by decide +kernel
theorem d276_185 : dc 276 185 = some (.aload_n 0, 186) := by decide +kernel
theorem d276_186 : dc 276 186 = some (.getfield 1699, 189) := by decide +kernel
theorem d276_189 : dc 276 189 = some (.if_icmp .eq ((194 : Nat) : Int), 192) := by decide +kernel
theorem d276_192 : dc 276 192 = some (.iconst 0, 193) := by decide +kernel
theorem d276_193 : dc 276 193 = some (.freturn, 194) := by decide +kernel
theorem d276_194 : dc 276 194 = some (.iconst 0, 195) := by decide +kernel
theorem d276_195 : dc 276 195 = some (.istore 7, 197) := by decide +kernel
theorem d276_197 : dc 276 197 = some (.iload 7, 199) := by decide +kernel
theorem d276_199 : dc 276 199 = some (.aload_n 0, 200) := by decide +kernel
theorem d276_200 : dc 276 200 = some (.getfield 1693, 203) := by decide +kernel
theorem d276_203 : dc 276 203 = some (.if_icmp .ge ((239 : Nat) : Int), 206) := by decide +kernel
theorem d276_206 : dc 276 206 = some (.aload_n 0, 207) := by decide +kernel
theorem d276_207 : dc 276 207 = some (.aload_n 0, 208) := by decide +kernel
theorem d276_208 : dc 276 208 = some (.dload 1689, 211) := by decide +kernel
theorem d276_211 : dc 276 211 = some (.iload 7, 213) := by decide +kernel
theorem d276_213 : dc 276 213 = some (.iaload, 214) := by decide +kernel
theorem d276_214 : dc 276 214 = some (.iload 4, 216) := by decide +kernel
theorem d276_216 : dc 276 216 = some (.aload_n 0, 217) := by decide +kernel
theorem d276_217 : dc 276 217 = some (.dload 1690, 220) := by decide +kernel
theorem d276_220 : dc 276 220 = some (.iload 7, 222) := by decide +kernel
theorem d276_222 : dc 276 222 = some (.iaload, 223) := by decide +kernel
theorem d276_223 : dc 276 223 = some (.iload 5, 225) := by decide +kernel
theorem d276_225 : dc 276 225 = some (.invokevirtual 280, 228) := by decide +kernel
theorem d276_228 : dc 276 228 = some (.ifCond .eq ((233 : Nat) : Int), 231) := by decide +kernel
theorem d276_231 : dc 276 231 = some (.iconst 0, 232) := by decide +kernel
theorem d276_232 : dc 276 232 = some (.freturn, 233) := by decide +kernel
theorem d276_233 : dc 276 233 = some (.iinc 7 1, 236) := by decide +kernel
theorem d276_236 : dc 276 236 = some (.goto ((197 : Nat) : Int), 239) := by decide +kernel
theorem d276_239 : dc 276 239 = some (.aload_n 0, 240) := by decide +kernel
theorem d276_240 : dc 276 240 = some (.dload 1689, 243) := by decide +kernel
theorem d276_243 : dc 276 243 = some (.aload_n 0, 244) := by decide +kernel
theorem d276_244 : dc 276 244 = some (.getfield 1693, 247) := by decide +kernel
theorem d276_247 : dc 276 247 = some (.iload 4, 249) := by decide +kernel
theorem d276_249 : dc 276 249 = some (.iastore, 250) := by decide +kernel
theorem d276_250 : dc 276 250 = some (.aload_n 0, 251) := by decide +kernel
theorem d276_251 : dc 276 251 = some (.dload 1690, 254) := by decide +kernel
theorem d276_254 : dc 276 254 = some (.aload_n 0, 255) := by decide +kernel
theorem d276_255 : dc 276 255 = some (.getfield 1693, 258) := by decide +kernel
theorem d276_258 : dc 276 258 = some (.iload 5, 260) := by decide +kernel
theorem d276_260 : dc 276 260 = some (.iastore, 261) := by decide +kernel
theorem d276_261 : dc 276 261 = some (.aload_n 0, 262) := by decide +kernel
theorem d276_262 : dc 276 262 = some (.dload 1691, 265) := by decide +kernel
theorem d276_265 : dc 276 265 = some (.aload_n 0, 266) := by decide +kernel
theorem d276_266 : dc 276 266 = some (.getfield 1693, 269) := by decide +kernel
theorem d276_269 : dc 276 269 = some (.iload 6, 271) := by decide +kernel
theorem d276_271 : dc 276 271 = some (.iastore, 272) := by decide +kernel
theorem d276_272 : dc 276 272 = some (.aload_n 0, 273) := by decide +kernel
theorem d276_273 : dc 276 273 = some (.dload 1692, 276) := by decide +kernel
theorem d276_276 : dc 276 276 = some (.aload_n 0, 277) := by decide +kernel
theorem d276_277 : dc 276 277 = some (.getfield 1693, 280) := by decide +kernel
theorem d276_280 : dc 276 280 = some (.iload_n 3, 281) := by decide +kernel
theorem d276_281 : dc 276 281 = some (.bastore, 282) := by decide +kernel
theorem d276_282 : dc 276 282 = some (.aload_n 0, 283) := by decide +kernel
theorem d276_283 : dc 276 283 = some (.dup, 284) := by decide +kernel
theorem d276_284 : dc 276 284 = some (.getfield 1693, 287) := by decide +kernel
theorem d276_287 : dc 276 287 = some (.iconst 1, 288) := by decide +kernel
theorem d276_288 : dc 276 288 = some (.iadd, 289) := by decide +kernel
theorem d276_289 : dc 276 289 = some (.putfield 1693, 292) := by decide +kernel
theorem d276_292 : dc 276 292 = some (.iconst 1, 293) := by decide +kernel
theorem d276_293 : dc 276 293 = some (.freturn, 294) := by decide +kernel
theorem k_M_sourceLine {S : Shp} {G : Nat → Option Nat} {d : Nat} {h : Hp} {Q : Option MV → Hp → Prop} {m : Nat} {f : Nat} {e_ : Nat} {y l : List Nat} {ss : List SrV} {fs : List FaV} (ok : Ok S h) (h1 : 5 ≤ d) (hm : sK S m = 14) (AL : AlR S h m l) (SR : SrM S h m l ss) (FC : FcM S h m l fs) (hy : Yin l f y) (he : e_ = f + y.length) (hn : ss.length < 246)
    (kk : ∀ h', Fr S m [1698, 1699, 1700, 1689, 1690, 1691, 1692, 1693] h h' → SrM S h' m l (srR y 0 y.length ss fs).2 → Q (some (vI (b2i (srR y 0 y.length ss fs).1))) h') : Cl G d 276 [vR (some m), vI (f : Nat), vI (e_ : Nat)] h Q := by
  show Wp G d 276 0 [some (vR (some m)), some (vI (f : Nat)), some (vI (e_ : Nat)), none, none, none, none, none] [] h Q
  have AL_0 := AL
  have SR_0 := SR
  have FC_0 := FC
  subst he
  have l3 : l.length ≤ 3600 := by have sl := sLT ok (f := 1681) (n := 3600) hm (by decide) rfl (by decide); have := AL.2.2.1; omega
  have hyl := hy.1
  have yl := hy.lt ok hm AL
  refine w_iload_n d276_0 rfl ?_
  refine w_iload_n d276_1 rfl ?_
  refine w_icmpne d276_2 (fun c2 => ?_) (fun c2 => ?_)
  · have y0 : 0 < y.length := by omega
    refine w_aload_n d276_7 rfl ?_
    refine w_iload_n d276_8 rfl ?_
    refine wf1698 d276_9 ok hm (by omega) (fun h9 e9 m9 => ?_)
    have f9 : Fr S m [1698] _ _ := Fr.wF ok m9 (FK.pI e9)
    have ok9 := f9.ok
    have FR9 := Fr.le (F := [1698, 1699, 1700, 1689, 1690, 1691, 1692, 1693]) f9 (by decide)
    have AL := AL.r f9 hm
    have SR := SR.r f9 hm
    have FC := FC.r f9 hm
    refine w_aload_n d276_12 rfl ?_
    refine w_iload_n d276_13 rfl ?_
    refine wf1699 d276_14 ok9 hm (by omega) (fun h14 e14 m14 => ?_)
    have f14 : Fr S m [1699] _ _ := Fr.wF ok9 m14 (FK.pI e14)
    have ok14 := f14.ok
    have FR14 := Fr.tr (F := [1698, 1699, 1700, 1689, 1690, 1691, 1692, 1693]) FR9 f14 (by decide) (by decide)
    have AL := AL.r f14 hm
    have SR := SR.r f14 hm
    have FC := FC.r f14 hm
    refine w_aload_n d276_17 rfl ?_
    refine w_iconst d276_18 (by decide) ?_
    refine wf1700 d276_19 ok14 hm (by omega) (fun h19 e19 m19 => ?_)
    have f19 : Fr S m [1700] _ _ := Fr.wF ok14 m19 (FK.pI e19)
    have ok19 := f19.ok
    have FR19 := Fr.tr (F := [1698, 1699, 1700, 1689, 1690, 1691, 1692, 1693]) FR14 f19 (by decide) (by decide)
    have AL := AL.r f19 hm
    have SR := SR.r f19 hm
    have FC := FC.r f19 hm
    have AT : AtR S h19 m f y 0 false := ⟨by rw [f19.i 1698, f14.i 1698, e9, FI_sFI, if_pos ⟨rfl, rfl⟩]; omega, by rw [f19.i 1699, e14, FI_sFI, if_pos ⟨rfl, rfl⟩], by rw [e19, FI_sFI, if_pos ⟨rfl, rfl⟩]; rfl⟩
    have L85 : ∀ (m85 : Nat) (pb : Bool), 0 = m85 → ((pb = true ∧ 4 < y.length ∧ opB y 0 = true) ∨ (pb = false ∧ (y.length ≤ 4 ∨ ¬ opB y 0 = true))) → Wp G d 276 85 [some (vR (some m)), some (vI (f : Nat)), some (vI (f + y.length : Nat)), some (vI (b2i pb)), none, none, none, none] [] h19 Q := by
      intro m85
      induction m85 using Nat.strongRecOn with | ind m85 IH85 => ?_
      intro pb hm85 ip
      refine w_iload_n d276_85 rfl ?_
      have L99 : ∀ (m99 : Nat) (g9 : Hp) (pb : Bool) (p0 : Nat), 0 = m99 → Fr S m [1698, 1699, 1700, 1689, 1690, 1691, 1692, 1693] h g9 → (AtR S g9 m f y p0 false) → (PubI y p0 pb) → (p0 ≤ y.length) → (SrM S g9 m l ss) → Wp G d 276 99 [some (vR (some m)), some (vI (f : Nat)), some (vI (f + y.length : Nat)), some (vI (b2i pb)), none, none, none, none] [] g9 Q := by
        intro m99
        induction m99 using Nat.strongRecOn with | ind m99 IH99 => ?_
        intro g9 pb p0 hm99 FRg9 AT ip2 pl SR
        have okg9 := FRg9.ok
        have AL := AL_0.r FRg9 hm
        have FC := FC_0.r FRg9 hm
        refine w_aload_n d276_99 rfl ?_
        refine w_getI (x := ((f + p0 : Nat) : Int)) d276_100 (okg9.kd hm) AT.1 ?_
        refine w_istore4 d276_103 rfl ?_
        refine w_aload_n d276_105 rfl ?_
        refine w_callv1 d276_106 (by omega) rfl (okg9.kd hm) (by simp) (Nat.le_of_ble_eq_true rfl) ?_
        refine k_M_lineName okg9 (by omega) hm AT AL hy pl (fun h106 q106 w106 f106 AT aq106 ac106 => ?_)
        have ok106 := f106.ok
        have FR106 := Fr.tr (F := [1698, 1699, 1700, 1689, 1690, 1691, 1692, 1693]) FRg9 f106 (by decide) (by decide)
        have SR := SR.r f106 hm
        have AL := AL.r f106 hm
        have FC := FC.r f106 hm
        refine w_istore5 d276_109 rfl ?_
        refine w_aload_n d276_111 rfl ?_
        refine w_bipush d276_112 (by decide) ?_
        refine w_callv2 d276_114 (by omega) rfl (ok106.kd hm) (by simp) (Nat.le_of_ble_eq_true rfl) ?_
        refine k_M_expectInLine (c := 61) ok106 (by omega) hm AT AL hy aq106.2 (fun h114 p114 w114 f114 AT ac114 => ?_)
        have ok114 := f114.ok
        have FR114 := Fr.tr (F := [1698, 1699, 1700, 1689, 1690, 1691, 1692, 1693]) FR106 f114 (by decide) (by decide)
        have SR := SR.r f114 hm
        have AL := AL.r f114 hm
        have FC := FC.r f114 hm
        refine w_aload_n d276_117 rfl ?_
        refine w_getI (x := (b2i w114)) d276_118 (ok114.kd hm) AT.2.2 ?_
        refine w_ifeq d276_121 (fun c121 => ?_) (fun c121 => ?_)
        · have w114_f : w114 = false := by
            cases hz : w114 with
            | true => rw [hz] at c121; exact absurd c121 (by decide)
            | false => rfl
          have eg : p114 = q106 + 1 ∧ q106 < y.length ∧ w106 = false ∧ atv y (q106 : Nat) = 61 := by
            rcases ac114 with z | z
            · exact ⟨z.1, z.2.1, z.2.2.1.symm.trans w114_f, z.2.2.2⟩
            · rw [w114_f] at z; exact absurd z.2.1 (by decide)
          obtain ⟨pe, ql, wf, a61⟩ := eg
          have ag : q106 = wordE y p0 8 48 ∧ q106 ≠ p0 := by
            rcases ac106 with z | z
            · exact z.2
            · rw [wf] at z; exact absurd z.1 (by decide)
          subst pe
          subst w114_f
          have pi := ip2.resolve_right (fun z => z.2.2.2 (by rw [← z.1, ← ag.1]; exact a61))
          have gq : q106 = wordE y (opF y 0) 8 48 := by rw [pi.1]; exact ag.1
          refine w_aload_n d276_126 rfl ?_
          refine w_callv1 d276_127 (by omega) rfl (ok114.kd hm) (by simp) (Nat.le_of_ble_eq_true rfl) ?_
          refine k_M_term (p := q106) (a := q106) (n := y.length + 1) (s := 0) (q := 0) ok114 (by omega) hm AT AL SR FC hy (by omega) (Nat.le_refl _) (Or.inl ⟨rfl, by omega⟩) (by omega) (fun h127 q127 w127 v127 f127 AT aq127 av127 ac127 => ?_)
          have ok127 := f127.ok
          have FR127 := Fr.tr (F := [1698, 1699, 1700, 1689, 1690, 1691, 1692, 1693]) FR114 f127 (by decide) (by decide)
          have SR := SR.r f127 hm
          have AL := AL.r f127 hm
          have FC := FC.r f127 hm
          have i1 : SrI ss fs y q106 q127 v127 w127 := by
            rcases ac127 with ⟨z1, z2, z3, n2, z4, z5⟩ | ⟨z1, z2⟩
            · exact Or.inl ⟨z1, z2, z3 rfl, (0 + 0) % 10000, v127, n2, z4, z5, by omega⟩
            · exact Or.inr ⟨z1, z2⟩
          refine w_istore6 d276_130 rfl ?_
          have L132 : ∀ (m132 : Nat) (g : Hp) (p2 v : Nat) (w : Bool), y.length - p2 = m132 → Fr S m [1698, 1699, 1700, 1689, 1690, 1691, 1692, 1693] h g → (p2 ≤ y.length) → (v ≤ 9999) → (AtR S g m f y p2 w) → (SrI ss fs y q106 p2 v w) → (SrM S g m l ss) → Wp G d 276 132 [some (vR (some m)), some (vI (f : Nat)), some (vI (f + y.length : Nat)), some (vI (b2i pb)), some (vI (f + p0 : Nat)), some (vI (q106 - p0 : Nat)), some (vI (v : Nat)), none] [] g Q := by
            intro m132
            induction m132 using Nat.strongRecOn with | ind m132 IH132 => ?_
            intro g p2 v w hm132 FRg pl2 vl AT iv SR
            have okg := FRg.ok
            have AL := AL_0.r FRg hm
            have FC := FC_0.r FRg hm
            refine w_aload_n d276_132 rfl ?_
            refine w_getI (x := (b2i w)) d276_133 (okg.kd hm) AT.2.2 ?_
            refine w_ifne d276_136 (fun c136 => ?_) (fun c136 => ?_)
            · have w_t : w = true := by
                cases hz : w with
                | true => rfl
                | false => rw [hz] at c136; exact absurd rfl c136
              refine w_aload_n d276_174 rfl ?_
              refine w_getI (x := (b2i w)) d276_175 (okg.kd hm) AT.2.2 ?_
              refine w_ifne d276_178 (fun c178 => ?_) (fun c178 => ?_)
              · have e : srR y 0 y.length ss fs = (false, ss) := srR_b2 y0 (by rw [← gq]; exact (iv.resolve_left (fun z => by rw [w_t] at z; exact absurd z.1 (by decide))).2)
                rw [e] at kk
                refine w_iconst d276_192 (by decide) ?_
                refine w_zreturn d276_193 (by decide) ?_
                exact kk g FRg SR
              · rw [w_t] at c178; exact absurd c178 (by decide)
            · have w_f : w = false := by
                cases hz : w with
                | true => rw [hz] at c136; exact absurd c136 (by decide)
                | false => rfl
              obtain ⟨-, pq, n42, s, q, n2, nl, rg, vs⟩ := iv.resolve_right (fun z => by rw [w_f] at z; exact absurd z.1 (by decide))
              subst w_f
              refine w_aload_n d276_139 rfl ?_
              refine w_callv1 d276_140 (by omega) rfl (okg.kd hm) (by simp) (Nat.le_of_ble_eq_true rfl) ?_
              refine k_M_hereInLine okg (by omega) hm AT AL hy pl2 ?_
              refine w_bipush d276_143 (by decide) ?_
              refine w_icmpne d276_145 (fun c145 => ?_) (fun c145 => ?_)
              · refine w_aload_n d276_174 rfl ?_
                refine w_getI (x := (b2i false)) d276_175 (okg.kd hm) AT.2.2 ?_
                refine w_ifne d276_178 (fun c178 => ?_) (fun c178 => ?_)
                · exact absurd rfl c178
                · refine w_aload_n d276_181 rfl ?_
                  refine w_getI (x := ((f + p2 : Nat) : Int)) d276_182 (okg.kd hm) AT.1 ?_
                  refine w_aload_n d276_185 rfl ?_
                  refine w_getI (x := ((f + y.length : Nat) : Int)) d276_186 (okg.kd hm) AT.2.1 ?_
                  refine w_icmpeq d276_189 (fun c189 => ?_) (fun c189 => ?_)
                  · have pe : p2 = y.length := by omega
                    have rs : rsG ss fs y y.length (wordE y (opF y 0) 8 48) (y.length + 1) (wordE y (opF y 0) 8 48) 0 0 = some (s, q) := by rw [← gq, rg]; exact rsG_end (by omega)
                    have oe : okN (sl l (f + p0) (f + p0 + (q106 - p0))) := by rw [show f + p0 + (q106 - p0) = f + q106 by omega, hy.sl (a := p0) (b := q106) aq106, ag.1]; exact okN_word pl
                    have nh : hd (sl l (f + p0) (f + p0 + (q106 - p0))) = srN y 0 := by
                      have wr := wordE_rg (l := y) (a := p0) (m := 8) (lo := 48) pl
                      rw [show f + p0 + (q106 - p0) = f + q106 by omega, hy.sl (a := p0) (b := q106) aq106, ag.1]
                      unfold srN
                      rw [pi.1]
                      exact (hd_sl wr.2.1 wr.1).symm
                    have SR_b := SR
                    refine w_iconst d276_194 (by decide) ?_
                    refine w_istore7 d276_195 rfl ?_
                    have L197 : ∀ (m197 : Nat) (k : Nat), ss.length - k = m197 → (srF (fun i => sN ss i == srN y 0) ss.length k = sAt ss (srN y 0)) → Wp G d 276 197 [some (vR (some m)), some (vI (f : Nat)), some (vI (f + y.length : Nat)), some (vI (b2i pb)), some (vI (f + p0 : Nat)), some (vI (q106 - p0 : Nat)), some (vI (v : Nat)), some (vI (k : Nat))] [] g Q := by
                      intro m197
                      induction m197 using Nat.strongRecOn with | ind m197 IH197 => ?_
                      intro k hm197 hp
                      refine w_iload d276_197 rfl ?_
                      refine w_aload_n d276_199 rfl ?_
                      refine w_getI (x := ((ss.length : Nat) : Int)) d276_200 (okg.kd hm) SR.1 ?_
                      refine w_icmpge d276_203 (fun c203 => ?_) (fun c203 => ?_)
                      · have nd : sAt ss (srN y 0) = -1 := by rw [← hp, srF_end (by omega)]
                        have e : srR y 0 y.length ss fs = (true, ss ++ [(srN y 0, (s + q) % 10000, opB y 0)]) := srR_g y0 (by
                          rw [← gq, pi.1]
                          rintro (z | z | z | z)
                          · exact ag.2 z
                          · exact z a61
                          · omega
                          · omega) rs
                        rw [e] at kk
                        obtain ⟨n1, n2, n3⟩ := id SR
                        refine w_aload_n d276_239 rfl ?_
                        refine w_dloadS d276_240 (okg.kd hm) (fr1689 okg hm) ?_
                        refine w_aload_n d276_243 rfl ?_
                        refine w_getI (x := ((ss.length : Nat) : Int)) d276_244 (okg.kd hm) n1 ?_
                        refine w_iload d276_247 rfl ?_
                        refine wa1689 d276_249 okg hm (by omega) (by omega) (fun h249 e249 m249 => ?_)
                        have e249 : h249 = sAI g (sT S 1689 m) ss.length ((f + p0 : Nat) : Int) := e249
                        have f249 : Fr S m [1689] _ _ := Fr.wB okg hm m249 (fun ζ e => ⟨1689, by decide, by decide, e ▸ U_refl⟩)
                        have ok249 := f249.ok
                        have FR249 := Fr.tr (F := [1698, 1699, 1700, 1689, 1690, 1691, 1692, 1693]) FRg f249 (by decide) (by decide)
                        have AL := AL.r f249 hm
                        have FC := FC.r f249 hm
                        have AT := AT.r f249 hm
                        refine w_aload_n d276_250 rfl ?_
                        refine w_dloadS d276_251 (ok249.kd hm) (fr1690 ok249 hm) ?_
                        refine w_aload_n d276_254 rfl ?_
                        refine w_getI (x := ((ss.length : Nat) : Int)) d276_255 (ok249.kd hm) ((f249.i 1693).trans n1) ?_
                        refine w_iload d276_258 rfl ?_
                        refine wa1690 d276_260 ok249 hm (by omega) (by omega) (fun h260 e260 m260 => ?_)
                        have e260 : h260 = sAI h249 (sT S 1690 m) ss.length ((q106 - p0 : Nat) : Int) := e260
                        have f260 : Fr S m [1690] _ _ := Fr.wB ok249 hm m260 (fun ζ e => ⟨1690, by decide, by decide, e ▸ U_refl⟩)
                        have ok260 := f260.ok
                        have FR260 := Fr.tr (F := [1698, 1699, 1700, 1689, 1690, 1691, 1692, 1693]) FR249 f260 (by decide) (by decide)
                        have AL := AL.r f260 hm
                        have FC := FC.r f260 hm
                        have AT := AT.r f260 hm
                        refine w_aload_n d276_261 rfl ?_
                        refine w_dloadS d276_262 (ok260.kd hm) (fr1691 ok260 hm) ?_
                        refine w_aload_n d276_265 rfl ?_
                        refine w_getI (x := ((ss.length : Nat) : Int)) d276_266 (ok260.kd hm) ((f260.i 1693).trans ((f249.i 1693).trans n1)) ?_
                        refine w_iload d276_269 rfl ?_
                        refine wa1691 d276_271 ok260 hm (by omega) (by omega) (fun h271 e271 m271 => ?_)
                        have e271 : h271 = sAI h260 (sT S 1691 m) ss.length ((v : Nat) : Int) := e271
                        have f271 : Fr S m [1691] _ _ := Fr.wB ok260 hm m271 (fun ζ e => ⟨1691, by decide, by decide, e ▸ U_refl⟩)
                        have ok271 := f271.ok
                        have FR271 := Fr.tr (F := [1698, 1699, 1700, 1689, 1690, 1691, 1692, 1693]) FR260 f271 (by decide) (by decide)
                        have AL := AL.r f271 hm
                        have FC := FC.r f271 hm
                        have AT := AT.r f271 hm
                        refine w_aload_n d276_272 rfl ?_
                        refine w_dloadS d276_273 (ok271.kd hm) (fr1692 ok271 hm) ?_
                        refine w_aload_n d276_276 rfl ?_
                        refine w_getI (x := ((ss.length : Nat) : Int)) d276_277 (ok271.kd hm) ((f271.i 1693).trans ((f260.i 1693).trans ((f249.i 1693).trans n1))) ?_
                        refine w_iload_n d276_280 rfl ?_
                        refine wa1692 d276_281 ok271 hm (by omega) (by cases pb <;> decide) (fun h281 e281 m281 => ?_)
                        have e281 : h281 = sAI h271 (sT S 1692 m) ss.length (b2i pb) := e281
                        have f281 : Fr S m [1692] _ _ := Fr.wB ok271 hm m281 (fun ζ e => ⟨1692, by decide, by decide, e ▸ U_refl⟩)
                        have ok281 := f281.ok
                        have FR281 := Fr.tr (F := [1698, 1699, 1700, 1689, 1690, 1691, 1692, 1693]) FR271 f281 (by decide) (by decide)
                        have AL := AL.r f281 hm
                        have FC := FC.r f281 hm
                        have AT := AT.r f281 hm
                        refine w_aload_n d276_282 rfl ?_
                        refine w_dupR d276_283 ?_
                        refine w_getI (x := ((ss.length : Nat) : Int)) d276_284 (ok281.kd hm) ((f281.i 1693).trans ((f271.i 1693).trans ((f260.i 1693).trans ((f249.i 1693).trans n1)))) ?_
                        refine w_iconst d276_287 (by decide) ?_
                        refine w_iadd d276_288 (by constructor <;> omega) ?_
                        refine wf1693 d276_289 ok281 hm (by omega) (fun h289 e289 m289 => ?_)
                        have f289 : Fr S m [1693] _ _ := Fr.wF ok281 m289 (FK.pI e289)
                        have ok289 := f289.ok
                        have FR289 := Fr.tr (F := [1698, 1699, 1700, 1689, 1690, 1691, 1692, 1693]) FR281 f289 (by decide) (by decide)
                        have AL := AL.r f289 hm
                        have FC := FC.r f289 hm
                        have AT := AT.r f289 hm
                        refine w_iconst d276_292 (by decide) ?_
                        refine w_zreturn d276_293 (by decide) ?_
                        have a249 : ∀ i, AI h289 (sT S 1689 m) i = if i = ss.length then ((f + p0 : Nat) : Int) else AI g (sT S 1689 m) i := fun i => by rw [f289.ai (by have := kT1689 ok hm; omega) (by decide) (by decide) (by decide), f281.ai (by have := kT1689 ok hm; omega) (by decide) (by decide) (by decide), f271.ai (by have := kT1689 ok hm; omega) (by decide) (by decide) (by decide), f260.ai (by have := kT1689 ok hm; omega) (by decide) (by decide) (by decide), e249]; show up2 _ _ _ _ _ _ = _; rw [up2_at]
                        have a260 : ∀ i, AI h289 (sT S 1690 m) i = if i = ss.length then ((q106 - p0 : Nat) : Int) else AI g (sT S 1690 m) i := fun i => by rw [f289.ai (by have := kT1690 ok hm; omega) (by decide) (by decide) (by decide), f281.ai (by have := kT1690 ok hm; omega) (by decide) (by decide) (by decide), f271.ai (by have := kT1690 ok hm; omega) (by decide) (by decide) (by decide), e260]; show up2 _ _ _ _ _ _ = _; rw [up2_at, f249.ai (by have := kT1690 ok hm; omega) (by decide) (by decide) (by decide)]
                        have a271 : ∀ i, AI h289 (sT S 1691 m) i = if i = ss.length then ((v : Nat) : Int) else AI g (sT S 1691 m) i := fun i => by rw [f289.ai (by have := kT1691 ok hm; omega) (by decide) (by decide) (by decide), f281.ai (by have := kT1691 ok hm; omega) (by decide) (by decide) (by decide), e271]; show up2 _ _ _ _ _ _ = _; rw [up2_at, f260.ai (by have := kT1691 ok hm; omega) (by decide) (by decide) (by decide), f249.ai (by have := kT1691 ok hm; omega) (by decide) (by decide) (by decide)]
                        have a281 : ∀ i, AI h289 (sT S 1692 m) i = if i = ss.length then (b2i pb) else AI g (sT S 1692 m) i := fun i => by rw [f289.ai (by have := kT1692 ok hm; omega) (by decide) (by decide) (by decide), e281]; show up2 _ _ _ _ _ _ = _; rw [up2_at, f271.ai (by have := kT1692 ok hm; omega) (by decide) (by decide) (by decide), f260.ai (by have := kT1692 ok hm; omega) (by decide) (by decide) (by decide), f249.ai (by have := kT1692 ok hm; omega) (by decide) (by decide) (by decide)]
                        refine kk h289 FR289 ⟨by rw [e289, FI_sFI, if_pos ⟨rfl, rfl⟩]; simp, by simp; omega, fun k hk => ?_⟩
                        simp only [List.length_append, List.length_singleton] at hk
                        rw [a249, a260, a271, a281]
                        show ∃ a n : Nat, _
                        unfold sN sV sO
                        rw [getD_snoc]
                        by_cases z : k = ss.length
                        · rw [if_pos z, if_pos z, if_pos z, if_pos z, if_pos z]
                          have es := hy.sl (a := p0) (b := q106) aq106
                          have wr := wordE_rg (l := y) (a := p0) (m := 8) (lo := 48) pl
                          refine ⟨f + p0, q106 - p0, rfl, rfl, by have := hy.1; omega, ?_, ?_, by rw [vs], by show (s + q) % 10000 ≤ 9999; omega, by rw [pi.2.1]⟩
                          · rw [show f + p0 + (q106 - p0) = f + q106 by omega, es, ag.1]; exact okN_word pl
                          · rw [show f + p0 + (q106 - p0) = f + q106 by omega, es, ag.1]; show srN y 0 = _; unfold srN; rw [pi.1]; exact hd_sl wr.2.1 wr.1
                        · rw [if_neg z, if_neg z, if_neg z, if_neg z, if_neg z]
                          exact n3 k (by omega)
                      · have hk : k < ss.length := by omega
                        obtain ⟨a2, b2, s1, s2, s3, s4, s5, s6, s7, s8⟩ := SR.2.2 k hk
                        refine w_aload_n d276_206 rfl ?_
                        refine w_aload_n d276_207 rfl ?_
                        refine w_dloadS d276_208 (okg.kd hm) (fr1689 okg hm) ?_
                        refine w_iload d276_211 rfl ?_
                        refine w_ialoadV (x := ((a2 : Nat) : Int)) d276_213 (gi1689 okg hm (by omega)) s1 ?_
                        refine w_iload d276_214 rfl ?_
                        refine w_aload_n d276_216 rfl ?_
                        refine w_dloadS d276_217 (okg.kd hm) (fr1690 okg hm) ?_
                        refine w_iload d276_220 rfl ?_
                        refine w_ialoadV (x := ((b2 : Nat) : Int)) d276_222 (gi1690 okg hm (by omega)) s2 ?_
                        refine w_iload d276_223 rfl ?_
                        refine w_callv5 d276_225 (by omega) rfl (okg.kd hm) (by simp) (Nat.le_of_ble_eq_true rfl) ?_
                        refine k_M_isSameName okg (by omega) hm AL s3 (by have := hy.1; omega) ?_
                        refine w_ifeq d276_228 (fun c228 => ?_) (fun c228 => ?_)
                        · have nq : ¬ sl l a2 (a2 + b2) = sl l (f + p0) (f + p0 + (q106 - p0)) := fun z => by rw [decide_eq_true z] at c228; exact absurd c228 (by decide)
                          have ff : (fun i => sN ss i == srN y 0) k = false := beq_eq_false_iff_ne.mpr (fun z => nq ((hd_inj s4 oe).mp (by rw [nh]; exact s5.symm.trans z)))
                          rw [srF_no hk ff] at hp
                          refine w_iinc7 d276_233 rfl (by constructor <;> omega) ?_
                          refine w_goto d276_236 ?_
                          rw [show ((k : Nat) : Int) + 1 = ((k + 1 : Nat) : Int) by omega]
                          refine w_less ?_ (IH197 _ (by omega) (k + 1) rfl hp)
                          exact ⟨Or.inr rfl, Or.inr rfl, Or.inr rfl, Or.inr rfl, Or.inr rfl, Or.inr rfl, Or.inr rfl, Or.inr rfl, trivial⟩
                        · have yq : sl l a2 (a2 + b2) = sl l (f + p0) (f + p0 + (q106 - p0)) := by
                            by_cases z : sl l a2 (a2 + b2) = sl l (f + p0) (f + p0 + (q106 - p0))
                            · exact z
                            · rw [decide_eq_false z] at c228; exact absurd rfl c228
                          have ff : (fun i => sN ss i == srN y 0) k = true := beq_iff_eq.mpr (by show sN ss k = _; rw [s5, yq]; exact nh)
                          rw [srF_yes hk ff] at hp
                          have e : srR y 0 y.length ss fs = (false, ss) := srR_b1 y0 (Or.inr (Or.inr (Or.inl (by rw [← hp]; omega))))
                          rw [e] at kk
                          refine w_iconst d276_231 (by decide) ?_
                          refine w_zreturn d276_232 (by decide) ?_
                          exact kk g FRg SR
                    refine w_less ?_ (L197 _ 0 rfl rfl)
                    exact ⟨Or.inr rfl, Or.inr rfl, Or.inr rfl, Or.inr rfl, Or.inr rfl, Or.inr rfl, Or.inr rfl, Or.inr rfl, trivial⟩
                  · have e : srR y 0 y.length ss fs = (false, ss) := srR_b2 y0 (by rw [← gq, rg]; exact rsG_bad (by omega) (Or.inr (Or.inr ⟨by omega, by omega, n42⟩)))
                    rw [e] at kk
                    refine w_iconst d276_192 (by decide) ?_
                    refine w_zreturn d276_193 (by decide) ?_
                    exact kk g FRg SR
              · have e43 : atv y (p2 : Nat) = 43 := by omega
                have pl3 : p2 < y.length := by
                  rw [atvI] at e43
                  by_cases z : p2 < y.length
                  · exact z
                  · rw [if_neg z] at e43; omega
                refine w_aload_n d276_148 rfl ?_
                refine w_dupR d276_149 ?_
                refine w_getI (x := ((f + p2 : Nat) : Int)) d276_150 (okg.kd hm) AT.1 ?_
                refine w_iconst d276_153 (by decide) ?_
                refine w_iadd d276_154 (by constructor <;> omega) ?_
                have AT_p := AT
                refine wf1698 d276_155 okg hm (by omega) (fun h155 e155 m155 => ?_)
                have f155 : Fr S m [1698] _ _ := Fr.wF okg m155 (FK.pI e155)
                have ok155 := f155.ok
                have FR155 := Fr.tr (F := [1698, 1699, 1700, 1689, 1690, 1691, 1692, 1693]) FRg f155 (by decide) (by decide)
                have SR := SR.r f155 hm
                have AL := AL.r f155 hm
                have FC := FC.r f155 hm
                have AT : AtR S h155 m f y (p2 + 1) false := ⟨by rw [e155, FI_sFI, if_pos ⟨rfl, rfl⟩]; omega, (f155.i 1699).trans AT_p.2.1, (f155.i 1700).trans AT_p.2.2⟩
                refine w_iload d276_158 rfl ?_
                refine w_aload_n d276_160 rfl ?_
                refine w_callv1 d276_161 (by omega) rfl (ok155.kd hm) (by simp) (Nat.le_of_ble_eq_true rfl) ?_
                refine k_M_term (p := p2) (a := q106) (n := n2) (s := s) (q := q) ok155 (by omega) hm AT AL SR FC hy (by omega) (by omega) (Or.inr e43) nl (fun h161 q161 w161 v161 f161 AT aq161 av161 ac161 => ?_)
                have ok161 := f161.ok
                have FR161 := Fr.tr (F := [1698, 1699, 1700, 1689, 1690, 1691, 1692, 1693]) FR155 f161 (by decide) (by decide)
                have SR := SR.r f161 hm
                have AL := AL.r f161 hm
                have FC := FC.r f161 hm
                refine w_iadd d276_164 (by constructor <;> omega) ?_
                rw [show ((v : Nat) : Int) + ((v161 : Nat) : Int) = ((v + v161 : Nat) : Int) by omega]
                refine w_sipush d276_165 (by decide) ?_
                refine w_irem d276_168 (by decide) ?_
                rw [show ((v + v161 : Nat) : Int).tmod 10000 = (((v + v161) % 10000 : Nat) : Int) from rfl]
                refine w_istore6 d276_169 rfl ?_
                refine w_goto d276_171 ?_
                have i2 : SrI ss fs y q106 q161 ((v + v161) % 10000) w161 := by
                  rcases ac161 with ⟨z1, z2, z3, n3, z4, z5⟩ | ⟨z1, z2⟩
                  · exact Or.inl ⟨z1, by omega, z3 rfl, (s + q) % 10000, v161, n3, z4, by rw [rg]; exact z5, by rw [vs]⟩
                  · exact Or.inr ⟨z1, by rw [rg]; exact z2⟩
                refine w_less ?_ (IH132 _ (by omega) h161 q161 ((v + v161) % 10000) w161 rfl FR161 aq161.2 (by omega) AT i2 SR)
                exact ⟨Or.inr rfl, Or.inr rfl, Or.inr rfl, Or.inr rfl, Or.inr rfl, Or.inr rfl, Or.inr rfl, Or.inl rfl, trivial⟩
          refine w_less ?_ (L132 _ h127 q127 v127 w127 rfl FR127 aq127.2 av127 AT i1 SR)
          exact ⟨Or.inr rfl, Or.inr rfl, Or.inr rfl, Or.inr rfl, Or.inr rfl, Or.inr rfl, Or.inr rfl, Or.inl rfl, trivial⟩
        · have w114_t : w114 = true := by
            cases hz : w114 with
            | true => rfl
            | false => rw [hz] at c121; exact absurd rfl c121
          have e : srR y 0 y.length ss fs = (false, ss) := by
            rcases ip2 with pi | pi
            · refine srR_b1 y0 ?_
              rw [pi.1]
              rcases ac114 with u | u
              · have wt := u.2.2.1.symm.trans w114_t
                rcases ac106 with x | x
                · rw [wt] at x; exact absurd x.1 (by decide)
                · rcases word_fail x.2 with x | x
                  · exact Or.inl x
                  · exact Or.inr (Or.inl x)
              · rcases ac106 with x | x
                · rw [x.2.1] at u; exact Or.inr (Or.inl u.2.2)
                · rcases word_fail x.2 with x | x
                  · exact Or.inl x
                  · exact Or.inr (Or.inl x)
            · exact srR_b1 y0 (Or.inl pi.2.2.1)
          rw [e] at kk
          refine w_iconst d276_124 (by decide) ?_
          refine w_zreturn d276_125 (by decide) ?_
          exact kk h114 FR114 SR
      refine w_ifeq d276_86 (fun c86 => ?_) (fun c86 => ?_)
      · have pbf : pb = false := by
          cases hz : pb with
          | true => rw [hz] at c86; exact absurd c86 (by decide)
          | false => rfl
        refine w_less ?_ (L99 _ h19 pb 0 rfl FR19 AT (by have := PubI.of yl ip; rw [pbf] at this ⊢; exact this) (by omega) SR)
        exact ⟨Or.inr rfl, Or.inr rfl, Or.inr rfl, Or.inr rfl, Or.inl rfl, Or.inl rfl, Or.inl rfl, Or.inl rfl, trivial⟩
      · have pbt : pb = true := by
          cases hz : pb with
          | true => rfl
          | false => rw [hz] at c86; exact absurd rfl c86
        have l4 : 4 < y.length := by
          rcases ip with z | z
          · exact z.2.1
          · rw [pbt] at z; exact absurd z.1 (by decide)
        refine w_aload_n d276_89 rfl ?_
        refine w_dupR d276_90 ?_
        refine w_getI (x := ((f + 0 : Nat) : Int)) d276_91 (ok19.kd hm) AT.1 ?_
        refine w_iconst d276_94 (by decide) ?_
        refine w_iadd d276_95 (by constructor <;> omega) ?_
        have AT_p := AT
        refine wf1698 d276_96 ok19 hm (by omega) (fun h96 e96 m96 => ?_)
        have f96 : Fr S m [1698] _ _ := Fr.wF ok19 m96 (FK.pI e96)
        have ok96 := f96.ok
        have FR96 := Fr.tr (F := [1698, 1699, 1700, 1689, 1690, 1691, 1692, 1693]) FR19 f96 (by decide) (by decide)
        have AL := AL.r f96 hm
        have SR := SR.r f96 hm
        have FC := FC.r f96 hm
        have AT : AtR S h96 m f y 4 false := ⟨by rw [e96, FI_sFI, if_pos ⟨rfl, rfl⟩]; omega, (f96.i 1699).trans AT_p.2.1, (f96.i 1700).trans AT_p.2.2⟩
        refine w_less ?_ (L99 _ h96 pb 4 rfl FR96 AT (by have := PubI.of yl ip; rw [pbt] at this ⊢; exact this) (by omega) SR)
        exact ⟨Or.inr rfl, Or.inr rfl, Or.inr rfl, Or.inr rfl, Or.inl rfl, Or.inl rfl, Or.inl rfl, Or.inl rfl, trivial⟩
    refine w_iload_n d276_22 rfl ?_
    refine w_iload_n d276_23 rfl ?_
    refine w_isub d276_24 (by constructor <;> omega) ?_
    refine w_iconst d276_25 (by decide) ?_
    refine w_icmple d276_26 (fun c26 => ?_) (fun c26 => ?_)
    · have pf : y.length ≤ 4 := by omega
      refine w_iconst d276_83 (by decide) ?_
      refine w_istore3 d276_84 rfl ?_
      refine w_less ?_ (L85 _ false rfl (Or.inr ⟨rfl, by first | exact Or.inl pf | exact Or.inr pf⟩))
      exact ⟨Or.inr rfl, Or.inr rfl, Or.inr rfl, Or.inr rfl, Or.inl rfl, Or.inl rfl, Or.inl rfl, Or.inl rfl, trivial⟩
    · have l4 : 4 < y.length := by omega
      refine w_aload_n d276_29 rfl ?_
      refine w_dloadS d276_30 (ok19.kd hm) (fr1681 ok19 hm) ?_
      refine w_iload_n d276_33 rfl ?_
      refine w_ialoadV (x := ((y.getD 0 0 : Nat) : Int)) d276_34 (by have := AL.2.g ok19 (k := f) (by omega); rwa [show (((0 : Nat) : Int) + ((f : Nat) : Int)) = ((f : Nat) : Int) by omega] at this) ((AL.2.at0 (by omega)).trans (congrArg _ (hy.2 0 (by omega)))) ?_
      refine w_bipush d276_35 (by decide) ?_
      refine w_icmpne d276_37 (fun c37 => ?_) (fun c37 => ?_)
      · have pf : ¬ opB y 0 = true := fun z => by have := (opB_iff yl).mp z; omega
        refine w_iconst d276_83 (by decide) ?_
        refine w_istore3 d276_84 rfl ?_
        refine w_less ?_ (L85 _ false rfl (Or.inr ⟨rfl, by first | exact Or.inl pf | exact Or.inr pf⟩))
        exact ⟨Or.inr rfl, Or.inr rfl, Or.inr rfl, Or.inr rfl, Or.inl rfl, Or.inl rfl, Or.inl rfl, Or.inl rfl, trivial⟩
      · refine w_aload_n d276_40 rfl ?_
        refine w_dloadS d276_41 (ok19.kd hm) (fr1681 ok19 hm) ?_
        refine w_iload_n d276_44 rfl ?_
        refine w_iconst d276_45 (by decide) ?_
        refine w_iadd d276_46 (by constructor <;> omega) ?_
        rw [show ((f : Nat) : Int) + 1 = ((f + 1 : Nat) : Int) by omega]
        refine w_ialoadV (x := ((y.getD 1 0 : Nat) : Int)) d276_47 (by have := AL.2.g ok19 (k := f + 1) (by omega); rwa [show (((0 : Nat) : Int) + ((f + 1 : Nat) : Int)) = ((f + 1 : Nat) : Int) by omega] at this) ((AL.2.at0 (by omega)).trans (congrArg _ (hy.2 1 (by omega)))) ?_
        refine w_bipush d276_48 (by decide) ?_
        refine w_icmpne d276_50 (fun c50 => ?_) (fun c50 => ?_)
        · have pf : ¬ opB y 0 = true := fun z => by have := (opB_iff yl).mp z; omega
          refine w_iconst d276_83 (by decide) ?_
          refine w_istore3 d276_84 rfl ?_
          refine w_less ?_ (L85 _ false rfl (Or.inr ⟨rfl, by first | exact Or.inl pf | exact Or.inr pf⟩))
          exact ⟨Or.inr rfl, Or.inr rfl, Or.inr rfl, Or.inr rfl, Or.inl rfl, Or.inl rfl, Or.inl rfl, Or.inl rfl, trivial⟩
        · refine w_aload_n d276_53 rfl ?_
          refine w_dloadS d276_54 (ok19.kd hm) (fr1681 ok19 hm) ?_
          refine w_iload_n d276_57 rfl ?_
          refine w_iconst d276_58 (by decide) ?_
          refine w_iadd d276_59 (by constructor <;> omega) ?_
          rw [show ((f : Nat) : Int) + 2 = ((f + 2 : Nat) : Int) by omega]
          refine w_ialoadV (x := ((y.getD 2 0 : Nat) : Int)) d276_60 (by have := AL.2.g ok19 (k := f + 2) (by omega); rwa [show (((0 : Nat) : Int) + ((f + 2 : Nat) : Int)) = ((f + 2 : Nat) : Int) by omega] at this) ((AL.2.at0 (by omega)).trans (congrArg _ (hy.2 2 (by omega)))) ?_
          refine w_bipush d276_61 (by decide) ?_
          refine w_icmpne d276_63 (fun c63 => ?_) (fun c63 => ?_)
          · have pf : ¬ opB y 0 = true := fun z => by have := (opB_iff yl).mp z; omega
            refine w_iconst d276_83 (by decide) ?_
            refine w_istore3 d276_84 rfl ?_
            refine w_less ?_ (L85 _ false rfl (Or.inr ⟨rfl, by first | exact Or.inl pf | exact Or.inr pf⟩))
            exact ⟨Or.inr rfl, Or.inr rfl, Or.inr rfl, Or.inr rfl, Or.inl rfl, Or.inl rfl, Or.inl rfl, Or.inl rfl, trivial⟩
          · refine w_aload_n d276_66 rfl ?_
            refine w_dloadS d276_67 (ok19.kd hm) (fr1681 ok19 hm) ?_
            refine w_iload_n d276_70 rfl ?_
            refine w_iconst d276_71 (by decide) ?_
            refine w_iadd d276_72 (by constructor <;> omega) ?_
            rw [show ((f : Nat) : Int) + 3 = ((f + 3 : Nat) : Int) by omega]
            refine w_ialoadV (x := ((y.getD 3 0 : Nat) : Int)) d276_73 (by have := AL.2.g ok19 (k := f + 3) (by omega); rwa [show (((0 : Nat) : Int) + ((f + 3 : Nat) : Int)) = ((f + 3 : Nat) : Int) by omega] at this) ((AL.2.at0 (by omega)).trans (congrArg _ (hy.2 3 (by omega)))) ?_
            refine w_bipush d276_74 (by decide) ?_
            refine w_icmpne d276_76 (fun c76 => ?_) (fun c76 => ?_)
            · have pf : ¬ opB y 0 = true := fun z => by have := (opB_iff yl).mp z; omega
              refine w_iconst d276_83 (by decide) ?_
              refine w_istore3 d276_84 rfl ?_
              refine w_less ?_ (L85 _ false rfl (Or.inr ⟨rfl, by first | exact Or.inl pf | exact Or.inr pf⟩))
              exact ⟨Or.inr rfl, Or.inr rfl, Or.inr rfl, Or.inr rfl, Or.inl rfl, Or.inl rfl, Or.inl rfl, Or.inl rfl, trivial⟩
            · have po : opB y 0 = true := (opB_iff yl).mpr ⟨by omega, by omega, by omega, by omega⟩
              refine w_iconst d276_79 (by decide) ?_
              refine w_goto d276_80 ?_
              refine w_istore3 d276_84 rfl ?_
              refine w_less ?_ (L85 _ true rfl (Or.inl ⟨rfl, l4, po⟩))
              exact ⟨Or.inr rfl, Or.inr rfl, Or.inr rfl, Or.inr rfl, Or.inl rfl, Or.inl rfl, Or.inl rfl, Or.inl rfl, trivial⟩
  · have y0 : y.length = 0 := by omega
    have e : srR y 0 y.length ss fs = (true, ss) := if_pos y0.symm
    rw [e] at kk
    refine w_iconst d276_5 (by decide) ?_
    refine w_zreturn d276_6 (by decide) ?_
    exact kk h (Fr.refl ok) SR
