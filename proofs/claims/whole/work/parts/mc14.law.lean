/-! the law (written by wip/tools/m/mc14.py) -/
theorem d342_0 : dc 342 0 = some (.new 10, 3) := by decide +kernel
theorem d342_3 : dc 342 3 = some (.dup, 4) := by decide +kernel
theorem d342_4 : dc 342 4 = some (.invokevirtual 0, 7) := by decide +kernel
theorem d342_7 : dc 342 7 = some (.astore_n 1, 8) := by decide +kernel
theorem d342_8 : dc 342 8 = some (.new 13, 11) := by decide +kernel
theorem d342_11 : dc 342 11 = some (.dup, 12) := by decide +kernel
theorem d342_12 : dc 342 12 = some (.invokevirtual 188, 15) := by decide +kernel
theorem d342_15 : dc 342 15 = some (.astore_n 2, 16) := by decide +kernel
theorem d342_16 : dc 342 16 = some (.iconst 0, 17) := by decide +kernel
theorem d342_17 : dc 342 17 = some (.istore_n 3, 18) := by decide +kernel
theorem d342_18 : dc 342 18 = some (.iload_n 3, 19) := by decide +kernel
theorem d342_19 : dc 342 19 = some (.aload_n 0, 20) := by decide +kernel
theorem d342_20 : dc 342 20 = some (.arraylength, 21) := by decide +kernel
theorem d342_21 : dc 342 21 = some (.bipush 6, 23) := by decide +kernel
theorem d342_23 : dc 342 23 = some (.isub, 24) := by decide +kernel
theorem d342_24 : dc 342 24 = some (.if_icmp .gt ((283 : Nat) : Int), 27) := by decide +kernel
theorem d342_27 : dc 342 27 = some (.aload_n 0, 28) := by decide +kernel
theorem d342_28 : dc 342 28 = some (.iload_n 3, 29) := by decide +kernel
theorem d342_29 : dc 342 29 = some (.iaload, 30) := by decide +kernel
theorem d342_30 : dc 342 30 = some (.bipush 7, 32) := by decide +kernel
theorem d342_32 : dc 342 32 = some (.iand, 33) := by decide +kernel
theorem d342_33 : dc 342 33 = some (.tableswitch ((277 : Nat) : Int) 0 6 #[((76 : Nat) : Int), ((139 : Nat) : Int), ((162 : Nat) : Int), ((185 : Nat) : Int), ((198 : Nat) : Int), ((221 : Nat) : Int), ((244 : Nat) : Int)], 76) := by decide +kernel
theorem d342_76 : dc 342 76 = some (.aload_n 1, 77) := by decide +kernel
theorem d342_77 : dc 342 77 = some (.aload_n 0, 78) := by decide +kernel
theorem d342_78 : dc 342 78 = some (.iload_n 3, 79) := by decide +kernel
theorem d342_79 : dc 342 79 = some (.iconst 1, 80) := by decide +kernel
theorem d342_80 : dc 342 80 = some (.iadd, 81) := by decide +kernel
theorem d342_81 : dc 342 81 = some (.iaload, 82) := by decide +kernel
theorem d342_82 : dc 342 82 = some (.aload_n 0, 83) := by decide +kernel
theorem d342_83 : dc 342 83 = some (.iload_n 3, 84) := by decide +kernel
theorem d342_84 : dc 342 84 = some (.iconst 2, 85) := by decide +kernel
theorem d342_85 : dc 342 85 = some (.iadd, 86) := by decide +kernel
theorem d342_86 : dc 342 86 = some (.iaload, 87) := by decide +kernel
theorem d342_87 : dc 342 87 = some (.aload_n 0, 88) := by decide +kernel
theorem d342_88 : dc 342 88 = some (.iload_n 3, 89) := by decide +kernel
theorem d342_89 : dc 342 89 = some (.iconst 3, 90) := by decide +kernel
theorem d342_90 : dc 342 90 = some (.iadd, 91) := by decide +kernel
theorem d342_91 : dc 342 91 = some (.iaload, 92) := by decide +kernel
theorem d342_92 : dc 342 92 = some (.aload_n 0, 93) := by decide +kernel
theorem d342_93 : dc 342 93 = some (.iload_n 3, 94) := by decide +kernel
theorem d342_94 : dc 342 94 = some (.iconst 4, 95) := by decide +kernel
theorem d342_95 : dc 342 95 = some (.iadd, 96) := by decide +kernel
theorem d342_96 : dc 342 96 = some (.iaload, 97) := by decide +kernel
theorem d342_97 : dc 342 97 = some (.aload_n 0, 98) := by decide +kernel
theorem d342_98 : dc 342 98 = some (.iload_n 3, 99) := by decide +kernel
theorem d342_99 : dc 342 99 = some (.iconst 5, 100) := by decide +kernel
theorem d342_100 : dc 342 100 = some (.iadd, 101) := by decide +kernel
theorem d342_101 : dc 342 101 = some (.iaload, 102) := by decide +kernel
theorem d342_102 : dc 342 102 = some (.invokevirtual 12, 105) := by decide +kernel
theorem d342_105 : dc 342 105 = some (.aload_n 2, 106) := by decide +kernel
theorem d342_106 : dc 342 106 = some (.aload_n 0, 107) := by decide +kernel
theorem d342_107 : dc 342 107 = some (.iload_n 3, 108) := by decide +kernel
theorem d342_108 : dc 342 108 = some (.iconst 1, 109) := by decide +kernel
theorem d342_109 : dc 342 109 = some (.iadd, 110) := by decide +kernel
theorem d342_110 : dc 342 110 = some (.iaload, 111) := by decide +kernel
theorem d342_111 : dc 342 111 = some (.aload_n 0, 112) := by decide +kernel
theorem d342_112 : dc 342 112 = some (.iload_n 3, 113) := by decide +kernel
theorem d342_113 : dc 342 113 = some (.iconst 2, 114) := by decide +kernel
theorem d342_114 : dc 342 114 = some (.iadd, 115) := by decide +kernel
theorem d342_115 : dc 342 115 = some (.iaload, 116) := by decide +kernel
theorem d342_116 : dc 342 116 = some (.aload_n 0, 117) := by decide +kernel
theorem d342_117 : dc 342 117 = some (.iload_n 3, 118) := by decide +kernel
theorem d342_118 : dc 342 118 = some (.iconst 3, 119) := by decide +kernel
theorem d342_119 : dc 342 119 = some (.iadd, 120) := by decide +kernel
theorem d342_120 : dc 342 120 = some (.iaload, 121) := by decide +kernel
theorem d342_121 : dc 342 121 = some (.aload_n 0, 122) := by decide +kernel
theorem d342_122 : dc 342 122 = some (.iload_n 3, 123) := by decide +kernel
theorem d342_123 : dc 342 123 = some (.iconst 4, 124) := by decide +kernel
theorem d342_124 : dc 342 124 = some (.iadd, 125) := by decide +kernel
theorem d342_125 : dc 342 125 = some (.iaload, 126) := by decide +kernel
theorem d342_126 : dc 342 126 = some (.aload_n 0, 127) := by decide +kernel
theorem d342_127 : dc 342 127 = some (.iload_n 3, 128) := by decide +kernel
theorem d342_128 : dc 342 128 = some (.iconst 5, 129) := by decide +kernel
theorem d342_129 : dc 342 129 = some (.iadd, 130) := by decide +kernel
theorem d342_130 : dc 342 130 = some (.iaload, 131) := by decide +kernel
theorem d342_131 : dc 342 131 = some (.invokevirtual 194, 134) := by decide +kernel
theorem d342_134 : dc 342 134 = some (.if_icmp .eq ((277 : Nat) : Int), 137) := by decide +kernel
theorem d342_137 : dc 342 137 = some (.iconst 0, 138) := by decide +kernel
theorem d342_138 : dc 342 138 = some (.freturn, 139) := by decide +kernel
theorem d342_139 : dc 342 139 = some (.aload_n 1, 140) := by decide +kernel
theorem d342_140 : dc 342 140 = some (.aload_n 0, 141) := by decide +kernel
theorem d342_141 : dc 342 141 = some (.iload_n 3, 142) := by decide +kernel
theorem d342_142 : dc 342 142 = some (.iconst 1, 143) := by decide +kernel
theorem d342_143 : dc 342 143 = some (.iadd, 144) := by decide +kernel
theorem d342_144 : dc 342 144 = some (.iaload, 145) := by decide +kernel
theorem d342_145 : dc 342 145 = some (.invokevirtual 16, 148) := by decide +kernel
theorem d342_148 : dc 342 148 = some (.aload_n 2, 149) := by decide +kernel
theorem d342_149 : dc 342 149 = some (.aload_n 0, 150) := by decide +kernel
theorem d342_150 : dc 342 150 = some (.iload_n 3, 151) := by decide +kernel
theorem d342_151 : dc 342 151 = some (.iconst 1, 152) := by decide +kernel
theorem d342_152 : dc 342 152 = some (.iadd, 153) := by decide +kernel
theorem d342_153 : dc 342 153 = some (.iaload, 154) := by decide +kernel
theorem d342_154 : dc 342 154 = some (.invokevirtual 195, 157) := by decide +kernel
theorem d342_157 : dc 342 157 = some (.if_icmp .eq ((277 : Nat) : Int), 160) := by decide +kernel
theorem d342_160 : dc 342 160 = some (.iconst 0, 161) := by decide +kernel
theorem d342_161 : dc 342 161 = some (.freturn, 162) := by decide +kernel
theorem d342_162 : dc 342 162 = some (.aload_n 1, 163) := by decide +kernel
theorem d342_163 : dc 342 163 = some (.aload_n 0, 164) := by decide +kernel
theorem d342_164 : dc 342 164 = some (.iload_n 3, 165) := by decide +kernel
theorem d342_165 : dc 342 165 = some (.iconst 1, 166) := by decide +kernel
theorem d342_166 : dc 342 166 = some (.iadd, 167) := by decide +kernel
theorem d342_167 : dc 342 167 = some (.iaload, 168) := by decide +kernel
theorem d342_168 : dc 342 168 = some (.invokevirtual 179, 171) := by decide +kernel
theorem d342_171 : dc 342 171 = some (.aload_n 2, 172) := by decide +kernel
theorem d342_172 : dc 342 172 = some (.aload_n 0, 173) := by decide +kernel
theorem d342_173 : dc 342 173 = some (.iload_n 3, 174) := by decide +kernel
theorem d342_174 : dc 342 174 = some (.iconst 1, 175) := by decide +kernel
theorem d342_175 : dc 342 175 = some (.iadd, 176) := by decide +kernel
theorem d342_176 : dc 342 176 = some (.iaload, 177) := by decide +kernel
theorem d342_177 : dc 342 177 = some (.invokevirtual 334, 180) := by decide +kernel
theorem d342_180 : dc 342 180 = some (.if_icmp .eq ((277 : Nat) : Int), 183) := by decide +kernel
theorem d342_183 : dc 342 183 = some (.iconst 0, 184) := by decide +kernel
theorem d342_184 : dc 342 184 = some (.freturn, 185) := by decide +kernel
theorem d342_185 : dc 342 185 = some (.aload_n 1, 186) := by decide +kernel
theorem d342_186 : dc 342 186 = some (.invokevirtual 180, 189) := by decide +kernel
theorem d342_189 : dc 342 189 = some (.aload_n 2, 190) := by decide +kernel
theorem d342_190 : dc 342 190 = some (.invokevirtual 335, 193) := by decide +kernel
theorem d342_193 : dc 342 193 = some (.if_icmp .eq ((277 : Nat) : Int), 196) := by decide +kernel
theorem d342_196 : dc 342 196 = some (.iconst 0, 197) := by decide +kernel
theorem d342_197 : dc 342 197 = some (.freturn, 198) := by decide +kernel
theorem d342_198 : dc 342 198 = some (.aload_n 1, 199) := by decide +kernel
theorem d342_199 : dc 342 199 = some (.aload_n 0, 200) := by decide +kernel
theorem d342_200 : dc 342 200 = some (.iload_n 3, 201) := by decide +kernel
theorem d342_201 : dc 342 201 = some (.iconst 1, 202) := by decide +kernel
theorem d342_202 : dc 342 202 = some (.iadd, 203) := by decide +kernel
theorem d342_203 : dc 342 203 = some (.iaload, 204) := by decide +kernel
theorem d342_204 : dc 342 204 = some (.invokevirtual 181, 207) := by decide +kernel
theorem d342_207 : dc 342 207 = some (.aload_n 2, 208) := by decide +kernel
theorem d342_208 : dc 342 208 = some (.aload_n 0, 209) := by decide +kernel
theorem d342_209 : dc 342 209 = some (.iload_n 3, 210) := by decide +kernel
theorem d342_210 : dc 342 210 = some (.iconst 1, 211) := by decide +kernel
theorem d342_211 : dc 342 211 = some (.iadd, 212) := by decide +kernel
theorem d342_212 : dc 342 212 = some (.iaload, 213) := by decide +kernel
theorem d342_213 : dc 342 213 = some (.invokevirtual 336, 216) := by decide +kernel
theorem d342_216 : dc 342 216 = some (.if_icmp .eq ((277 : Nat) : Int), 219) := by decide +kernel
theorem d342_219 : dc 342 219 = some (.iconst 0, 220) := by decide +kernel
theorem d342_220 : dc 342 220 = some (.freturn, 221) := by decide +kernel
theorem d342_221 : dc 342 221 = some (.aload_n 1, 222) := by decide +kernel
theorem d342_222 : dc 342 222 = some (.aload_n 0, 223) := by decide +kernel
theorem d342_223 : dc 342 223 = some (.iload_n 3, 224) := by decide +kernel
theorem d342_224 : dc 342 224 = some (.iconst 1, 225) := by decide +kernel
theorem d342_225 : dc 342 225 = some (.iadd, 226) := by decide +kernel
theorem d342_226 : dc 342 226 = some (.iaload, 227) := by decide +kernel
theorem d342_227 : dc 342 227 = some (.invokevirtual 185, 230) := by decide +kernel
theorem d342_230 : dc 342 230 = some (.aload_n 2, 231) := by decide +kernel
theorem d342_231 : dc 342 231 = some (.aload_n 0, 232) := by decide +kernel
theorem d342_232 : dc 342 232 = some (.iload_n 3, 233) := by decide +kernel
theorem d342_233 : dc 342 233 = some (.iconst 1, 234) := by decide +kernel
theorem d342_234 : dc 342 234 = some (.iadd, 235) := by decide +kernel
theorem d342_235 : dc 342 235 = some (.iaload, 236) := by decide +kernel
theorem d342_236 : dc 342 236 = some (.invokevirtual 340, 239) := by decide +kernel
theorem d342_239 : dc 342 239 = some (.if_icmp .eq ((277 : Nat) : Int), 242) := by decide +kernel
theorem d342_242 : dc 342 242 = some (.iconst 0, 243) := by decide +kernel
theorem d342_243 : dc 342 243 = some (.freturn, 244) := by decide +kernel
theorem d342_244 : dc 342 244 = some (.aload_n 1, 245) := by decide +kernel
theorem d342_245 : dc 342 245 = some (.aload_n 0, 246) := by decide +kernel
theorem d342_246 : dc 342 246 = some (.iload_n 3, 247) := by decide +kernel
theorem d342_247 : dc 342 247 = some (.iconst 1, 248) := by decide +kernel
theorem d342_248 : dc 342 248 = some (.iadd, 249) := by decide +kernel
theorem d342_249 : dc 342 249 = some (.iaload, 250) := by decide +kernel
theorem d342_250 : dc 342 250 = some (.aload_n 0, 251) := by decide +kernel
theorem d342_251 : dc 342 251 = some (.iload_n 3, 252) := by decide +kernel
theorem d342_252 : dc 342 252 = some (.iconst 2, 253) := by decide +kernel
theorem d342_253 : dc 342 253 = some (.iadd, 254) := by decide +kernel
theorem d342_254 : dc 342 254 = some (.iaload, 255) := by decide +kernel
theorem d342_255 : dc 342 255 = some (.invokevirtual 186, 258) := by decide +kernel
theorem d342_258 : dc 342 258 = some (.aload_n 2, 259) := by decide +kernel
theorem d342_259 : dc 342 259 = some (.aload_n 0, 260) := by decide +kernel
theorem d342_260 : dc 342 260 = some (.iload_n 3, 261) := by decide +kernel
theorem d342_261 : dc 342 261 = some (.iconst 1, 262) := by decide +kernel
theorem d342_262 : dc 342 262 = some (.iadd, 263) := by decide +kernel
theorem d342_263 : dc 342 263 = some (.iaload, 264) := by decide +kernel
theorem d342_264 : dc 342 264 = some (.aload_n 0, 265) := by decide +kernel
theorem d342_265 : dc 342 265 = some (.iload_n 3, 266) := by decide +kernel
theorem d342_266 : dc 342 266 = some (.iconst 2, 267) := by decide +kernel
theorem d342_267 : dc 342 267 = some (.iadd, 268) := by decide +kernel
theorem d342_268 : dc 342 268 = some (.iaload, 269) := by decide +kernel
theorem d342_269 : dc 342 269 = some (.invokevirtual 341, 272) := by decide +kernel
theorem d342_272 : dc 342 272 = some (.if_icmp .eq ((277 : Nat) : Int), 275) := by decide +kernel
theorem d342_275 : dc 342 275 = some (.iconst 0, 276) := by decide +kernel
theorem d342_276 : dc 342 276 = some (.freturn, 277) := by decide +kernel
theorem d342_277 : dc 342 277 = some (.iinc 3 6, 280) := by decide +kernel
theorem d342_280 : dc 342 280 = some (.goto ((18 : Nat) : Int), 283) := by decide +kernel
theorem d342_283 : dc 342 283 = some (.iconst 1, 284) := by decide +kernel
theorem d342_284 : dc 342 284 = some (.freturn, 285) := by decide +kernel
theorem sum_le {α : Type} {f : α → Nat} {c : Nat} : ∀ {l : List α}, (∀ x ∈ l, f x ≤ c) → (l.map f).sum ≤ c * l.length
  | [], _ => Nat.zero_le _
  | a :: l, h => by
    have g := sum_le (l := l) (fun x hx => h x (List.mem_cons_of_mem _ hx))
    have e := h a List.mem_cons_self
    rw [List.map_cons, List.sum_cons, List.length_cons, Nat.mul_succ]
    omega
/-- rows are made behind n0 alone -/
theorem psum_le {g : Nat → Nat} {h : Hp} {n0 n c : Nat} (hn : NX h = n0 + n) (h0 : ∀ x, x < n0 → KD h x ≠ 6) (hg : ∀ x, g x ≤ c) : psum g h ≤ c * n := by
  unfold psum
  rw [hn, List.range_add, List.map_append, List.sum_append]
  have a : ((List.range n0).map fun x => if KD h x = 6 then g (cap h x) else 0).sum ≤ 0 * (List.range n0).length := sum_le (fun x hx => by rw [if_neg (h0 x (List.mem_range.mp hx))]; exact Nat.le_refl _)
  have b : (((List.range n).map (n0 + ·)).map fun x => if KD h x = 6 then g (cap h x) else 0).sum ≤ c * ((List.range n).map (n0 + ·)).length := sum_le (fun x _ => by
    split
    · exact hg _
    · exact Nat.zero_le _)
  rw [List.length_map, List.length_range] at b
  omega
theorem potC_le (c : Nat) : potC c ≤ 12 := by
  unfold potC
  split <;> omega
theorem potS_le (c : Nat) : potS c ≤ 2432 := Nat.sub_le ..
theorem and7 (y : Int32) : 0 ≤ (y &&& i32 7).toInt ∧ (y &&& i32 7).toInt ≤ 7 := by
  have e : (y &&& i32 7).toInt = BitVec.toInt (y.toBitVec &&& (i32 7).toBitVec) := rfl
  have l : (y.toBitVec &&& (i32 7).toBitVec).toNat ≤ 7 := by
    rw [BitVec.toNat_and, show (i32 7).toBitVec.toNat = 7 by decide]
    exact Nat.and_le_right
  rw [e, BitVec.toInt_eq_toNat_of_lt (by omega)]
  omega
theorem cInv_0 : cInv 0 v00 v00 := by
  have nm : nmsOK [] := fun u i h => absurd (show i < 0 from h) (Nat.not_lt_zero _)
  have ac : acy [] := fun k u h => by
    obtain ⟨y, h1, h2⟩ := h
    exact absurd (edge_lt h2).1 (Nat.not_lt_zero _)
  have hd : ∀ w t : Nat, rH (goR g00) w = (t : Int) → False := fun w t h => by
    have h : (-1 : Int) = (t : Int) := h
    omega
  refine ⟨⟨⟨nm, ac, Nat.le_refl _, fun i hi => absurd hi (Nat.not_lt_zero i)⟩, fun j => Nat.zero_le _, Nat.zero_le _, fun u i => Nat.zero_le _⟩, ⟨plE_nil, rfl, rfl, Or.inl plE_nil⟩, ⟨⟨nm, ac, plnK_nil, fun x hx => absurd hx List.not_mem_nil⟩, ⟨plnK_nil, fun u hu => absurd hu (Nat.not_lt_zero u), fun w _ z => absurd (show (0 : Int) ≤ -1 from z) (by decide), fun t _ z => absurd rfl z, fun w _ t z => (hd w t z).elim⟩, fun j => Nat.zero_le _, Nat.zero_le _, fun u i => Nat.zero_le _⟩, ⟨fun x hx => absurd hx List.not_mem_nil, fun w => reaC_nil, reaC_nil⟩, ⟨by show (-1 : Int) < ((0 : Nat) : Int); decide, fun t ht => absurd ht List.not_mem_nil⟩, List.Pairwise.nil, fun u => Nat.zero_le _⟩
theorem shS_tg {G : Nat → Option Nat} {h0 : Hp} {b L : Nat} {xs : Nat → Int} (hW : Ws G h0 b L xs) : Tg (shS (NX h0) h0) G := ⟨⟨b, L, xs, hW⟩, Nat.le_refl _⟩
theorem shS_st (n0 : Nat) (h0 : Hp) : stL (shS n0 h0) (sT (shS n0 h0) 1286 (sX (shS n0 h0))) = 24 ∧ stL (shS n0 h0) (sT (shS n0 h0) 1287 (sX (shS n0 h0))) = 0 := by
  have a1 : sT (shS n0 h0) 1286 (sX (shS n0 h0)) = n0 + 172 := tgE_s (k := 0) (by decide +kernel)
  have a2 : sT (shS n0 h0) 769 (n0 + 172) = n0 + 307 := tgE_s (by decide +kernel)
  have a3 : sT (shS n0 h0) 900 (n0 + 307) = n0 + 550 := tgE_s (by decide +kernel)
  have b1 : sT (shS n0 h0) 1287 (sX (shS n0 h0)) = n0 + 759 := tgE_s (k := 0) (by decide +kernel)
  have b2 : sT (shS n0 h0) 769 (n0 + 759) = n0 + 894 := tgE_s (by decide +kernel)
  have b3 : sT (shS n0 h0) 900 (n0 + 894) = n0 + 1137 := tgE_s (by decide +kernel)
  unfold stL
  rw [a1, a2, a3, b1, b2, b3, shL, shL]
  exact ⟨by decide +kernel, by decide +kernel⟩
/-- what there is of the script in every heap of the tree -/
theorem scr {G : Nat → Option Nat} {S : Shp} {h : Hp} {b L : Nat} {xs : Nat → Int} (ok : Ok S h) (hW : Ws G (sH S) b L xs) (hn : NX (sH S) ≤ sX S) : KD h b = 80 ∧ LN h b = L ∧ AI h b = AI (sH S) b := by
  obtain ⟨-, -, -, -, ⟨w1, w2, -⟩, -, -, w4, -⟩ := hW
  have g := ok.fo.1 b (Nat.lt_of_lt_of_le (w4 b (by omega)) hn) (by omega)
  exact ⟨g.1.trans w1, g.2.1.trans w2, g.2.2.2.2.1⟩
set_option maxHeartbeats 2000000 in
theorem law_loop {G : Nat → Option Nat} {S : Shp} {b L : Nat} {xs : Nat → Int} (hW : Ws G (sH S) b L xs) (tg : Tg S G) (hL : L ≤ 384) (s1 : stL S (sT S 1286 (sX S)) = 24) (s2 : stL S (sT S 1287 (sX S)) = 0) (h3 : Hp) {Q : Option MV → Hp → Prop} (hq : ∀ h', Rmm h3 h' → Q (some (vI 1)) h') : ∀ (m i k : Nat) (h : Hp) (v w : HoS) (bk : BkV) (tp la : List Nat), m + i = 390 → k ≤ 114 * i → LvI S h k v w bk tp la → Rmm h3 h → Wp G 2048 342 18 [some (vR (some b)), some (vR (some (sX S))), some (vR (some (sM S))), some (vI (i : Nat))] [] h Q := by
  have hn : NX (sH S) ≤ sX S := tg.2
  intro m
  induction m using Nat.strongRecOn with | ind m IH => ?_
  intro i k h v w bk tp la hm hk I R
  have ok := I.1
  obtain ⟨c1, c2, c3⟩ := scr ok hW hn
  refine w_iload_n d342_18 rfl ?_
  refine w_aload_n d342_19 rfl ?_
  refine w_arraylength d342_20 (by rw [c1]; decide) ?_
  rw [c2]
  refine w_bipush d342_21 (by decide) ?_
  refine w_isub d342_23 (by omega) ?_
  refine w_icmpgt d342_24 (fun z => ?_) (fun z => ?_)
  · refine w_iconst d342_283 (by decide) ?_
    exact w_zreturn d342_284 (by decide) (hq h R)
  have il : i + 6 ≤ L := by omega
  have nx : ∀ {h2 : Hp} {k' : Nat} {v' w' : HoS} {b' : BkV} {tp' la' : List Nat}, k' ≤ k + 684 → LvI S h2 k' v' w' b' tp' la' → Rmm h3 h2 → Wp G 2048 342 277 [some (vR (some b)), some (vR (some (sX S))), some (vR (some (sM S))), some (vI (i : Nat))] [] h2 Q := fun {h2 k' v' w' b' tp' la'} hk' I' R' => by
    refine w_iinc3 d342_277 rfl (by omega) ?_
    refine w_goto d342_280 ?_
    exact IH (m - 6) (by omega) (i + 6) k' h2 v' w' b' tp' la' (by omega) (by omega) I' R'
  have ia : ∀ j : Nat, j < 6 → bnd ((i : Int) + ((j : Nat) : Int)) (L : Int).toNat := fun j hj => by
    show 0 ≤ _ ∧ _
    omega
  refine w_aload_n d342_27 rfl ?_
  refine w_iload_n d342_28 rfl ?_
  refine w_iaload d342_29 ⟨by rw [c1]; decide, by rw [c2]; exact ⟨Int.natCast_nonneg i, by omega⟩⟩ ?_
  refine w_bipush d342_30 (by decide) ?_
  refine w_iand d342_32 ?_
  have r7 := and7 (i32 (AI h b ((i : Nat) : Int).toNat))
  generalize (i32 (AI h b ((i : Nat) : Int).toNat) &&& i32 7).toInt = z7 at r7 ⊢
  have kl : k ≤ 49000 := by omega
  by_cases q0 : z7 = 0
  · subst q0
    refine w_switch (t := 76) d342_33 (by decide) ?_
    refine w_aload_n d342_76 rfl ?_
    refine w_aload_n d342_77 rfl ?_
    refine w_iload_n d342_78 rfl ?_
    refine w_iconst d342_79 (by decide) ?_
    refine w_iadd d342_80 (by omega) ?_
    refine w_iaload d342_81 ⟨by rw [c1]; decide, by rw [c2]; exact ⟨by omega, by omega⟩⟩ ?_
    rw [c3]
    refine w_aload_n d342_82 rfl ?_
    refine w_iload_n d342_83 rfl ?_
    refine w_iconst d342_84 (by decide) ?_
    refine w_iadd d342_85 (by omega) ?_
    refine w_iaload d342_86 ⟨by rw [c1]; decide, by rw [c2]; exact ⟨by omega, by omega⟩⟩ ?_
    rw [c3]
    refine w_aload_n d342_87 rfl ?_
    refine w_iload_n d342_88 rfl ?_
    refine w_iconst d342_89 (by decide) ?_
    refine w_iadd d342_90 (by omega) ?_
    refine w_iaload d342_91 ⟨by rw [c1]; decide, by rw [c2]; exact ⟨by omega, by omega⟩⟩ ?_
    rw [c3]
    refine w_aload_n d342_92 rfl ?_
    refine w_iload_n d342_93 rfl ?_
    refine w_iconst d342_94 (by decide) ?_
    refine w_iadd d342_95 (by omega) ?_
    refine w_iaload d342_96 ⟨by rw [c1]; decide, by rw [c2]; exact ⟨by omega, by omega⟩⟩ ?_
    rw [c3]
    refine w_aload_n d342_97 rfl ?_
    refine w_iload_n d342_98 rfl ?_
    refine w_iconst d342_99 (by decide) ?_
    refine w_iadd d342_100 (by omega) ?_
    refine w_iaload d342_101 ⟨by rw [c1]; decide, by rw [c2]; exact ⟨by omega, by omega⟩⟩ ?_
    rw [c3]
    refine w_callv6 d342_102 (by decide) rfl (ok.kd ok.kX) (by simp) (Nat.le_of_ble_eq_true rfl) ?_
    refine l_feed I (by decide) (fun h1 y sm => ?_)
    obtain ⟨ok1, R1, sm⟩ := sm
    obtain ⟨e1, e2, e3⟩ := scr ok1 hW hn
    refine w_aload_n d342_105 rfl ?_
    refine w_aload_n d342_106 rfl ?_
    refine w_iload_n d342_107 rfl ?_
    refine w_iconst d342_108 (by decide) ?_
    refine w_iadd d342_109 (by omega) ?_
    refine w_iaload d342_110 ⟨by rw [e1]; decide, by rw [e2]; exact ⟨by omega, by omega⟩⟩ ?_
    rw [e3]
    refine w_aload_n d342_111 rfl ?_
    refine w_iload_n d342_112 rfl ?_
    refine w_iconst d342_113 (by decide) ?_
    refine w_iadd d342_114 (by omega) ?_
    refine w_iaload d342_115 ⟨by rw [e1]; decide, by rw [e2]; exact ⟨by omega, by omega⟩⟩ ?_
    rw [e3]
    refine w_aload_n d342_116 rfl ?_
    refine w_iload_n d342_117 rfl ?_
    refine w_iconst d342_118 (by decide) ?_
    refine w_iadd d342_119 (by omega) ?_
    refine w_iaload d342_120 ⟨by rw [e1]; decide, by rw [e2]; exact ⟨by omega, by omega⟩⟩ ?_
    rw [e3]
    refine w_aload_n d342_121 rfl ?_
    refine w_iload_n d342_122 rfl ?_
    refine w_iconst d342_123 (by decide) ?_
    refine w_iadd d342_124 (by omega) ?_
    refine w_iaload d342_125 ⟨by rw [e1]; decide, by rw [e2]; exact ⟨by omega, by omega⟩⟩ ?_
    rw [e3]
    refine w_aload_n d342_126 rfl ?_
    refine w_iload_n d342_127 rfl ?_
    refine w_iconst d342_128 (by decide) ?_
    refine w_iadd d342_129 (by omega) ?_
    refine w_iaload d342_130 ⟨by rw [e1]; decide, by rw [e2]; exact ⟨by omega, by omega⟩⟩ ?_
    rw [e3]
    refine w_callv6 d342_131 (by decide) rfl (ok1.kd ok1.so.2.2.2.2.1.2.1) (by simp) (Nat.le_of_ble_eq_true rfl) ?_
    refine sm _ (fun h2 k2 v2 w2 b2 tp2 la2 hk2 I2 R2 => ?_)
    refine w_icmpeq d342_134 (fun _ => ?_) (fun ne => absurd rfl ne)
    exact nx hk2 I2 (R.tr R2)
  by_cases q1 : z7 = 1
  · subst q1
    refine w_switch (t := 139) d342_33 (by decide) ?_
    refine w_aload_n d342_139 rfl ?_
    refine w_aload_n d342_140 rfl ?_
    refine w_iload_n d342_141 rfl ?_
    refine w_iconst d342_142 (by decide) ?_
    refine w_iadd d342_143 (by omega) ?_
    refine w_iaload d342_144 ⟨by rw [c1]; decide, by rw [c2]; exact ⟨by omega, by omega⟩⟩ ?_
    rw [c3]
    refine w_callv2 d342_145 (by decide) rfl (ok.kd ok.kX) (by simp) (Nat.le_of_ble_eq_true rfl) ?_
    refine l_ask I kl tg s1 s2 (by decide) (fun h1 y sm => ?_)
    obtain ⟨ok1, R1, sm⟩ := sm
    obtain ⟨e1, e2, e3⟩ := scr ok1 hW hn
    refine w_aload_n d342_148 rfl ?_
    refine w_aload_n d342_149 rfl ?_
    refine w_iload_n d342_150 rfl ?_
    refine w_iconst d342_151 (by decide) ?_
    refine w_iadd d342_152 (by omega) ?_
    refine w_iaload d342_153 ⟨by rw [e1]; decide, by rw [e2]; exact ⟨by omega, by omega⟩⟩ ?_
    rw [e3]
    refine w_callv2 d342_154 (by decide) rfl (ok1.kd ok1.so.2.2.2.2.1.2.1) (by simp) (Nat.le_of_ble_eq_true rfl) ?_
    refine sm _ (fun h2 k2 v2 w2 b2 tp2 la2 hk2 I2 R2 => ?_)
    refine w_icmpeq d342_157 (fun _ => ?_) (fun ne => absurd rfl ne)
    exact nx hk2 I2 (R.tr R2)
  by_cases q2 : z7 = 2
  · subst q2
    refine w_switch (t := 162) d342_33 (by decide) ?_
    refine w_aload_n d342_162 rfl ?_
    refine w_aload_n d342_163 rfl ?_
    refine w_iload_n d342_164 rfl ?_
    refine w_iconst d342_165 (by decide) ?_
    refine w_iadd d342_166 (by omega) ?_
    refine w_iaload d342_167 ⟨by rw [c1]; decide, by rw [c2]; exact ⟨by omega, by omega⟩⟩ ?_
    rw [c3]
    refine w_callv2 d342_168 (by decide) rfl (ok.kd ok.kX) (by simp) (Nat.le_of_ble_eq_true rfl) ?_
    refine l_answer I (by decide) (fun h1 y sm => ?_)
    obtain ⟨ok1, R1, sm⟩ := sm
    obtain ⟨e1, e2, e3⟩ := scr ok1 hW hn
    refine w_aload_n d342_171 rfl ?_
    refine w_aload_n d342_172 rfl ?_
    refine w_iload_n d342_173 rfl ?_
    refine w_iconst d342_174 (by decide) ?_
    refine w_iadd d342_175 (by omega) ?_
    refine w_iaload d342_176 ⟨by rw [e1]; decide, by rw [e2]; exact ⟨by omega, by omega⟩⟩ ?_
    rw [e3]
    refine w_callv2 d342_177 (by decide) rfl (ok1.kd ok1.so.2.2.2.2.1.2.1) (by simp) (Nat.le_of_ble_eq_true rfl) ?_
    refine sm _ (fun h2 k2 v2 w2 b2 tp2 la2 hk2 I2 R2 => ?_)
    refine w_icmpeq d342_180 (fun _ => ?_) (fun ne => absurd rfl ne)
    exact nx hk2 I2 (R.tr R2)
  by_cases q3 : z7 = 3
  · subst q3
    refine w_switch (t := 185) d342_33 (by decide) ?_
    refine w_aload_n d342_185 rfl ?_
    refine w_callv1 d342_186 (by decide) rfl (ok.kd ok.kX) (by simp) (Nat.le_of_ble_eq_true rfl) ?_
    refine l_disp I kl tg s1 s2 (by decide) (fun h1 y sm => ?_)
    obtain ⟨ok1, R1, sm⟩ := sm
    obtain ⟨e1, e2, e3⟩ := scr ok1 hW hn
    refine w_aload_n d342_189 rfl ?_
    refine w_callv1 d342_190 (by decide) rfl (ok1.kd ok1.so.2.2.2.2.1.2.1) (by simp) (Nat.le_of_ble_eq_true rfl) ?_
    refine sm _ (fun h2 k2 v2 w2 b2 tp2 la2 hk2 I2 R2 => ?_)
    refine w_icmpeq d342_193 (fun _ => ?_) (fun ne => absurd rfl ne)
    exact nx hk2 I2 (R.tr R2)
  by_cases q4 : z7 = 4
  · subst q4
    refine w_switch (t := 198) d342_33 (by decide) ?_
    refine w_aload_n d342_198 rfl ?_
    refine w_aload_n d342_199 rfl ?_
    refine w_iload_n d342_200 rfl ?_
    refine w_iconst d342_201 (by decide) ?_
    refine w_iadd d342_202 (by omega) ?_
    refine w_iaload d342_203 ⟨by rw [c1]; decide, by rw [c2]; exact ⟨by omega, by omega⟩⟩ ?_
    rw [c3]
    refine w_callv2 d342_204 (by decide) rfl (ok.kd ok.kX) (by simp) (Nat.le_of_ble_eq_true rfl) ?_
    refine l_state I (by decide) (fun h1 y sm => ?_)
    obtain ⟨ok1, R1, sm⟩ := sm
    obtain ⟨e1, e2, e3⟩ := scr ok1 hW hn
    refine w_aload_n d342_207 rfl ?_
    refine w_aload_n d342_208 rfl ?_
    refine w_iload_n d342_209 rfl ?_
    refine w_iconst d342_210 (by decide) ?_
    refine w_iadd d342_211 (by omega) ?_
    refine w_iaload d342_212 ⟨by rw [e1]; decide, by rw [e2]; exact ⟨by omega, by omega⟩⟩ ?_
    rw [e3]
    refine w_callv2 d342_213 (by decide) rfl (ok1.kd ok1.so.2.2.2.2.1.2.1) (by simp) (Nat.le_of_ble_eq_true rfl) ?_
    refine sm _ (fun h2 k2 v2 w2 b2 tp2 la2 hk2 I2 R2 => ?_)
    refine w_icmpeq d342_216 (fun _ => ?_) (fun ne => absurd rfl ne)
    exact nx hk2 I2 (R.tr R2)
  by_cases q5 : z7 = 5
  · subst q5
    refine w_switch (t := 221) d342_33 (by decide) ?_
    refine w_aload_n d342_221 rfl ?_
    refine w_aload_n d342_222 rfl ?_
    refine w_iload_n d342_223 rfl ?_
    refine w_iconst d342_224 (by decide) ?_
    refine w_iadd d342_225 (by omega) ?_
    refine w_iaload d342_226 ⟨by rw [c1]; decide, by rw [c2]; exact ⟨by omega, by omega⟩⟩ ?_
    rw [c3]
    refine w_callv2 d342_227 (by decide) rfl (ok.kd ok.kX) (by simp) (Nat.le_of_ble_eq_true rfl) ?_
    refine l_byteAt I (by decide) (fun h1 y sm => ?_)
    obtain ⟨ok1, R1, sm⟩ := sm
    obtain ⟨e1, e2, e3⟩ := scr ok1 hW hn
    refine w_aload_n d342_230 rfl ?_
    refine w_aload_n d342_231 rfl ?_
    refine w_iload_n d342_232 rfl ?_
    refine w_iconst d342_233 (by decide) ?_
    refine w_iadd d342_234 (by omega) ?_
    refine w_iaload d342_235 ⟨by rw [e1]; decide, by rw [e2]; exact ⟨by omega, by omega⟩⟩ ?_
    rw [e3]
    refine w_callv2 d342_236 (by decide) rfl (ok1.kd ok1.so.2.2.2.2.1.2.1) (by simp) (Nat.le_of_ble_eq_true rfl) ?_
    refine sm _ (fun h2 k2 v2 w2 b2 tp2 la2 hk2 I2 R2 => ?_)
    refine w_icmpeq d342_239 (fun _ => ?_) (fun ne => absurd rfl ne)
    exact nx hk2 I2 (R.tr R2)
  by_cases q6 : z7 = 6
  · subst q6
    refine w_switch (t := 244) d342_33 (by decide) ?_
    refine w_aload_n d342_244 rfl ?_
    refine w_aload_n d342_245 rfl ?_
    refine w_iload_n d342_246 rfl ?_
    refine w_iconst d342_247 (by decide) ?_
    refine w_iadd d342_248 (by omega) ?_
    refine w_iaload d342_249 ⟨by rw [c1]; decide, by rw [c2]; exact ⟨by omega, by omega⟩⟩ ?_
    rw [c3]
    refine w_aload_n d342_250 rfl ?_
    refine w_iload_n d342_251 rfl ?_
    refine w_iconst d342_252 (by decide) ?_
    refine w_iadd d342_253 (by omega) ?_
    refine w_iaload d342_254 ⟨by rw [c1]; decide, by rw [c2]; exact ⟨by omega, by omega⟩⟩ ?_
    rw [c3]
    refine w_callv3 d342_255 (by decide) rfl (ok.kd ok.kX) (by simp) (Nat.le_of_ble_eq_true rfl) ?_
    refine l_poke I (by decide) (fun h1 y sm => ?_)
    obtain ⟨ok1, R1, sm⟩ := sm
    obtain ⟨e1, e2, e3⟩ := scr ok1 hW hn
    refine w_aload_n d342_258 rfl ?_
    refine w_aload_n d342_259 rfl ?_
    refine w_iload_n d342_260 rfl ?_
    refine w_iconst d342_261 (by decide) ?_
    refine w_iadd d342_262 (by omega) ?_
    refine w_iaload d342_263 ⟨by rw [e1]; decide, by rw [e2]; exact ⟨by omega, by omega⟩⟩ ?_
    rw [e3]
    refine w_aload_n d342_264 rfl ?_
    refine w_iload_n d342_265 rfl ?_
    refine w_iconst d342_266 (by decide) ?_
    refine w_iadd d342_267 (by omega) ?_
    refine w_iaload d342_268 ⟨by rw [e1]; decide, by rw [e2]; exact ⟨by omega, by omega⟩⟩ ?_
    rw [e3]
    refine w_callv3 d342_269 (by decide) rfl (ok1.kd ok1.so.2.2.2.2.1.2.1) (by simp) (Nat.le_of_ble_eq_true rfl) ?_
    refine sm _ (fun h2 k2 v2 w2 b2 tp2 la2 hk2 I2 R2 => ?_)
    refine w_icmpeq d342_272 (fun _ => ?_) (fun ne => absurd rfl ne)
    exact nx hk2 I2 (R.tr R2)
  have e7 : z7 = 7 := by omega
  subst e7
  refine w_switch (t := 277) d342_33 (by decide) ?_
  exact nx (by omega) I R
set_option maxHeartbeats 2000000 in
theorem law_runs2 : LawRuns2 := by
  intro G h0 b L xs hW hC hL
  have hW' := hW
  obtain ⟨-, -, -, ⟨v, hG, hv1, hv2, -⟩, -, -, hk, hlt, -⟩ := hW'
  have vl : v < NX h0 := hlt v (by omega)
  have W0 : Wp G 2048 342 0 [some (vR (some b)), none, none, none] [] h0 (fun r h' => r = some (vI 1) ∧ NX h' - NX h0 ≤ 600000 ∧ SL h' - SL h0 ≤ 7302250) := by
    refine w_new d342_0 (by decide) ?_
    refine w_dupR d342_3 ?_
    refine w_callv1 d342_4 (by decide) rfl ((KD_nO _ _).trans (by decide)) (by simp) (Nat.le_of_ble_eq_true rfl) ?_
    have sv := (Fx.nO h0 10).2 v vl (fun z => z)
    refine i_House hG (by decide) ⟨sv.1.trans hv1, sv.2.1.trans hv2, vl⟩ (Bl.nO h0 10 (by decide) _) (fun h1 B1 F1 x1 x2 x3 x4 => ?_)
    refine w_astore1 d342_7 rfl ?_
    refine w_new d342_8 (by decide) ?_
    refine w_dupR d342_11 ?_
    refine w_callv1 d342_12 (by decide) rfl ((KD_nO _ _).trans (by decide)) (by simp) (Nat.le_of_ble_eq_true rfl) ?_
    refine i_Mod (by decide) (Bl.nO h1 13 (by decide) _) (fun h2 B2 F2 => ?_)
    have W : Hw G v (NX h0) h0 h2 := Hw.mk B1 (F1.made (fun _ z => z)) ⟨x1.1, fun j => (x1.2 j).trans (by rw [sv.2.2.2.2.2])⟩ x2 x3 x4 B2 (F2.made (fun _ z => z))
    have ok := W.ok hk hC hG
    have eM : NX h1 = sM (shS (NX h0) h0) := B1.nxl tHouse_n
    have eX : NX h0 = sX (shS (NX h0) h0) := rfl
    rw [eM]
    refine W.clear ok (by decide) (fun h3 m3 MR => ?_)
    refine w_return d188_484 ?_
    refine w_astore2 d342_15 rfl ?_
    refine w_iconst d342_16 (by decide) ?_
    refine w_istore3 d342_17 rfl ?_
    obtain ⟨D, B, t0, l0⟩ := W.ho ok
    have kX := ok.kX
    have ax : ∀ f z, f < 4096 → U (shS (NX h0) h0) (sT (shS (NX h0) h0) f (sX (shS (NX h0) h0))) z → ¬ U (shS (NX h0) h0) (sM (shS (NX h0) h0)) z := fun f z hf u => U_XM ok.so hf u
    have t3 : sT (shS (NX h0) h0) 1281 (sX (shS (NX h0) h0)) = NX h0 + 3 := tgE_s (k := 0) (by decide +kernel)
    have cp : cap h2 (sT (shS (NX h0) h0) 1281 (sX (shS (NX h0) h0))) = 4096 := by
      obtain ⟨k, e, e1, q0, -, -, q1, -, -, -, q5, -, q7, -⟩ := W.row hk hC (a := NX h0 + 3) (by rw [← t3]; exact ok.kd (kT1281 ok kX))
      have ek : k = 3 := by omega
      subst ek
      rw [t3]
      unfold cap rw0
      rw [q5]
      show LN h2 (NX h0 + (3 + 1)) = 4096
      rw [q7]
      have q2 : tLit[3 + 1]? = some (41, 4096, 3, 640) := by decide +kernel
      rw [q2] at q1
      cases q1
      rfl
    have I : LvI (shS (NX h0) h0) h3 0 v00 v00 b00 [] [] := ⟨m3.2, HoC.f ok m3 (fun f f1 f2 z u => ax f z (by omega) u) D, BoC.f ok m3 (fun z u => ax 1283 z (by decide) u) B, (m3.rb ok (kT1280 ok kX) (ax 1280 _ (by decide) U_refl)).trans t0, (m3.rb ok (kT1281 ok kX) (ax 1281 _ (by decide) U_refl)).trans l0, ((m3.cp ok (kT1281 ok kX)).2 (ax 1281 _ (by decide) U_refl)).trans cp, MR, cInv_0, ⟨Nat.zero_le _, by show (-1 : Int) ≤ ((0 : Nat) : Int); decide⟩, Nat.zero_le _⟩
    have st := shS_st (NX h0) h0
    refine law_loop (S := shS (NX h0) h0) (b := b) hW (shS_tg hW) hL st.1 st.2 h3 (fun h' R => ⟨rfl, ?_⟩) 390 0 0 h3 v00 v00 b00 [] [] (by decide) (by decide) I Rmm.refl
    have R2 := m3.rmm.tr R
    have n6 : ∀ x, x < NX h0 → KD h2 x ≠ 6 := fun x hx z => by
      have := (W.lo hx).1
      rcases hk x with q | q | q | q | q | q <;> omega
    have pC := psum_le (g := potC) W.2.2.1 n6 potC_le
    have pS := psum_le (g := potS) W.2.2.1 n6 potS_le
    have nn := W.2.2.1
    have ss := W.2.2.2.1
    have sl : sltE tLit ≤ 300000 := by decide +kernel
    have tn : tN = 1581 := rfl
    obtain ⟨r1, r2⟩ := R2
    omega
  obtain ⟨n, r, h', e, rfl, e2⟩ := W0
  exact ⟨n, h', e, e2⟩
