/-! the reference: rules but compile -/
def gpL (w : List Nat) : List (List Nat) → List Nat
  | [] => []
  | y :: ys => (if wdL w y = true then y ++ [10] else []) ++ gpL w ys
/-- what a rule gives, of the bytes l and the lines ls -/
def ruM (r : Nat) (w : List Nat) (ls : List (List Nat)) (l : List Nat) : List Nat :=
  if r = 3 then upW l l.length else if r = 0 then l else if r = 1 then enT (ls.foldl insW []) (ls.foldl insW []).length else if r = 2 then uqT none ls else if r = 4 then gpL w ls else if r = 5 then dec ls.length ++ [10] else hxB (dig l) 16 ++ [10]
def juW (r : Nat) (l : List Nat) (i : Nat) : List Nat := if r = 3 then upW l i else l.take i
theorem juW_0 {r : Nat} {l : List Nat} : juW r l 0 = [] := by unfold juW; split; rfl; rfl
theorem juW_s {r i : Nat} {l : List Nat} (hi : i < l.length) : juW r l (i + 1) = juW r l i ++ [if r = 3 then upC (l.getD i 0) else l.getD i 0] := by
  unfold juW
  by_cases q : r = 3
  · simp only [if_pos q]; rfl
  · simp only [if_neg q]; exact take_succ hi
theorem juW_n {r : Nat} {l : List Nat} : juW r l l.length = if r = 3 then upW l l.length else l := by
  unfold juW
  rw [List.take_length]
theorem dropL {ls : List (List Nat)} {k : Nat} (h : k < ls.length) : ls.drop k = ls.getD k [] :: ls.drop (k + 1) := by
  rw [List.drop_eq_getElem_cons h, List.getD_eq_getElem?_getD, List.getElem?_eq_getElem h]
  rfl
def pvL (ls : List (List Nat)) (k : Nat) : Option (List Nat) := if k = 0 then none else some (ls.getD (k - 1) [])
theorem lt256 {h : Hp} {S : Shp} {m i : Nat} (ok : Ok S h) (hm : sK S m = 14) {l : List Nat} (AL : AlR S h m l) (hi : i < l.length) : l.getD i 0 ≤ 255 := by
  have rb := ra1681 ok hm i
  rw [AL.2.at0 hi] at rb
  omega
theorem d284_0 : dc 284 0 = some (.aload_n 1, 1) := by decide +kernel
theorem d284_1 : dc 284 1 = some (.dload 1421, 4) := by decide +kernel
theorem d284_4 : dc 284 4 = some (.iload_n 2, 5) := by decide +kernel
theorem d284_5 : dc 284 5 = some (.iaload, 6) := by decide +kernel
theorem d284_6 : dc 284 6 = some (.istore_n 3, 7) := by decide +kernel
theorem d284_7 : dc 284 7 = some (.iload_n 3, 8) := by decide +kernel
theorem d284_8 : dc 284 8 = some (.ifCond .eq ((16 : Nat) : Int), 11) := by decide +kernel
theorem d284_11 : dc 284 11 = some (.iload_n 3, 12) := by decide +kernel
theorem d284_12 : dc 284 12 = some (.iconst 3, 13) := by decide +kernel
theorem d284_13 : dc 284 13 = some (.if_icmp .ne ((90 : Nat) : Int), 16) := by decide +kernel
theorem d284_16 : dc 284 16 = some (.iconst 0, 17) := by decide +kernel
theorem d284_17 : dc 284 17 = some (.istore 4, 19) := by decide +kernel
theorem d284_19 : dc 284 19 = some (.iload 4, 21) := by decide +kernel
theorem d284_21 : dc 284 21 = some (.aload_n 0, 22) := by decide +kernel
theorem d284_22 : dc 284 22 = some (.getfield 1682, 25) := by decide +kernel
theorem d284_25 : dc 284 25 = some (.if_icmp .ge ((87 : Nat) : Int), 28) := by decide +kernel
theorem d284_28 : dc 284 28 = some (.aload_n 0, 29) := by decide +kernel
theorem d284_29 : dc 284 29 = some (.iload_n 3, 30) := by decide +kernel
theorem d284_30 : dc 284 30 = some (.iconst 3, 31) := by decide +kernel
theorem d284_31 : dc 284 31 = some (.if_icmp .ne ((71 : Nat) : Int), 34) := by decide +kernel
theorem d284_34 : dc 284 34 = some (.aload_n 0, 35) := by decide +kernel
theorem d284_35 : dc 284 35 = some (.dload 1681, 38) := by decide +kernel
theorem d284_38 : dc 284 38 = some (.iload 4, 40) := by decide +kernel
theorem d284_40 : dc 284 40 = some (.iaload, 41) := by decide +kernel
theorem d284_41 : dc 284 41 = some (.bipush 97, 43) := by decide +kernel
theorem d284_43 : dc 284 43 = some (.if_icmp .lt ((71 : Nat) : Int), 46) := by decide +kernel
theorem d284_46 : dc 284 46 = some (.aload_n 0, 47) := by decide +kernel
theorem d284_47 : dc 284 47 = some (.dload 1681, 50) := by decide +kernel
theorem d284_50 : dc 284 50 = some (.iload 4, 52) := by decide +kernel
theorem d284_52 : dc 284 52 = some (.iaload, 53) := by decide +kernel
theorem d284_53 : dc 284 53 = some (.bipush 122, 55) := by decide +kernel
theorem d284_55 : dc 284 55 = some (.if_icmp .gt ((71 : Nat) : Int), 58) := by decide +kernel
theorem d284_58 : dc 284 58 = some (.aload_n 0, 59) := by decide +kernel
theorem d284_59 : dc 284 59 = some (.dload 1681, 62) := by decide +kernel
theorem d284_62 : dc 284 62 = some (.iload 4, 64) := by decide +kernel
theorem d284_64 : dc 284 64 = some (.iaload, 65) := by decide +kernel
theorem d284_65 : dc 284 65 = some (.bipush 32, 67) := by decide +kernel
theorem d284_67 : dc 284 67 = some (.isub, 68) := by decide +kernel
theorem d284_68 : dc 284 68 = some (.goto ((78 : Nat) : Int), 71) := by decide +kernel
theorem d284_71 : dc 284 71 = some (.aload_n 0, 72) := by decide +kernel
theorem d284_72 : dc 284 72 = some (.dload 1681, 75) := by decide +kernel
theorem d284_75 : dc 284 75 = some (.iload 4, 77) := by decide +kernel
theorem d284_77 : dc 284 77 = some (.iaload, 78) := by decide +kernel
theorem d284_78 : dc 284 78 = some (.invokevirtual 282, 81) := by decide +kernel
theorem d284_81 : dc 284 81 = some (.iinc 4 1, 84) := by decide +kernel
theorem d284_84 : dc 284 84 = some (.goto ((19 : Nat) : Int), 87) := by decide +kernel
theorem d284_87 : dc 284 87 = some (.goto ((372 : Nat) : Int), 90) := by decide +kernel
theorem d284_90 : dc 284 90 = some (.iload_n 3, 91) := by decide +kernel
theorem d284_91 : dc 284 91 = some (.iconst 1, 92) := by decide +kernel
theorem d284_92 : dc 284 92 = some (.if_icmp .ne ((138 : Nat) : Int), 95) := by decide +kernel
theorem d284_95 : dc 284 95 = some (.aload_n 0, 96) := by decide +kernel
theorem d284_96 : dc 284 96 = some (.invokevirtual 285, 99) := by decide +kernel
theorem d284_99 : dc 284 99 = some (.iconst 0, 100) := by decide +kernel
theorem d284_100 : dc 284 100 = some (.istore 4, 102) := by decide +kernel
theorem d284_102 : dc 284 102 = some (.iload 4, 104) := by decide +kernel
theorem d284_104 : dc 284 104 = some (.aload_n 0, 105) := by decide +kernel
theorem d284_105 : dc 284 105 = some (.getfield 1688, 108) := by decide +kernel
theorem d284_108 : dc 284 108 = some (.if_icmp .ge ((135 : Nat) : Int), 111) := by decide +kernel
theorem d284_111 : dc 284 111 = some (.aload_n 0, 112) := by decide +kernel
theorem d284_112 : dc 284 112 = some (.aload_n 0, 113) := by decide +kernel
theorem d284_113 : dc 284 113 = some (.dload 1686, 116) := by decide +kernel
theorem d284_116 : dc 284 116 = some (.iload 4, 118) := by decide +kernel
theorem d284_118 : dc 284 118 = some (.iaload, 119) := by decide +kernel
theorem d284_119 : dc 284 119 = some (.aload_n 0, 120) := by decide +kernel
theorem d284_120 : dc 284 120 = some (.dload 1687, 123) := by decide +kernel
theorem d284_123 : dc 284 123 = some (.iload 4, 125) := by decide +kernel
theorem d284_125 : dc 284 125 = some (.iaload, 126) := by decide +kernel
theorem d284_126 : dc 284 126 = some (.invokevirtual 287, 129) := by decide +kernel
theorem d284_129 : dc 284 129 = some (.iinc 4 1, 132) := by decide +kernel
theorem d284_132 : dc 284 132 = some (.goto ((102 : Nat) : Int), 135) := by decide +kernel
theorem d284_135 : dc 284 135 = some (.goto ((372 : Nat) : Int), 138) := by decide +kernel
theorem d284_138 : dc 284 138 = some (.iload_n 3, 139) := by decide +kernel
theorem d284_139 : dc 284 139 = some (.iconst 2, 140) := by decide +kernel
theorem d284_140 : dc 284 140 = some (.if_icmp .ne ((226 : Nat) : Int), 143) := by decide +kernel
theorem d284_143 : dc 284 143 = some (.iconst 0, 144) := by decide +kernel
theorem d284_144 : dc 284 144 = some (.istore 4, 146) := by decide +kernel
theorem d284_146 : dc 284 146 = some (.iload 4, 148) := by decide +kernel
theorem d284_148 : dc 284 148 = some (.aload_n 0, 149) := by decide +kernel
theorem d284_149 : dc 284 149 = some (.getfield 1688, 152) := by decide +kernel
theorem d284_152 : dc 284 152 = some (.if_icmp .ge ((223 : Nat) : Int), 155) := by decide +kernel
theorem d284_155 : dc 284 155 = some (.iload 4, 157) := by decide +kernel
theorem d284_157 : dc 284 157 = some (.ifCond .eq ((199 : Nat) : Int), 160) := by decide +kernel
theorem d284_160 : dc 284 160 = some (.aload_n 0, 161) := by decide +kernel
theorem d284_161 : dc 284 161 = some (.aload_n 0, 162) := by decide +kernel
theorem d284_162 : dc 284 162 = some (.dload 1686, 165) := by decide +kernel
theorem d284_165 : dc 284 165 = some (.iload 4, 167) := by decide +kernel
theorem d284_167 : dc 284 167 = some (.iconst 1, 168) := by decide +kernel
theorem d284_168 : dc 284 168 = some (.isub, 169) := by decide +kernel
theorem d284_169 : dc 284 169 = some (.iaload, 170) := by decide +kernel
theorem d284_170 : dc 284 170 = some (.aload_n 0, 171) := by decide +kernel
theorem d284_171 : dc 284 171 = some (.dload 1687, 174) := by decide +kernel
theorem d284_174 : dc 284 174 = some (.iload 4, 176) := by decide +kernel
theorem d284_176 : dc 284 176 = some (.iconst 1, 177) := by decide +kernel
theorem d284_177 : dc 284 177 = some (.isub, 178) := by decide +kernel
theorem d284_178 : dc 284 178 = some (.iaload, 179) := by decide +kernel
theorem d284_179 : dc 284 179 = some (.aload_n 0, 180) := by decide +kernel
theorem d284_180 : dc 284 180 = some (.dload 1686, 183) := by decide +kernel
theorem d284_183 : dc 284 183 = some (.iload 4, 185) := by decide +kernel
theorem d284_185 : dc 284 185 = some (.iaload, 186) := by decide +kernel
theorem d284_186 : dc 284 186 = some (.aload_n 0, 187) := by decide +kernel
theorem d284_187 : dc 284 187 = some (.dload 1687, 190) := by decide +kernel
theorem d284_190 : dc 284 190 = some (.iload 4, 192) := by decide +kernel
theorem d284_192 : dc 284 192 = some (.iaload, 193) := by decide +kernel
theorem d284_193 : dc 284 193 = some (.invokevirtual 286, 196) := by decide +kernel
theorem d284_196 : dc 284 196 = some (.ifCond .eq ((217 : Nat) : Int), 199) := by decide +kernel
theorem d284_199 : dc 284 199 = some (.aload_n 0, 200) := by decide +kernel
theorem d284_200 : dc 284 200 = some (.aload_n 0, 201) := by decide +kernel
theorem d284_201 : dc 284 201 = some (.dload 1686, 204) := by decide +kernel
theorem d284_204 : dc 284 204 = some (.iload 4, 206) := by decide +kernel
theorem d284_206 : dc 284 206 = some (.iaload, 207) := by decide +kernel
theorem d284_207 : dc 284 207 = some (.aload_n 0, 208) := by decide +kernel
theorem d284_208 : dc 284 208 = some (.dload 1687, 211) := by decide +kernel
theorem d284_211 : dc 284 211 = some (.iload 4, 213) := by decide +kernel
theorem d284_213 : dc 284 213 = some (.iaload, 214) := by decide +kernel
theorem d284_214 : dc 284 214 = some (.invokevirtual 287, 217) := by decide +kernel
theorem d284_217 : dc 284 217 = some (.iinc 4 1, 220) := by decide +kernel
theorem d284_220 : dc 284 220 = some (.goto ((146 : Nat) : Int), 223) := by decide +kernel
theorem d284_223 : dc 284 223 = some (.goto ((372 : Nat) : Int), 226) := by decide +kernel
theorem d284_226 : dc 284 226 = some (.iload_n 3, 227) := by decide +kernel
theorem d284_227 : dc 284 227 = some (.iconst 4, 228) := by decide +kernel
theorem d284_228 : dc 284 228 = some (.if_icmp .ne ((293 : Nat) : Int), 231) := by decide +kernel
theorem d284_231 : dc 284 231 = some (.iconst 0, 232) := by decide +kernel
theorem d284_232 : dc 284 232 = some (.istore 4, 234) := by decide +kernel
theorem d284_234 : dc 284 234 = some (.iload 4, 236) := by decide +kernel
theorem d284_236 : dc 284 236 = some (.aload_n 0, 237) := by decide +kernel
theorem d284_237 : dc 284 237 = some (.getfield 1688, 240) := by decide +kernel
theorem d284_240 : dc 284 240 = some (.if_icmp .ge ((290 : Nat) : Int), 243) := by decide +kernel
theorem d284_243 : dc 284 243 = some (.aload_n 0, 244) := by decide +kernel
theorem d284_244 : dc 284 244 = some (.aload_n 1, 245) := by decide +kernel
theorem d284_245 : dc 284 245 = some (.iload_n 2, 246) := by decide +kernel
theorem d284_246 : dc 284 246 = some (.aload_n 0, 247) := by decide +kernel
theorem d284_247 : dc 284 247 = some (.dload 1686, 250) := by decide +kernel
theorem d284_250 : dc 284 250 = some (.iload 4, 252) := by decide +kernel
theorem d284_252 : dc 284 252 = some (.iaload, 253) := by decide +kernel
theorem d284_253 : dc 284 253 = some (.aload_n 0, 254) := by decide +kernel
theorem d284_254 : dc 284 254 = some (.dload 1687, 257) := by decide +kernel
theorem d284_257 : dc 284 257 = some (.iload 4, 259) := by decide +kernel
theorem d284_259 : dc 284 259 = some (.iaload, 260) := by decide +kernel
theorem d284_260 : dc 284 260 = some (.invokevirtual 288, 263) := by decide +kernel
theorem d284_263 : dc 284 263 = some (.ifCond .eq ((284 : Nat) : Int), 266) := by decide +kernel
theorem d284_266 : dc 284 266 = some (.aload_n 0, 267) := by decide +kernel
theorem d284_267 : dc 284 267 = some (.aload_n 0, 268) := by decide +kernel
theorem d284_268 : dc 284 268 = some (.dload 1686, 271) := by decide +kernel
theorem d284_271 : dc 284 271 = some (.iload 4, 273) := by decide +kernel
theorem d284_273 : dc 284 273 = some (.iaload, 274) := by decide +kernel
theorem d284_274 : dc 284 274 = some (.aload_n 0, 275) := by decide +kernel
theorem d284_275 : dc 284 275 = some (.dload 1687, 278) := by decide +kernel
theorem d284_278 : dc 284 278 = some (.iload 4, 280) := by decide +kernel
theorem d284_280 : dc 284 280 = some (.iaload, 281) := by decide +kernel
theorem d284_281 : dc 284 281 = some (.invokevirtual 287, 284) := by decide +kernel
theorem d284_284 : dc 284 284 = some (.iinc 4 1, 287) := by decide +kernel
theorem d284_287 : dc 284 287 = some (.goto ((234 : Nat) : Int), 290) := by decide +kernel
theorem d284_290 : dc 284 290 = some (.goto ((372 : Nat) : Int), 293) := by decide +kernel
theorem d284_293 : dc 284 293 = some (.iload_n 3, 294) := by decide +kernel
theorem d284_294 : dc 284 294 = some (.iconst 5, 295) := by decide +kernel
theorem d284_295 : dc 284 295 = some (.if_icmp .ne ((315 : Nat) : Int), 298) := by decide +kernel
theorem d284_298 : dc 284 298 = some (.aload_n 0, 299) := by decide +kernel
theorem d284_299 : dc 284 299 = some (.aload_n 0, 300) := by decide +kernel
theorem d284_300 : dc 284 300 = some (.getfield 1688, 303) := by decide +kernel
theorem d284_303 : dc 284 303 = some (.invokevirtual 283, 306) := by decide +kernel
theorem d284_306 : dc 284 306 = some (.aload_n 0, 307) := by decide +kernel
theorem d284_307 : dc 284 307 = some (.bipush 10, 309) := by decide +kernel
theorem d284_309 : dc 284 309 = some (.invokevirtual 282, 312) := by decide +kernel
theorem d284_312 : dc 284 312 = some (.goto ((372 : Nat) : Int), 315) := by decide +kernel
theorem d284_315 : dc 284 315 = some (.aload_n 0, 316) := by decide +kernel
theorem d284_316 : dc 284 316 = some (.invokevirtual 257, 319) := by decide +kernel
theorem d284_319 : dc 284 319 = some (.aload_n 0, 320) := by decide +kernel
theorem d284_320 : dc 284 320 = some (.aload_n 0, 321) := by decide +kernel
theorem d284_321 : dc 284 321 = some (.dload 1681, 324) := by decide +kernel
theorem d284_324 : dc 284 324 = some (.iconst 0, 325) := by decide +kernel
theorem d284_325 : dc 284 325 = some (.aload_n 0, 326) := by decide +kernel
theorem d284_326 : dc 284 326 = some (.getfield 1682, 329) := by decide +kernel
theorem d284_329 : dc 284 329 = some (.invokevirtual 260, 332) := by decide +kernel
theorem d284_332 : dc 284 332 = some (.bipush 60, 334) := by decide +kernel
theorem d284_334 : dc 284 334 = some (.istore 4, 336) := by decide +kernel
theorem d284_336 : dc 284 336 = some (.iload 4, 338) := by decide +kernel
theorem d284_338 : dc 284 338 = some (.ifCond .lt ((366 : Nat) : Int), 341) := by decide +kernel
theorem d284_341 : dc 284 341 = some (.aload_n 0, 342) := by decide +kernel
theorem d284_342 : dc 284 342 = some (.aload_n 0, 343) := by decide +kernel
theorem d284_343 : dc 284 343 = some (.fload 1677, 346) := by decide +kernel
theorem d284_346 : dc 284 346 = some (.iload 4, 348) := by decide +kernel
theorem d284_348 : dc 284 348 = some (.lushr, 349) := by decide +kernel
theorem d284_349 : dc 284 349 = some (.ldc2_w 7, 352) := by decide +kernel
theorem d284_352 : dc 284 352 = some (.land, 353) := by decide +kernel
theorem d284_353 : dc 284 353 = some (.l2i, 354) := by decide +kernel
theorem d284_354 : dc 284 354 = some (.invokevirtual 289, 357) := by decide +kernel
theorem d284_357 : dc 284 357 = some (.invokevirtual 282, 360) := by decide +kernel
theorem d284_360 : dc 284 360 = some (.iinc 4 (-4), 363) := by decide +kernel
theorem d284_363 : dc 284 363 = some (.goto ((336 : Nat) : Int), 366) := by decide +kernel
theorem d284_366 : dc 284 366 = some (.aload_n 0, 367) := by decide +kernel
theorem d284_367 : dc 284 367 = some (.bipush 10, 369) := by decide +kernel
theorem d284_369 : dc 284 369 = some (.invokevirtual 282, 372) := by decide +kernel
theorem d284_372 : dc 284 372 = some (.return_, 373) := by decide +kernel
theorem k_M_rule {S : Shp} {G : Nat → Option Nat} {d : Nat} {h : Hp} {Q : Option MV → Hp → Prop} {m : Nat} {t : Nat} {fd r : Nat} {P0 : PlV} {l : List Nat} {ls : List (List Nat)} (ok : Ok S h) (h1 : 12 ≤ d) (hm : sK S m = 14) (MK : MkR S h m [] []) (LN : LnR S h m l ls) (AL : AlR S h m l) (DP : DfC S h (sT S fd m) P0) (tg : Tg S G) (hfd : fd = 1664 ∨ fd = 1665) (ht : t < P0.2.2.length) (hr : rix (tgR (tD P0.2.2 t)) = (r : Int))
    (kk : ∀ h', Fr S m [1683, 1685, 1677, 1686, 1687] h h' → MkR S h' m (ruM r (tgW (tD P0.2.2 t)) ls l) [] → Q none h') : Cl G d 284 [vR (some m), vR (some (sT S fd m)), vI (t : Nat)] h Q := by
  show Wp G d 284 0 [some (vR (some m)), some (vR (some (sT S fd m))), some (vI (t : Nat)), none, none] [] h Q
  have MK_0 := MK
  have LN_0 := LN
  have AL_0 := AL
  have DP_0 := DP
  have ht14 : t < 14 := by have := DP.2.2.2.1; omega
  have hr8 := (rixK_nm hr).2
  have nl := LN.2.1
  have ll : l.length ≤ 3600 := by have sl := sLT ok (f := 1681) (n := 3600) hm (by decide) rfl (by decide); have := AL.2.2.1; omega
  refine w_aload_n d284_0 rfl ?_
  refine w_dloadS d284_1 (ok.kd (hdK ok hm hfd)) (fr1421 ok (hdK ok hm hfd)) ?_
  refine w_iload_n d284_4 rfl ?_
  refine w_ialoadV (x := ((r : Nat) : Int)) d284_5 (gi1421 ok (hdK ok hm hfd) (by omega)) ((DP.2.2.2.2 t ht).2.2.2.2.1.trans hr) ?_
  refine w_istore3 d284_6 rfl ?_
  refine w_iload_n d284_7 rfl ?_
  refine w_ifeq d284_8 (fun c8 => ?_) (fun c8 => ?_)
  · refine w_iconst d284_16 (by decide) ?_
    refine w_istore4 d284_17 rfl ?_
    have L19 : ∀ (m19 : Nat) (g : Hp) (i : Nat), l.length - i = m19 → Fr S m [1683, 1685, 1677, 1686, 1687] h g → (i ≤ l.length) → (MkR S g m (juW r l i) []) → Wp G d 284 19 [some (vR (some m)), some (vR (some (sT S fd m))), some (vI (t : Nat)), some (vI (r : Nat)), some (vI (i : Nat))] [] g Q := by
      intro m19
      induction m19 using Nat.strongRecOn with | ind m19 IH19 => ?_
      intro g i hm19 FRg il MK
      have okg := FRg.ok
      have AL := AL_0.r FRg hm
      have DP := DfC.r (f := fd) FRg hm (by rcases hfd with rfl | rfl <;> decide) DP_0
      refine w_iload d284_19 rfl ?_
      refine w_aload_n d284_21 rfl ?_
      refine w_getI (x := ((l.length : Nat) : Int)) d284_22 (okg.kd hm) AL.1 ?_
      refine w_icmpge d284_25 (fun c25 => ?_) (fun c25 => ?_)
      · rw [show i = l.length by omega, juW_n] at MK
        refine w_goto d284_87 ?_
        refine w_return d284_372 ?_
        rw [if_neg (show ¬ r = 3 by omega)] at MK
        rw [show ruM r (tgW (tD P0.2.2 t)) ls l = l by unfold ruM; rw [if_neg (show ¬ r = 3 by omega), if_pos (by omega)]] at kk
        exact kk g FRg MK
      · have hi : i < l.length := by omega
        have rb := lt256 okg hm AL hi
        refine w_aload_n d284_28 rfl ?_
        refine w_iload_n d284_29 rfl ?_
        refine w_iconst d284_30 (by decide) ?_
        refine w_icmpne d284_31 (fun c31 => ?_) (fun c31 => ?_)
        · have ec : (if r = 3 then upC (l.getD i 0) else l.getD i 0) = l.getD i 0 := if_neg (by omega)
          refine w_aload_n d284_71 rfl ?_
          refine w_dloadS d284_72 (okg.kd hm) (fr1681 okg hm) ?_
          refine w_iload d284_75 rfl ?_
          refine w_ialoadV (x := ((l.getD (i) 0 : Nat) : Int)) d284_77 (by have := AL.2.g okg (k := i) (by omega); rwa [show (((0 : Nat) : Int) + ((i : Nat) : Int)) = ((i : Nat) : Int) by omega] at this) (AL.2.at0 (by omega)) ?_
          refine w_callv2 d284_78 (by omega) rfl (okg.kd hm) (by simp) (Nat.le_of_ble_eq_true rfl) ?_
          refine k_M_out (c := l.getD (i) 0) okg (by omega) hm MK (by omega) (fun h78 f78 MK => ?_)
          have ok78 := f78.ok
          have FR78 := Fr.tr (F := [1683, 1685, 1677, 1686, 1687]) FRg f78 (by decide) (by decide)
          have AL := AL.r f78 hm
          have DP := DfC.r (f := fd) f78 hm (by rcases hfd with rfl | rfl <;> decide) DP
          rw [← ec, ← juW_s hi] at MK
          refine w_iinc4 d284_81 rfl (by constructor <;> omega) ?_
          refine w_goto d284_84 ?_
          rw [show ((i : Nat) : Int) + 1 = ((i + 1 : Nat) : Int) by omega]
          refine w_less ?_ (IH19 _ (by omega) h78 (i + 1) rfl FR78 (by omega) MK)
          exact ⟨Or.inr rfl, Or.inr rfl, Or.inr rfl, Or.inr rfl, Or.inr rfl, trivial⟩
        · omega
    refine w_less ?_ (L19 _ h 0 rfl (Fr.refl ok) (Nat.zero_le _) (by rw [juW_0]; exact MK))
    exact ⟨Or.inr rfl, Or.inr rfl, Or.inr rfl, Or.inr rfl, Or.inr rfl, trivial⟩
  · refine w_iload_n d284_11 rfl ?_
    refine w_iconst d284_12 (by decide) ?_
    refine w_icmpne d284_13 (fun c13 => ?_) (fun c13 => ?_)
    · refine w_iload_n d284_90 rfl ?_
      refine w_iconst d284_91 (by decide) ?_
      refine w_icmpne d284_92 (fun c92 => ?_) (fun c92 => ?_)
      · refine w_iload_n d284_138 rfl ?_
        refine w_iconst d284_139 (by decide) ?_
        refine w_icmpne d284_140 (fun c140 => ?_) (fun c140 => ?_)
        · refine w_iload_n d284_226 rfl ?_
          refine w_iconst d284_227 (by decide) ?_
          refine w_icmpne d284_228 (fun c228 => ?_) (fun c228 => ?_)
          · refine w_iload_n d284_293 rfl ?_
            refine w_iconst d284_294 (by decide) ?_
            refine w_icmpne d284_295 (fun c295 => ?_) (fun c295 => ?_)
            · refine w_aload_n d284_315 rfl ?_
              refine w_callv1 d284_316 (by omega) rfl (ok.kd hm) (by simp) (Nat.le_of_ble_eq_true rfl) ?_
              refine k_M_beginDigest ok (by omega) hm (fun h316 m316 q316 DG => ?_)
              have f316 : Fr S m [1677] _ _ := Fr.mk ok m316 (fun ζ e => Or.inl e) q316 (by decide)
              have ok316 := f316.ok
              have FR316 := Fr.le (F := [1683, 1685, 1677, 1686, 1687]) f316 (by decide)
              have MK := MK.r f316 hm
              have LN := LN.r f316 hm
              have AL := AL.r f316 hm
              have DP := DfC.r (f := fd) f316 hm (by rcases hfd with rfl | rfl <;> decide) DP
              refine w_aload_n d284_319 rfl ?_
              refine w_aload_n d284_320 rfl ?_
              refine w_dloadS d284_321 (ok316.kd hm) (fr1681 ok316 hm) ?_
              refine w_iconst d284_324 (by decide) ?_
              refine w_aload_n d284_325 rfl ?_
              refine w_getI (x := ((l.length : Nat) : Int)) d284_326 (ok316.kd hm) AL.1 ?_
              refine w_callv4 d284_329 (by omega) rfl (ok316.kd hm) (by simp) (Nat.le_of_ble_eq_true rfl) ?_
              refine k_M_digestRow ok316 (by omega) hm DG rfl AL.2 (fun z => ok.so.pT (f := 1681) (by decide) z) (fun h329 m329 q329 DG => ?_)
              have f329 : Fr S m [1677] _ _ := Fr.mk ok316 m329 (fun ζ e => Or.inl e) q329 (by decide)
              have ok329 := f329.ok
              have FR329 := Fr.tr (F := [1683, 1685, 1677, 1686, 1687]) FR316 f329 (by decide) (by decide)
              have MK := MK.r f329 hm
              have LN := LN.r f329 hm
              have AL := AL.r f329 hm
              have DP := DfC.r (f := fd) f329 hm (by rcases hfd with rfl | rfl <;> decide) DP
              rw [List.nil_append] at DG
              refine w_bipush d284_332 (by decide) ?_
              refine w_istore4 d284_334 rfl ?_
              have L336 : ∀ (m336 : Nat) (g : Hp) (j : Nat), 16 - j = m336 → Fr S m [1683, 1685, 1677, 1686, 1687] h g → (j ≤ 16) → (MkR S g m (hxB (dig l) j) []) → (DgC g m l) → Wp G d 284 336 [some (vR (some m)), some (vR (some (sT S fd m))), some (vI (t : Nat)), some (vI (r : Nat)), some (vI (60 - 4 * ((j : Nat) : Int)))] [] g Q := by
                intro m336
                induction m336 using Nat.strongRecOn with | ind m336 IH336 => ?_
                intro g j hm336 FRg jl MK DG
                have okg := FRg.ok
                have AL := AL_0.r FRg hm
                have DP := DfC.r (f := fd) FRg hm (by rcases hfd with rfl | rfl <;> decide) DP_0
                refine w_iload d284_336 rfl ?_
                refine w_iflt d284_338 (fun c338 => ?_) (fun c338 => ?_)
                · rw [show j = 16 by omega] at MK
                  refine w_aload_n d284_366 rfl ?_
                  refine w_bipush d284_367 (by decide) ?_
                  refine w_callv2 d284_369 (by omega) rfl (okg.kd hm) (by simp) (Nat.le_of_ble_eq_true rfl) ?_
                  refine k_M_out (c := 10) okg (by omega) hm MK (by decide) (fun h369 f369 MK => ?_)
                  have ok369 := f369.ok
                  have FR369 := Fr.tr (F := [1683, 1685, 1677, 1686, 1687]) FRg f369 (by decide) (by decide)
                  have DG := DG.r f369 hm
                  have AL := AL.r f369 hm
                  have DP := DfC.r (f := fd) f369 hm (by rcases hfd with rfl | rfl <;> decide) DP
                  refine w_return d284_372 ?_
                  rw [show ruM r (tgW (tD P0.2.2 t)) ls l = hxB (dig l) 16 ++ [10] by unfold ruM; rw [if_neg (show ¬ r = 3 by omega), if_neg (show ¬ r = 0 by omega), if_neg (show ¬ r = 1 by omega), if_neg (show ¬ r = 2 by omega), if_neg (show ¬ r = 4 by omega), if_neg (show ¬ r = 5 by omega)]] at kk
                  exact kk h369 FR369 MK
                · have e8 := byJ_ok (x := dig l) (s := 60 - 4 * j) (q := 4) (lngV 7) (by decide) (by decide) (by omega)
                  rw [show (((60 - 4 * j : Nat)) : Int) = 60 - 4 * ((j : Nat) : Int) by omega] at e8
                  have l8 : pcJ (dig l) (60 - 4 * j) 4 < 16 := pcJ_lt (dig l) (60 - 4 * j) 4
                  refine w_aload_n d284_341 rfl ?_
                  refine w_aload_n d284_342 rfl ?_
                  refine w_floadV (x := (dig l)) d284_343 (okg.kd hm) DG ?_
                  refine w_iload d284_346 rfl ?_
                  refine w_lushr d284_348 ?_
                  refine w_ldc2_w d284_349 ?_
                  refine w_land d284_352 ?_
                  refine w_l2i d284_353 ?_
                  rw [e8]
                  refine w_calls1 d284_354 (by omega) rfl rfl (by simp) (Nat.le_of_ble_eq_true rfl) ?_
                  refine k_M_sign (by omega) l8 ?_
                  refine w_callv2 d284_357 (by omega) rfl (okg.kd hm) (by simp) (Nat.le_of_ble_eq_true rfl) ?_
                  refine k_M_out (c := hexd (pcJ (dig l) (60 - 4 * j) 4)) okg (by omega) hm MK (by unfold hexd; split <;> omega) (fun h357 f357 MK => ?_)
                  have ok357 := f357.ok
                  have FR357 := Fr.tr (F := [1683, 1685, 1677, 1686, 1687]) FRg f357 (by decide) (by decide)
                  have DG := DG.r f357 hm
                  have AL := AL.r f357 hm
                  have DP := DfC.r (f := fd) f357 hm (by rcases hfd with rfl | rfl <;> decide) DP
                  rw [← hxB_snoc] at MK
                  refine w_iinc4 d284_360 rfl (by constructor <;> omega) ?_
                  rw [show (60 : Int) - 4 * ((j : Nat) : Int) + (-4) = 60 - 4 * ((j + 1 : Nat) : Int) by omega]
                  refine w_goto d284_363 ?_
                  refine w_less ?_ (IH336 _ (by omega) h357 (j + 1) rfl FR357 (by omega) MK DG)
                  exact ⟨Or.inr rfl, Or.inr rfl, Or.inr rfl, Or.inr rfl, Or.inr rfl, trivial⟩
              refine w_less ?_ (L336 _ h329 0 rfl FR329 (Nat.zero_le _) MK DG)
              exact ⟨Or.inr rfl, Or.inr rfl, Or.inr rfl, Or.inr rfl, Or.inr rfl, trivial⟩
            · refine w_aload_n d284_298 rfl ?_
              refine w_aload_n d284_299 rfl ?_
              refine w_getI (x := ((ls.length : Nat) : Int)) d284_300 (ok.kd hm) LN.1 ?_
              refine w_callv2 d284_303 (by omega) rfl (ok.kd hm) (by simp) (Nat.le_of_ble_eq_true rfl) ?_
              refine k_M_outNumber (n := 9) ok (by omega) hm MK (by omega) (by have := LN.2.1; omega) (by decide) (fun h303 f303 MK => ?_)
              have ok303 := f303.ok
              have FR303 := Fr.le (F := [1683, 1685, 1677, 1686, 1687]) f303 (by decide)
              have LN := LN.r f303 hm
              have AL := AL.r f303 hm
              have DP := DfC.r (f := fd) f303 hm (by rcases hfd with rfl | rfl <;> decide) DP
              refine w_aload_n d284_306 rfl ?_
              refine w_bipush d284_307 (by decide) ?_
              refine w_callv2 d284_309 (by omega) rfl (ok303.kd hm) (by simp) (Nat.le_of_ble_eq_true rfl) ?_
              refine k_M_out (c := 10) ok303 (by omega) hm MK (by decide) (fun h309 f309 MK => ?_)
              have ok309 := f309.ok
              have FR309 := Fr.tr (F := [1683, 1685, 1677, 1686, 1687]) FR303 f309 (by decide) (by decide)
              have LN := LN.r f309 hm
              have AL := AL.r f309 hm
              have DP := DfC.r (f := fd) f309 hm (by rcases hfd with rfl | rfl <;> decide) DP
              refine w_goto d284_312 ?_
              refine w_return d284_372 ?_
              rw [List.nil_append] at MK
              rw [show ruM r (tgW (tD P0.2.2 t)) ls l = dec ls.length ++ [10] by unfold ruM; rw [if_neg (show ¬ r = 3 by omega), if_neg (show ¬ r = 0 by omega), if_neg (show ¬ r = 1 by omega), if_neg (show ¬ r = 2 by omega), if_neg (show ¬ r = 4 by omega)]; rw [if_pos (by omega)]] at kk
              exact kk h309 FR309 MK
          · refine w_iconst d284_231 (by decide) ?_
            refine w_istore4 d284_232 rfl ?_
            have L234 : ∀ (m234 : Nat) (g : Hp) (k : Nat) (T : List Nat), ls.length - k = m234 → Fr S m [1683, 1685, 1677, 1686, 1687] h g → (k ≤ ls.length) → (MkR S g m T []) → (T ++ gpL (tgW (tD P0.2.2 t)) (ls.drop k) = gpL (tgW (tD P0.2.2 t)) ls) → (LnR S g m l ls) → Wp G d 284 234 [some (vR (some m)), some (vR (some (sT S fd m))), some (vI (t : Nat)), some (vI (r : Nat)), some (vI (k : Nat))] [] g Q := by
              intro m234
              induction m234 using Nat.strongRecOn with | ind m234 IH234 => ?_
              intro g k T hm234 FRg kl MK hp LN
              have okg := FRg.ok
              have AL := AL_0.r FRg hm
              have DP := DfC.r (f := fd) FRg hm (by rcases hfd with rfl | rfl <;> decide) DP_0
              refine w_iload d284_234 rfl ?_
              refine w_aload_n d284_236 rfl ?_
              refine w_getI (x := ((ls.length : Nat) : Int)) d284_237 (okg.kd hm) LN.1 ?_
              refine w_icmpge d284_240 (fun c240 => ?_) (fun c240 => ?_)
              · refine w_goto d284_290 ?_
                refine w_return d284_372 ?_
                rw [List.drop_eq_nil_of_le (by omega), gpL, List.append_nil] at hp
                rw [show ruM r (tgW (tD P0.2.2 t)) ls l = gpL (tgW (tD P0.2.2 t)) ls by unfold ruM; rw [if_neg (show ¬ r = 3 by omega), if_neg (show ¬ r = 0 by omega), if_neg (show ¬ r = 1 by omega), if_neg (show ¬ r = 2 by omega)]; rw [if_pos (by omega)], ← hp] at kk
                exact kk g FRg MK
              · obtain ⟨f, e, fh, eh, fe, fl⟩ := LN.at okg hm (k := k) (by omega)
                have rf := ra1686 okg hm (k)
                have rt := ra1687 okg hm (k)
                have hk : k < ls.length := by omega
                rw [dropL hk, gpL] at hp
                refine w_aload_n d284_243 rfl ?_
                refine w_aload_n d284_244 rfl ?_
                refine w_iload_n d284_245 rfl ?_
                refine w_aload_n d284_246 rfl ?_
                refine w_dloadS d284_247 (okg.kd hm) (fr1686 okg hm) ?_
                refine w_iload d284_250 rfl ?_
                refine w_ialoadV (x := ((f : Nat) : Int)) d284_252 (gi1686 okg hm (by omega)) fh ?_
                refine w_aload_n d284_253 rfl ?_
                refine w_dloadS d284_254 (okg.kd hm) (fr1687 okg hm) ?_
                refine w_iload d284_257 rfl ?_
                refine w_ialoadV (x := ((e : Nat) : Int)) d284_259 (gi1687 okg hm (by omega)) eh ?_
                refine w_callv5 d284_260 (by omega) rfl (okg.kd hm) (by simp) (Nat.le_of_ble_eq_true rfl) ?_
                refine k_M_stands okg (by omega) hm DP AL ht fe hfd ?_
                rw [fl]
                refine w_ifeq d284_263 (fun c263 => ?_) (fun c263 => ?_)
                · have q : ¬ wdL (tgW (tD P0.2.2 t)) (ls.getD k []) = true := fun z => by rw [z] at c263; exact absurd c263 (by decide)
                  rw [if_neg q, List.nil_append] at hp
                  refine w_iinc4 d284_284 rfl (by constructor <;> omega) ?_
                  refine w_goto d284_287 ?_
                  rw [show ((k : Nat) : Int) + 1 = ((k + 1 : Nat) : Int) by omega]
                  refine w_less ?_ (IH234 _ (by omega) g (k + 1) _ rfl FRg (by omega) MK hp LN)
                  exact ⟨Or.inr rfl, Or.inr rfl, Or.inr rfl, Or.inr rfl, Or.inr rfl, trivial⟩
                · have q : wdL (tgW (tD P0.2.2 t)) (ls.getD k []) = true := by
                    rcases Bool.eq_false_or_eq_true (wdL (tgW (tD P0.2.2 t)) (ls.getD k [])) with z | z
                    · exact z
                    · rw [z] at c263; exact absurd rfl c263
                  rw [if_pos q, ← List.append_assoc] at hp
                  refine w_aload_n d284_266 rfl ?_
                  refine w_aload_n d284_267 rfl ?_
                  refine w_dloadS d284_268 (okg.kd hm) (fr1686 okg hm) ?_
                  refine w_iload d284_271 rfl ?_
                  refine w_ialoadV (x := ((f : Nat) : Int)) d284_273 (gi1686 okg hm (by omega)) fh ?_
                  refine w_aload_n d284_274 rfl ?_
                  refine w_dloadS d284_275 (okg.kd hm) (fr1687 okg hm) ?_
                  refine w_iload d284_278 rfl ?_
                  refine w_ialoadV (x := ((e : Nat) : Int)) d284_280 (gi1687 okg hm (by omega)) eh ?_
                  refine w_callv3 d284_281 (by omega) rfl (okg.kd hm) (by simp) (Nat.le_of_ble_eq_true rfl) ?_
                  refine k_M_outLine okg (by omega) hm MK AL fe (fun h281 f281 MK => ?_)
                  have ok281 := f281.ok
                  have FR281 := Fr.tr (F := [1683, 1685, 1677, 1686, 1687]) FRg f281 (by decide) (by decide)
                  have LN := LN.r f281 hm
                  have AL := AL.r f281 hm
                  have DP := DfC.r (f := fd) f281 hm (by rcases hfd with rfl | rfl <;> decide) DP
                  rw [fl] at MK
                  refine w_iinc4 d284_284 rfl (by constructor <;> omega) ?_
                  refine w_goto d284_287 ?_
                  rw [show ((k : Nat) : Int) + 1 = ((k + 1 : Nat) : Int) by omega]
                  refine w_less ?_ (IH234 _ (by omega) h281 (k + 1) _ rfl FR281 (by omega) MK hp LN)
                  exact ⟨Or.inr rfl, Or.inr rfl, Or.inr rfl, Or.inr rfl, Or.inr rfl, trivial⟩
            refine w_less ?_ (L234 _ h 0 [] rfl (Fr.refl ok) (Nat.zero_le _) MK (by rw [List.nil_append, List.drop_zero]) LN)
            exact ⟨Or.inr rfl, Or.inr rfl, Or.inr rfl, Or.inr rfl, Or.inr rfl, trivial⟩
        · refine w_iconst d284_143 (by decide) ?_
          refine w_istore4 d284_144 rfl ?_
          have L146 : ∀ (m146 : Nat) (g : Hp) (k : Nat) (T : List Nat), ls.length - k = m146 → Fr S m [1683, 1685, 1677, 1686, 1687] h g → (k ≤ ls.length) → (MkR S g m T []) → (T ++ uqT (pvL ls k) (ls.drop k) = uqT none ls) → (LnR S g m l ls) → Wp G d 284 146 [some (vR (some m)), some (vR (some (sT S fd m))), some (vI (t : Nat)), some (vI (r : Nat)), some (vI (k : Nat))] [] g Q := by
            intro m146
            induction m146 using Nat.strongRecOn with | ind m146 IH146 => ?_
            intro g k T hm146 FRg kl MK hp LN
            have okg := FRg.ok
            have AL := AL_0.r FRg hm
            have DP := DfC.r (f := fd) FRg hm (by rcases hfd with rfl | rfl <;> decide) DP_0
            refine w_iload d284_146 rfl ?_
            refine w_aload_n d284_148 rfl ?_
            refine w_getI (x := ((ls.length : Nat) : Int)) d284_149 (okg.kd hm) LN.1 ?_
            refine w_icmpge d284_152 (fun c152 => ?_) (fun c152 => ?_)
            · refine w_goto d284_223 ?_
              refine w_return d284_372 ?_
              rw [show k = ls.length by omega, List.drop_eq_nil_of_le (Nat.le_refl _)] at hp
              rw [show uqT (pvL ls ls.length) [] = [] by rw [uqT], List.append_nil] at hp
              rw [show ruM r (tgW (tD P0.2.2 t)) ls l = uqT none ls by unfold ruM; rw [if_neg (show ¬ r = 3 by omega), if_neg (show ¬ r = 0 by omega), if_neg (show ¬ r = 1 by omega)]; rw [if_pos (by omega)], ← hp] at kk
              exact kk g FRg MK
            · obtain ⟨f, e, fh, eh, fe, fl⟩ := LN.at okg hm (k := k) (by omega)
              have rf := ra1686 okg hm (k)
              have rt := ra1687 okg hm (k)
              have hk : k < ls.length := by omega
              rw [dropL hk, uqT] at hp
              refine w_iload d284_155 rfl ?_
              refine w_ifeq d284_157 (fun c157 => ?_) (fun c157 => ?_)
              · have pv : pvL ls k = none := if_pos (by omega)
                rw [pv, if_neg (by simp), ← List.append_assoc] at hp
                refine w_aload_n d284_199 rfl ?_
                refine w_aload_n d284_200 rfl ?_
                refine w_dloadS d284_201 (okg.kd hm) (fr1686 okg hm) ?_
                refine w_iload d284_204 rfl ?_
                refine w_ialoadV (x := ((f : Nat) : Int)) d284_206 (gi1686 okg hm (by omega)) fh ?_
                refine w_aload_n d284_207 rfl ?_
                refine w_dloadS d284_208 (okg.kd hm) (fr1687 okg hm) ?_
                refine w_iload d284_211 rfl ?_
                refine w_ialoadV (x := ((e : Nat) : Int)) d284_213 (gi1687 okg hm (by omega)) eh ?_
                refine w_callv3 d284_214 (by omega) rfl (okg.kd hm) (by simp) (Nat.le_of_ble_eq_true rfl) ?_
                refine k_M_outLine okg (by omega) hm MK AL fe (fun h214 f214 MK => ?_)
                have ok214 := f214.ok
                have FR214 := Fr.tr (F := [1683, 1685, 1677, 1686, 1687]) FRg f214 (by decide) (by decide)
                have LN := LN.r f214 hm
                have AL := AL.r f214 hm
                have DP := DfC.r (f := fd) f214 hm (by rcases hfd with rfl | rfl <;> decide) DP
                rw [fl] at MK
                refine w_iinc4 d284_217 rfl (by constructor <;> omega) ?_
                refine w_goto d284_220 ?_
                rw [show ((k : Nat) : Int) + 1 = ((k + 1 : Nat) : Int) by omega]
                have pn : pvL ls (k + 1) = some (ls.getD k []) := if_neg (by omega)
                refine w_less ?_ (IH146 _ (by omega) h214 (k + 1) _ rfl FR214 (by omega) MK (by rw [pn]; exact hp) LN)
                exact ⟨Or.inr rfl, Or.inr rfl, Or.inr rfl, Or.inr rfl, Or.inr rfl, trivial⟩
              · have k0 : k ≠ 0 := by omega
                have pv : pvL ls k = some (ls.getD (k - 1) []) := if_neg k0
                obtain ⟨f2, e2_, fh2, eh2, fe2, fl2⟩ := LN.at okg hm (k := k - 1) (by omega)
                have rf2 := ra1686 okg hm (k - 1)
                have rt2 := ra1687 okg hm (k - 1)
                refine w_aload_n d284_160 rfl ?_
                refine w_aload_n d284_161 rfl ?_
                refine w_dloadS d284_162 (okg.kd hm) (fr1686 okg hm) ?_
                refine w_iload d284_165 rfl ?_
                refine w_iconst d284_167 (by decide) ?_
                refine w_isub d284_168 (by constructor <;> omega) ?_
                rw [show ((k : Nat) : Int) - 1 = ((k - 1 : Nat) : Int) by omega]
                refine w_ialoadV (x := ((f2 : Nat) : Int)) d284_169 (gi1686 okg hm (by omega)) fh2 ?_
                refine w_aload_n d284_170 rfl ?_
                refine w_dloadS d284_171 (okg.kd hm) (fr1687 okg hm) ?_
                refine w_iload d284_174 rfl ?_
                refine w_iconst d284_176 (by decide) ?_
                refine w_isub d284_177 (by constructor <;> omega) ?_
                rw [show ((k : Nat) : Int) - 1 = ((k - 1 : Nat) : Int) by omega]
                refine w_ialoadV (x := ((e2_ : Nat) : Int)) d284_178 (gi1687 okg hm (by omega)) eh2 ?_
                refine w_aload_n d284_179 rfl ?_
                refine w_dloadS d284_180 (okg.kd hm) (fr1686 okg hm) ?_
                refine w_iload d284_183 rfl ?_
                refine w_ialoadV (x := ((f : Nat) : Int)) d284_185 (gi1686 okg hm (by omega)) fh ?_
                refine w_aload_n d284_186 rfl ?_
                refine w_dloadS d284_187 (okg.kd hm) (fr1687 okg hm) ?_
                refine w_iload d284_190 rfl ?_
                refine w_ialoadV (x := ((e : Nat) : Int)) d284_192 (gi1687 okg hm (by omega)) eh ?_
                refine w_callv5 d284_193 (by omega) rfl (okg.kd hm) (by simp) (Nat.le_of_ble_eq_true rfl) ?_
                refine k_M_compareLines okg (by omega) hm AL fe2 fe ?_
                rw [fl, fl2]
                refine w_ifeq d284_196 (fun c196 => ?_) (fun c196 => ?_)
                · have eq := cmpL_eq.mp c196
                  rw [pv, if_pos (by rw [eq]), List.nil_append] at hp
                  refine w_iinc4 d284_217 rfl (by constructor <;> omega) ?_
                  refine w_goto d284_220 ?_
                  rw [show ((k : Nat) : Int) + 1 = ((k + 1 : Nat) : Int) by omega]
                  have pn : pvL ls (k + 1) = some (ls.getD k []) := if_neg (by omega)
                  refine w_less ?_ (IH146 _ (by omega) g (k + 1) _ rfl FRg (by omega) MK (by rw [pn]; exact hp) LN)
                  exact ⟨Or.inr rfl, Or.inr rfl, Or.inr rfl, Or.inr rfl, Or.inr rfl, trivial⟩
                · have nq : ¬ pvL ls k = some (ls.getD k []) := fun z => by rw [pv] at z; injection z with z; exact c196 (cmpL_eq.mpr z)
                  rw [if_neg nq, ← List.append_assoc] at hp
                  refine w_aload_n d284_199 rfl ?_
                  refine w_aload_n d284_200 rfl ?_
                  refine w_dloadS d284_201 (okg.kd hm) (fr1686 okg hm) ?_
                  refine w_iload d284_204 rfl ?_
                  refine w_ialoadV (x := ((f : Nat) : Int)) d284_206 (gi1686 okg hm (by omega)) fh ?_
                  refine w_aload_n d284_207 rfl ?_
                  refine w_dloadS d284_208 (okg.kd hm) (fr1687 okg hm) ?_
                  refine w_iload d284_211 rfl ?_
                  refine w_ialoadV (x := ((e : Nat) : Int)) d284_213 (gi1687 okg hm (by omega)) eh ?_
                  refine w_callv3 d284_214 (by omega) rfl (okg.kd hm) (by simp) (Nat.le_of_ble_eq_true rfl) ?_
                  refine k_M_outLine okg (by omega) hm MK AL fe (fun h214 f214 MK => ?_)
                  have ok214 := f214.ok
                  have FR214 := Fr.tr (F := [1683, 1685, 1677, 1686, 1687]) FRg f214 (by decide) (by decide)
                  have LN := LN.r f214 hm
                  have AL := AL.r f214 hm
                  have DP := DfC.r (f := fd) f214 hm (by rcases hfd with rfl | rfl <;> decide) DP
                  rw [fl] at MK
                  refine w_iinc4 d284_217 rfl (by constructor <;> omega) ?_
                  refine w_goto d284_220 ?_
                  rw [show ((k : Nat) : Int) + 1 = ((k + 1 : Nat) : Int) by omega]
                  have pn : pvL ls (k + 1) = some (ls.getD k []) := if_neg (by omega)
                  refine w_less ?_ (IH146 _ (by omega) h214 (k + 1) _ rfl FR214 (by omega) MK (by rw [pn]; exact hp) LN)
                  exact ⟨Or.inr rfl, Or.inr rfl, Or.inr rfl, Or.inr rfl, Or.inr rfl, trivial⟩
          refine w_less ?_ (L146 _ h 0 [] rfl (Fr.refl ok) (Nat.zero_le _) MK (by rw [List.nil_append, List.drop_zero]; rfl) LN)
          exact ⟨Or.inr rfl, Or.inr rfl, Or.inr rfl, Or.inr rfl, Or.inr rfl, trivial⟩
      · refine w_aload_n d284_95 rfl ?_
        refine w_callv1 d284_96 (by omega) rfl (ok.kd hm) (by simp) (Nat.le_of_ble_eq_true rfl) ?_
        refine k_M_sortLines ok (by omega) hm LN AL (fun h96 f96 LN => ?_)
        have ok96 := f96.ok
        have FR96 := Fr.le (F := [1683, 1685, 1677, 1686, 1687]) f96 (by decide)
        have MK := MK.r f96 hm
        have AL := AL.r f96 hm
        have DP := DfC.r (f := fd) f96 hm (by rcases hfd with rfl | rfl <;> decide) DP
        refine w_iconst d284_99 (by decide) ?_
        refine w_istore4 d284_100 rfl ?_
        have L102 : ∀ (m102 : Nat) (g : Hp) (k : Nat), (ls.foldl insW []).length - k = m102 → Fr S m [1683, 1685, 1677, 1686, 1687] h g → (k ≤ (ls.foldl insW []).length) → (MkR S g m (enT (ls.foldl insW []) k) []) → (LnR S g m l (ls.foldl insW [])) → Wp G d 284 102 [some (vR (some m)), some (vR (some (sT S fd m))), some (vI (t : Nat)), some (vI (r : Nat)), some (vI (k : Nat))] [] g Q := by
          intro m102
          induction m102 using Nat.strongRecOn with | ind m102 IH102 => ?_
          intro g k hm102 FRg kl MK LN
          have okg := FRg.ok
          have AL := AL_0.r FRg hm
          have DP := DfC.r (f := fd) FRg hm (by rcases hfd with rfl | rfl <;> decide) DP_0
          have nl2 := LN.2.1
          refine w_iload d284_102 rfl ?_
          refine w_aload_n d284_104 rfl ?_
          refine w_getI (x := (((ls.foldl insW []).length : Nat) : Int)) d284_105 (okg.kd hm) LN.1 ?_
          refine w_icmpge d284_108 (fun c108 => ?_) (fun c108 => ?_)
          · refine w_goto d284_135 ?_
            refine w_return d284_372 ?_
            rw [show k = (ls.foldl insW []).length by omega] at MK
            rw [show ruM r (tgW (tD P0.2.2 t)) ls l = enT (ls.foldl insW []) (ls.foldl insW []).length by unfold ruM; rw [if_neg (show ¬ r = 3 by omega), if_neg (show ¬ r = 0 by omega), if_pos (by omega)]] at kk
            exact kk g FRg MK
          · obtain ⟨f, e, fh, eh, fe, fl⟩ := LN.at okg hm (k := k) (by omega)
            have rf := ra1686 okg hm (k)
            have rt := ra1687 okg hm (k)
            refine w_aload_n d284_111 rfl ?_
            refine w_aload_n d284_112 rfl ?_
            refine w_dloadS d284_113 (okg.kd hm) (fr1686 okg hm) ?_
            refine w_iload d284_116 rfl ?_
            refine w_ialoadV (x := ((f : Nat) : Int)) d284_118 (gi1686 okg hm (by omega)) fh ?_
            refine w_aload_n d284_119 rfl ?_
            refine w_dloadS d284_120 (okg.kd hm) (fr1687 okg hm) ?_
            refine w_iload d284_123 rfl ?_
            refine w_ialoadV (x := ((e : Nat) : Int)) d284_125 (gi1687 okg hm (by omega)) eh ?_
            refine w_callv3 d284_126 (by omega) rfl (okg.kd hm) (by simp) (Nat.le_of_ble_eq_true rfl) ?_
            refine k_M_outLine okg (by omega) hm MK AL fe (fun h126 f126 MK => ?_)
            have ok126 := f126.ok
            have FR126 := Fr.tr (F := [1683, 1685, 1677, 1686, 1687]) FRg f126 (by decide) (by decide)
            have LN := LN.r f126 hm
            have AL := AL.r f126 hm
            have DP := DfC.r (f := fd) f126 hm (by rcases hfd with rfl | rfl <;> decide) DP
            rw [fl] at MK
            refine w_iinc4 d284_129 rfl (by constructor <;> omega) ?_
            refine w_goto d284_132 ?_
            rw [show ((k : Nat) : Int) + 1 = ((k + 1 : Nat) : Int) by omega]
            refine w_less ?_ (IH102 _ (by omega) h126 (k + 1) rfl FR126 (by omega) MK LN)
            exact ⟨Or.inr rfl, Or.inr rfl, Or.inr rfl, Or.inr rfl, Or.inr rfl, trivial⟩
        refine w_less ?_ (L102 _ h96 0 rfl FR96 (Nat.zero_le _) MK LN)
        exact ⟨Or.inr rfl, Or.inr rfl, Or.inr rfl, Or.inr rfl, Or.inr rfl, trivial⟩
    · refine w_iconst d284_16 (by decide) ?_
      refine w_istore4 d284_17 rfl ?_
      have L19 : ∀ (m19 : Nat) (g : Hp) (i : Nat), l.length - i = m19 → Fr S m [1683, 1685, 1677, 1686, 1687] h g → (i ≤ l.length) → (MkR S g m (juW r l i) []) → Wp G d 284 19 [some (vR (some m)), some (vR (some (sT S fd m))), some (vI (t : Nat)), some (vI (r : Nat)), some (vI (i : Nat))] [] g Q := by
        intro m19
        induction m19 using Nat.strongRecOn with | ind m19 IH19 => ?_
        intro g i hm19 FRg il MK
        have okg := FRg.ok
        have AL := AL_0.r FRg hm
        have DP := DfC.r (f := fd) FRg hm (by rcases hfd with rfl | rfl <;> decide) DP_0
        refine w_iload d284_19 rfl ?_
        refine w_aload_n d284_21 rfl ?_
        refine w_getI (x := ((l.length : Nat) : Int)) d284_22 (okg.kd hm) AL.1 ?_
        refine w_icmpge d284_25 (fun c25 => ?_) (fun c25 => ?_)
        · rw [show i = l.length by omega, juW_n] at MK
          refine w_goto d284_87 ?_
          refine w_return d284_372 ?_
          rw [if_pos (show r = 3 by omega)] at MK
          rw [show ruM r (tgW (tD P0.2.2 t)) ls l = upW l l.length by unfold ruM; rw [if_pos (show r = 3 by omega)]] at kk
          exact kk g FRg MK
        · have hi : i < l.length := by omega
          have rb := lt256 okg hm AL hi
          refine w_aload_n d284_28 rfl ?_
          refine w_iload_n d284_29 rfl ?_
          refine w_iconst d284_30 (by decide) ?_
          refine w_icmpne d284_31 (fun c31 => ?_) (fun c31 => ?_)
          · omega
          · refine w_aload_n d284_34 rfl ?_
            refine w_dloadS d284_35 (okg.kd hm) (fr1681 okg hm) ?_
            refine w_iload d284_38 rfl ?_
            refine w_ialoadV (x := ((l.getD (i) 0 : Nat) : Int)) d284_40 (by have := AL.2.g okg (k := i) (by omega); rwa [show (((0 : Nat) : Int) + ((i : Nat) : Int)) = ((i : Nat) : Int) by omega] at this) (AL.2.at0 (by omega)) ?_
            refine w_bipush d284_41 (by decide) ?_
            refine w_icmplt d284_43 (fun c43 => ?_) (fun c43 => ?_)
            · have ec : (if r = 3 then upC (l.getD i 0) else l.getD i 0) = l.getD i 0 := by split; (unfold upC; rw [if_neg (by omega)]); rfl
              refine w_aload_n d284_71 rfl ?_
              refine w_dloadS d284_72 (okg.kd hm) (fr1681 okg hm) ?_
              refine w_iload d284_75 rfl ?_
              refine w_ialoadV (x := ((l.getD (i) 0 : Nat) : Int)) d284_77 (by have := AL.2.g okg (k := i) (by omega); rwa [show (((0 : Nat) : Int) + ((i : Nat) : Int)) = ((i : Nat) : Int) by omega] at this) (AL.2.at0 (by omega)) ?_
              refine w_callv2 d284_78 (by omega) rfl (okg.kd hm) (by simp) (Nat.le_of_ble_eq_true rfl) ?_
              refine k_M_out (c := l.getD (i) 0) okg (by omega) hm MK (by omega) (fun h78 f78 MK => ?_)
              have ok78 := f78.ok
              have FR78 := Fr.tr (F := [1683, 1685, 1677, 1686, 1687]) FRg f78 (by decide) (by decide)
              have AL := AL.r f78 hm
              have DP := DfC.r (f := fd) f78 hm (by rcases hfd with rfl | rfl <;> decide) DP
              rw [← ec, ← juW_s hi] at MK
              refine w_iinc4 d284_81 rfl (by constructor <;> omega) ?_
              refine w_goto d284_84 ?_
              rw [show ((i : Nat) : Int) + 1 = ((i + 1 : Nat) : Int) by omega]
              refine w_less ?_ (IH19 _ (by omega) h78 (i + 1) rfl FR78 (by omega) MK)
              exact ⟨Or.inr rfl, Or.inr rfl, Or.inr rfl, Or.inr rfl, Or.inr rfl, trivial⟩
            · refine w_aload_n d284_46 rfl ?_
              refine w_dloadS d284_47 (okg.kd hm) (fr1681 okg hm) ?_
              refine w_iload d284_50 rfl ?_
              refine w_ialoadV (x := ((l.getD (i) 0 : Nat) : Int)) d284_52 (by have := AL.2.g okg (k := i) (by omega); rwa [show (((0 : Nat) : Int) + ((i : Nat) : Int)) = ((i : Nat) : Int) by omega] at this) (AL.2.at0 (by omega)) ?_
              refine w_bipush d284_53 (by decide) ?_
              refine w_icmpgt d284_55 (fun c55 => ?_) (fun c55 => ?_)
              · have ec : (if r = 3 then upC (l.getD i 0) else l.getD i 0) = l.getD i 0 := by split; (unfold upC; rw [if_neg (by omega)]); rfl
                refine w_aload_n d284_71 rfl ?_
                refine w_dloadS d284_72 (okg.kd hm) (fr1681 okg hm) ?_
                refine w_iload d284_75 rfl ?_
                refine w_ialoadV (x := ((l.getD (i) 0 : Nat) : Int)) d284_77 (by have := AL.2.g okg (k := i) (by omega); rwa [show (((0 : Nat) : Int) + ((i : Nat) : Int)) = ((i : Nat) : Int) by omega] at this) (AL.2.at0 (by omega)) ?_
                refine w_callv2 d284_78 (by omega) rfl (okg.kd hm) (by simp) (Nat.le_of_ble_eq_true rfl) ?_
                refine k_M_out (c := l.getD (i) 0) okg (by omega) hm MK (by omega) (fun h78 f78 MK => ?_)
                have ok78 := f78.ok
                have FR78 := Fr.tr (F := [1683, 1685, 1677, 1686, 1687]) FRg f78 (by decide) (by decide)
                have AL := AL.r f78 hm
                have DP := DfC.r (f := fd) f78 hm (by rcases hfd with rfl | rfl <;> decide) DP
                rw [← ec, ← juW_s hi] at MK
                refine w_iinc4 d284_81 rfl (by constructor <;> omega) ?_
                refine w_goto d284_84 ?_
                rw [show ((i : Nat) : Int) + 1 = ((i + 1 : Nat) : Int) by omega]
                refine w_less ?_ (IH19 _ (by omega) h78 (i + 1) rfl FR78 (by omega) MK)
                exact ⟨Or.inr rfl, Or.inr rfl, Or.inr rfl, Or.inr rfl, Or.inr rfl, trivial⟩
              · have ec : (if r = 3 then upC (l.getD i 0) else l.getD i 0) = l.getD i 0 - 32 := by rw [if_pos (show r = 3 by omega)]; unfold upC; rw [if_pos (by omega)]
                refine w_aload_n d284_58 rfl ?_
                refine w_dloadS d284_59 (okg.kd hm) (fr1681 okg hm) ?_
                refine w_iload d284_62 rfl ?_
                refine w_ialoadV (x := ((l.getD (i) 0 : Nat) : Int)) d284_64 (by have := AL.2.g okg (k := i) (by omega); rwa [show (((0 : Nat) : Int) + ((i : Nat) : Int)) = ((i : Nat) : Int) by omega] at this) (AL.2.at0 (by omega)) ?_
                refine w_bipush d284_65 (by decide) ?_
                refine w_isub d284_67 (by constructor <;> omega) ?_
                rw [show ((l.getD i 0 : Nat) : Int) - 32 = ((l.getD i 0 - 32 : Nat) : Int) by omega]
                refine w_goto d284_68 ?_
                refine w_callv2 d284_78 (by omega) rfl (okg.kd hm) (by simp) (Nat.le_of_ble_eq_true rfl) ?_
                refine k_M_out (c := (l.getD i 0 - 32)) okg (by omega) hm MK (by omega) (fun h78 f78 MK => ?_)
                have ok78 := f78.ok
                have FR78 := Fr.tr (F := [1683, 1685, 1677, 1686, 1687]) FRg f78 (by decide) (by decide)
                have AL := AL.r f78 hm
                have DP := DfC.r (f := fd) f78 hm (by rcases hfd with rfl | rfl <;> decide) DP
                rw [← ec, ← juW_s hi] at MK
                refine w_iinc4 d284_81 rfl (by constructor <;> omega) ?_
                refine w_goto d284_84 ?_
                rw [show ((i : Nat) : Int) + 1 = ((i + 1 : Nat) : Int) by omega]
                refine w_less ?_ (IH19 _ (by omega) h78 (i + 1) rfl FR78 (by omega) MK)
                exact ⟨Or.inr rfl, Or.inr rfl, Or.inr rfl, Or.inr rfl, Or.inr rfl, trivial⟩
      refine w_less ?_ (L19 _ h 0 rfl (Fr.refl ok) (Nat.zero_le _) (by rw [juW_0]; exact MK))
      exact ⟨Or.inr rfl, Or.inr rfl, Or.inr rfl, Or.inr rfl, Or.inr rfl, trivial⟩
