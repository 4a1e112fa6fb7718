/-! the house: refusals -/
/-- why a told request is refused: which text -/
def refN (t : Nat) (P : PlV) (rs : List RuV) (pu : Nat → OutV) (g : Bool) (n : List Nat) (D : TgV) (nu : Nat → Int) (ci : Bool) : Nat :=
  if t = 1 then (if fix P.1 n < 0 ∧ 16 ≤ P.1.length then 18 else 19) else if t = 2 then (if fix P.1 n < 0 then 29 else 19) else if t = 3 then (if gix P.2.1 n < 0 ∧ 6 ≤ P.2.1.length then 18 else 19)
  else if t = 4 then (if rix (tgR D) < 0 then 30 else if ¬ (rix (tgR D) = 4 ↔ tgW D ≠ []) then 31 else if tix P.2.2 (tgN D) < 0 ∧ 14 ≤ P.2.2.length then 18 else if ci = true then 32 else 19)
  else if t = 5 then (if tat P.2.2 n < 0 then 33 else 19) else if t = 6 then (if tat P.2.2 n < 0 then 33 else if g = true then 34 else 19) else if t = 7 ∨ t = 8 then (if g = true then 19 else 35) else if t = 9 then (if hpB pu (tix P.2.2 n) = true then 19 else 4)
  else if t = 10 then rfs nu 0 rs.length else if t = 11 then rfs nu 2 rs.length else if t = 12 then (if rs.length = 0 then 30 else 19) else 19
/-- the request's name, of the verbs that have one -/
def nmC (S : Shp) (h : Hp) (q t : Nat) (n : List Nat) : Prop := (t = 1 ∨ t = 2 ∨ t = 3 ∨ t = 5 ∨ t = 6 ∨ t = 9) → AL h (sT S 517 q) 0 = hd n ∧ AL h (sT S 518 q) 0 = tl n ∧ okP n ∧ (3 ≤ t → okN n)
theorem hd_ne {n : List Nat} (o : okN n) : hd n ≠ 0 ↔ n ≠ [] := by
  constructor
  · intro h z
    rw [z] at h
    exact h rfl
  · intro h z
    have e : hd n = hd [] := z
    exact h ((hd_inj o ⟨by decide, fun c hc => by cases hc⟩).mp e)
theorem d68_0 : dc 68 0 = some (.aload_n 0, 1) := by decide +kernel
theorem d68_1 : dc 68 1 = some (.dload 1282, 4) := by decide +kernel
theorem d68_4 : dc 68 4 = some (.dload 517, 7) := by decide +kernel
theorem d68_7 : dc 68 7 = some (.iconst 0, 8) := by decide +kernel
theorem d68_8 : dc 68 8 = some (.laload, 9) := by decide +kernel
theorem d68_9 : dc 68 9 = some (.lstore_n 1, 10) := by decide +kernel
theorem d68_10 : dc 68 10 = some (.aload_n 0, 11) := by decide +kernel
theorem d68_11 : dc 68 11 = some (.dload 1282, 14) := by decide +kernel
theorem d68_14 : dc 68 14 = some (.dload 524, 17) := by decide +kernel
theorem d68_17 : dc 68 17 = some (.astore_n 3, 18) := by decide +kernel
theorem d68_18 : dc 68 18 = some (.getstatic 40, 21) := by decide +kernel
theorem d68_21 : dc 68 21 = some (.aload_n 0, 22) := by decide +kernel
theorem d68_22 : dc 68 22 = some (.dload 1282, 25) := by decide +kernel
theorem d68_25 : dc 68 25 = some (.dload 514, 28) := by decide +kernel
theorem d68_28 : dc 68 28 = some (.invokestatic 2, 31) := by decide +kernel
theorem d68_31 : dc 68 31 = some (.iaload, 32) := by decide +kernel
theorem d68_32 : dc 68 32 = some (.tableswitch ((417 : Nat) : Int) 1 12 #[((96 : Nat) : Int), ((136 : Nat) : Int), ((165 : Nat) : Int), ((196 : Nat) : Int), ((261 : Nat) : Int), ((281 : Nat) : Int), ((317 : Nat) : Int), ((317 : Nat) : Int), ((336 : Nat) : Int), ((366 : Nat) : Int), ((382 : Nat) : Int), ((398 : Nat) : Int)], 96) := by decide +kernel
theorem d68_96 : dc 68 96 = some (.aload_n 0, 97) := by decide +kernel
theorem d68_97 : dc 68 97 = some (.dload 1284, 100) := by decide +kernel
theorem d68_100 : dc 68 100 = some (.lload_n 1, 101) := by decide +kernel
theorem d68_101 : dc 68 101 = some (.aload_n 0, 102) := by decide +kernel
theorem d68_102 : dc 68 102 = some (.dload 1282, 105) := by decide +kernel
theorem d68_105 : dc 68 105 = some (.dload 518, 108) := by decide +kernel
theorem d68_108 : dc 68 108 = some (.iconst 0, 109) := by decide +kernel
theorem d68_109 : dc 68 109 = some (.laload, 110) := by decide +kernel
theorem d68_110 : dc 68 110 = some (.invokevirtual 69, 113) := by decide +kernel
theorem d68_113 : dc 68 113 = some (.ifCond .ge ((133 : Nat) : Int), 116) := by decide +kernel
theorem d68_116 : dc 68 116 = some (.aload_n 0, 117) := by decide +kernel
theorem d68_117 : dc 68 117 = some (.dload 1284, 120) := by decide +kernel
theorem d68_120 : dc 68 120 = some (.getfield 384, 123) := by decide +kernel
theorem d68_123 : dc 68 123 = some (.bipush 16, 125) := by decide +kernel
theorem d68_125 : dc 68 125 = some (.if_icmp .lt ((133 : Nat) : Int), 128) := by decide +kernel
theorem d68_128 : dc 68 128 = some (.getstatic 68, 130) := by decide +kernel
theorem d68_130 : dc 68 130 = some (.goto ((135 : Nat) : Int), 133) := by decide +kernel
theorem d68_133 : dc 68 133 = some (.getstatic 69, 135) := by decide +kernel
theorem d68_135 : dc 68 135 = some (.areturn, 136) := by decide +kernel
theorem d68_136 : dc 68 136 = some (.aload_n 0, 137) := by decide +kernel
theorem d68_137 : dc 68 137 = some (.dload 1284, 140) := by decide +kernel
theorem d68_140 : dc 68 140 = some (.lload_n 1, 141) := by decide +kernel
theorem d68_141 : dc 68 141 = some (.aload_n 0, 142) := by decide +kernel
theorem d68_142 : dc 68 142 = some (.dload 1282, 145) := by decide +kernel
theorem d68_145 : dc 68 145 = some (.dload 518, 148) := by decide +kernel
theorem d68_148 : dc 68 148 = some (.iconst 0, 149) := by decide +kernel
theorem d68_149 : dc 68 149 = some (.laload, 150) := by decide +kernel
theorem d68_150 : dc 68 150 = some (.invokevirtual 69, 153) := by decide +kernel
theorem d68_153 : dc 68 153 = some (.ifCond .ge ((162 : Nat) : Int), 156) := by decide +kernel
theorem d68_156 : dc 68 156 = some (.getstatic 79, 159) := by decide +kernel
theorem d68_159 : dc 68 159 = some (.goto ((164 : Nat) : Int), 162) := by decide +kernel
theorem d68_162 : dc 68 162 = some (.getstatic 69, 164) := by decide +kernel
theorem d68_164 : dc 68 164 = some (.areturn, 165) := by decide +kernel
theorem d68_165 : dc 68 165 = some (.aload_n 0, 166) := by decide +kernel
theorem d68_166 : dc 68 166 = some (.dload 1284, 169) := by decide +kernel
theorem d68_169 : dc 68 169 = some (.lload_n 1, 170) := by decide +kernel
theorem d68_170 : dc 68 170 = some (.invokevirtual 70, 173) := by decide +kernel
theorem d68_173 : dc 68 173 = some (.ifCond .ge ((193 : Nat) : Int), 176) := by decide +kernel
theorem d68_176 : dc 68 176 = some (.aload_n 0, 177) := by decide +kernel
theorem d68_177 : dc 68 177 = some (.dload 1284, 180) := by decide +kernel
theorem d68_180 : dc 68 180 = some (.getfield 388, 183) := by decide +kernel
theorem d68_183 : dc 68 183 = some (.bipush 6, 185) := by decide +kernel
theorem d68_185 : dc 68 185 = some (.if_icmp .lt ((193 : Nat) : Int), 188) := by decide +kernel
theorem d68_188 : dc 68 188 = some (.getstatic 68, 190) := by decide +kernel
theorem d68_190 : dc 68 190 = some (.goto ((195 : Nat) : Int), 193) := by decide +kernel
theorem d68_193 : dc 68 193 = some (.getstatic 69, 195) := by decide +kernel
theorem d68_195 : dc 68 195 = some (.areturn, 196) := by decide +kernel
theorem d68_196 : dc 68 196 = some (.aload_n 3, 197) := by decide +kernel
theorem d68_197 : dc 68 197 = some (.invokevirtual 71, 200) := by decide +kernel
theorem d68_200 : dc 68 200 = some (.ifCond .ne ((209 : Nat) : Int), 203) := by decide +kernel
theorem d68_203 : dc 68 203 = some (.getstatic 80, 206) := by decide +kernel
theorem d68_206 : dc 68 206 = some (.goto ((260 : Nat) : Int), 209) := by decide +kernel
theorem d68_209 : dc 68 209 = some (.aload_n 3, 210) := by decide +kernel
theorem d68_210 : dc 68 210 = some (.invokevirtual 72, 213) := by decide +kernel
theorem d68_213 : dc 68 213 = some (.ifCond .ne ((222 : Nat) : Int), 216) := by decide +kernel
theorem d68_216 : dc 68 216 = some (.getstatic 81, 219) := by decide +kernel
theorem d68_219 : dc 68 219 = some (.goto ((260 : Nat) : Int), 222) := by decide +kernel
theorem d68_222 : dc 68 222 = some (.aload_n 0, 223) := by decide +kernel
theorem d68_223 : dc 68 223 = some (.dload 1284, 226) := by decide +kernel
theorem d68_226 : dc 68 226 = some (.aload_n 3, 227) := by decide +kernel
theorem d68_227 : dc 68 227 = some (.fload 129, 230) := by decide +kernel
theorem d68_230 : dc 68 230 = some (.invokevirtual 73, 233) := by decide +kernel
theorem d68_233 : dc 68 233 = some (.ifCond .eq ((241 : Nat) : Int), 236) := by decide +kernel
theorem d68_236 : dc 68 236 = some (.getstatic 68, 238) := by decide +kernel
theorem d68_238 : dc 68 238 = some (.goto ((260 : Nat) : Int), 241) := by decide +kernel
theorem d68_241 : dc 68 241 = some (.aload_n 0, 242) := by decide +kernel
theorem d68_242 : dc 68 242 = some (.dload 1284, 245) := by decide +kernel
theorem d68_245 : dc 68 245 = some (.aload_n 3, 246) := by decide +kernel
theorem d68_246 : dc 68 246 = some (.invokevirtual 75, 249) := by decide +kernel
theorem d68_249 : dc 68 249 = some (.ifCond .eq ((258 : Nat) : Int), 252) := by decide +kernel
theorem d68_252 : dc 68 252 = some (.getstatic 82, 255) := by decide +kernel
theorem d68_255 : dc 68 255 = some (.goto ((260 : Nat) : Int), 258) := by decide +kernel
theorem d68_258 : dc 68 258 = some (.getstatic 69, 260) := by decide +kernel
theorem d68_260 : dc 68 260 = some (.areturn, 261) := by decide +kernel
theorem d68_261 : dc 68 261 = some (.aload_n 0, 262) := by decide +kernel
theorem d68_262 : dc 68 262 = some (.dload 1284, 265) := by decide +kernel
theorem d68_265 : dc 68 265 = some (.lload_n 1, 266) := by decide +kernel
theorem d68_266 : dc 68 266 = some (.invokevirtual 79, 269) := by decide +kernel
theorem d68_269 : dc 68 269 = some (.ifCond .ge ((278 : Nat) : Int), 272) := by decide +kernel
theorem d68_272 : dc 68 272 = some (.getstatic 83, 275) := by decide +kernel
theorem d68_275 : dc 68 275 = some (.goto ((280 : Nat) : Int), 278) := by decide +kernel
theorem d68_278 : dc 68 278 = some (.getstatic 69, 280) := by decide +kernel
theorem d68_280 : dc 68 280 = some (.areturn, 281) := by decide +kernel
theorem d68_281 : dc 68 281 = some (.aload_n 0, 282) := by decide +kernel
theorem d68_282 : dc 68 282 = some (.dload 1284, 285) := by decide +kernel
theorem d68_285 : dc 68 285 = some (.lload_n 1, 286) := by decide +kernel
theorem d68_286 : dc 68 286 = some (.invokevirtual 79, 289) := by decide +kernel
theorem d68_289 : dc 68 289 = some (.ifCond .ge ((298 : Nat) : Int), 292) := by decide +kernel
theorem d68_292 : dc 68 292 = some (.getstatic 83, 295) := by decide +kernel
theorem d68_295 : dc 68 295 = some (.goto ((316 : Nat) : Int), 298) := by decide +kernel
theorem d68_298 : dc 68 298 = some (.aload_n 0, 299) := by decide +kernel
theorem d68_299 : dc 68 299 = some (.dload 1286, 302) := by decide +kernel
theorem d68_302 : dc 68 302 = some (.getfield 771, 305) := by decide +kernel
theorem d68_305 : dc 68 305 = some (.ifCond .eq ((314 : Nat) : Int), 308) := by decide +kernel
theorem d68_308 : dc 68 308 = some (.getstatic 84, 311) := by decide +kernel
theorem d68_311 : dc 68 311 = some (.goto ((316 : Nat) : Int), 314) := by decide +kernel
theorem d68_314 : dc 68 314 = some (.getstatic 69, 316) := by decide +kernel
theorem d68_316 : dc 68 316 = some (.areturn, 317) := by decide +kernel
theorem d68_317 : dc 68 317 = some (.aload_n 0, 318) := by decide +kernel
theorem d68_318 : dc 68 318 = some (.dload 1286, 321) := by decide +kernel
theorem d68_321 : dc 68 321 = some (.getfield 771, 324) := by decide +kernel
theorem d68_324 : dc 68 324 = some (.ifCond .eq ((332 : Nat) : Int), 327) := by decide +kernel
theorem d68_327 : dc 68 327 = some (.getstatic 69, 329) := by decide +kernel
theorem d68_329 : dc 68 329 = some (.goto ((335 : Nat) : Int), 332) := by decide +kernel
theorem d68_332 : dc 68 332 = some (.getstatic 85, 335) := by decide +kernel
theorem d68_335 : dc 68 335 = some (.areturn, 336) := by decide +kernel
theorem d68_336 : dc 68 336 = some (.aload_n 0, 337) := by decide +kernel
theorem d68_337 : dc 68 337 = some (.dload 1286, 340) := by decide +kernel
theorem d68_340 : dc 68 340 = some (.dload 769, 343) := by decide +kernel
theorem d68_343 : dc 68 343 = some (.aload_n 0, 344) := by decide +kernel
theorem d68_344 : dc 68 344 = some (.dload 1284, 347) := by decide +kernel
theorem d68_347 : dc 68 347 = some (.lload_n 1, 348) := by decide +kernel
theorem d68_348 : dc 68 348 = some (.invokevirtual 74, 351) := by decide +kernel
theorem d68_351 : dc 68 351 = some (.invokevirtual 80, 354) := by decide +kernel
theorem d68_354 : dc 68 354 = some (.ifCond .eq ((362 : Nat) : Int), 357) := by decide +kernel
theorem d68_357 : dc 68 357 = some (.getstatic 69, 359) := by decide +kernel
theorem d68_359 : dc 68 359 = some (.goto ((365 : Nat) : Int), 362) := by decide +kernel
theorem d68_362 : dc 68 362 = some (.getstatic 54, 365) := by decide +kernel
theorem d68_365 : dc 68 365 = some (.areturn, 366) := by decide +kernel
theorem d68_366 : dc 68 366 = some (.aload_n 0, 367) := by decide +kernel
theorem d68_367 : dc 68 367 = some (.dload 1285, 370) := by decide +kernel
theorem d68_370 : dc 68 370 = some (.aload_n 0, 371) := by decide +kernel
theorem d68_371 : dc 68 371 = some (.dload 1282, 374) := by decide +kernel
theorem d68_374 : dc 68 374 = some (.dload 520, 377) := by decide +kernel
theorem d68_377 : dc 68 377 = some (.iconst 0, 378) := by decide +kernel
theorem d68_378 : dc 68 378 = some (.invokevirtual 81, 381) := by decide +kernel
theorem d68_381 : dc 68 381 = some (.areturn, 382) := by decide +kernel
theorem d68_382 : dc 68 382 = some (.aload_n 0, 383) := by decide +kernel
theorem d68_383 : dc 68 383 = some (.dload 1285, 386) := by decide +kernel
theorem d68_386 : dc 68 386 = some (.aload_n 0, 387) := by decide +kernel
theorem d68_387 : dc 68 387 = some (.dload 1282, 390) := by decide +kernel
theorem d68_390 : dc 68 390 = some (.dload 520, 393) := by decide +kernel
theorem d68_393 : dc 68 393 = some (.iconst 2, 394) := by decide +kernel
theorem d68_394 : dc 68 394 = some (.invokevirtual 81, 397) := by decide +kernel
theorem d68_397 : dc 68 397 = some (.areturn, 398) := by decide +kernel
theorem d68_398 : dc 68 398 = some (.aload_n 0, 399) := by decide +kernel
theorem d68_399 : dc 68 399 = some (.dload 1285, 402) := by decide +kernel
theorem d68_402 : dc 68 402 = some (.getfield 1024, 405) := by decide +kernel
theorem d68_405 : dc 68 405 = some (.ifCond .ne ((414 : Nat) : Int), 408) := by decide +kernel
theorem d68_408 : dc 68 408 = some (.getstatic 80, 411) := by decide +kernel
theorem d68_411 : dc 68 411 = some (.goto ((416 : Nat) : Int), 414) := by decide +kernel
theorem d68_414 : dc 68 414 = some (.getstatic 69, 416) := by decide +kernel
theorem d68_416 : dc 68 416 = some (.areturn, 417) := by decide +kernel
theorem d68_417 : dc 68 417 = some (.getstatic 69, 419) := by decide +kernel
theorem d68_419 : dc 68 419 = some (.areturn, 420) := by decide +kernel
theorem k_Ho_refusal {S : Shp} {G : Nat → Option Nat} {d : Nat} {h : Hp} {Q : Option MV → Hp → Prop} (ok : Ok S h) (h1 : 5 ≤ d) (tg : Tg S G) {t : Nat} (ht35 : t < 35) (hvb : FR h 514 (sT S 1282 (sX S)) = G t) (ht12 : t ≤ 12) {P : PlV} {rs : List RuV} {pu : Nat → OutV} {pp : Nat → List Int64} {re : Nat → OutV} {ed : Nat → Nat → Nat} {ra : Nat → Nat} {ks : List (Int64 × OutV)} {g : Bool} {n0 : List Nat} {D : TgV} (pl : PlC S h (sT S 1284 (sX S)) P) (vc : VrC S h (sT S 1285 (sX S)) rs) (stc : StC S h (sT S 769 (sT S 1286 (sX S))) pu pp re ed ra ks) (hg : FI h 771 (sT S 1286 (sX S)) = b2i g) (hn0 : nmC S h (sT S 1282 (sX S)) t n0) (hD : t = 4 → DefC S h (sT S 524 (sT S 1282 (sX S))) D (tgTxt D))
    (kk : ∀ ci h', Mo S (fun y => y = sT S 393 (sT S 1284 (sX S))) h h' → (t = 4 → (refN t P rs pu g n0 D (AI h (sT S 520 (sT S 1282 (sX S)))) ci = 32 → circV P.2.2 D) ∧ (refN t P rs pu g n0 D (AI h (sT S 520 (sT S 1282 (sX S)))) ci = 19 → ¬ circV P.2.2 D)) → Q (some (vR (G (50 + refN t P rs pu g n0 D (AI h (sT S 520 (sT S 1282 (sX S)))) ci)))) h') : Cl G d 68 [vR (some (sX S))] h Q := by
  show Wp G d 68 0 [some (vR (some (sX S))), none, none, none] [] h Q
  obtain ⟨vb, g1, g2, g3, g4, g5, g6⟩ := tg.vb ok t ht35
  obtain ⟨sw, w1, w2, w3, w4⟩ := tg.sw ok
  have kq := kT1282 ok ok.kX
  have kp := kT1284 ok ok.kX
  have kv := kT1285 ok ok.kX
  have ks0 := kT1286 ok ok.kX
  have kdr := kT524 ok kq
  have fl384 : FI h 384 (sT S 1284 (sX S)) = ((P.1.length : Nat) : Int) := (by obtain ⟨σ, z1, z2, z3, z4⟩ := pl.1; exact z3)
  refine w_aload_n d68_0 rfl ?_
  refine w_dloadS d68_1 (ok.kd ok.kX) (fr1282 ok ok.kX) ?_
  refine w_dloadS d68_4 (ok.kd (kT1282 ok ok.kX)) (fr517 ok (kT1282 ok ok.kX)) ?_
  refine w_iconst d68_7 (by decide) ?_
  refine w_laloadV (x := (AL h (sT S 517 (sT S 1282 (sX S))) 0)) d68_8 (gi517 ok (kT1282 ok ok.kX) (by omega)) rfl ?_
  refine w_lstore1 d68_9 rfl ?_
  refine w_aload_n d68_10 rfl ?_
  refine w_dloadS d68_11 (ok.kd ok.kX) (fr1282 ok ok.kX) ?_
  refine w_dloadS d68_14 (ok.kd (kT1282 ok ok.kX)) (fr524 ok (kT1282 ok ok.kX)) ?_
  refine w_astore3 d68_17 rfl ?_
  refine w_getstaticS d68_18 w1 ?_
  refine w_aload_n d68_21 rfl ?_
  refine w_dloadS d68_22 (ok.kd ok.kX) (fr1282 ok ok.kX) ?_
  refine w_dloadS d68_25 (ok.kd (kT1282 ok ok.kX)) (hvb.trans g1) ?_
  refine w_ordinal d68_28 ⟨g2, by simp, by omega⟩ ?_
  rw [g3]
  refine w_ialoadV (x := ((swB.getD t 0 : Nat) : Int)) d68_31 ⟨by rw [w2]; decide, by rw [w3]; exact ⟨by omega, by omega⟩⟩ (w4 t ht35) ?_
  by_cases s1 : t = 1
  · refine w_tsw 96 d68_32 (by rw [s1]; decide) ?_
    refine w_aload_n d68_96 rfl ?_
    refine w_dloadS d68_97 (ok.kd ok.kX) (fr1284 ok ok.kX) ?_
    refine w_lload_n d68_100 rfl ?_
    refine w_aload_n d68_101 rfl ?_
    refine w_dloadS d68_102 (ok.kd ok.kX) (fr1282 ok ok.kX) ?_
    refine w_dloadS d68_105 (ok.kd (kT1282 ok ok.kX)) (fr518 ok (kT1282 ok ok.kX)) ?_
    refine w_iconst d68_108 (by decide) ?_
    refine w_laloadV (x := (AL h (sT S 518 (sT S 1282 (sX S))) 0)) d68_109 (gi518 ok (kT1282 ok ok.kX) (by omega)) rfl ?_
    refine w_callv3 d68_110 (by omega) rfl (ok.kd (kT1284 ok ok.kX)) (by simp) (Nat.le_of_ble_eq_true rfl) ?_
    obtain ⟨hx, hy, ho, hoN⟩ := hn0 (by omega)
    have fr := fix_rg P.1 n0
    refine k_Plan_fileAt ok (by omega) kp pl.1 ?_
    rw [hx, hy, fixJ_eq pl.1.okp ho]
    refine w_ifge d68_113 (fun c113 => ?_) (fun c113 => ?_)
    · obtain ⟨g133, v133, s133⟩ := tg.tx ok 19 (by decide)
      refine w_getstaticS d68_133 v133 ?_
      refine w_areturn d68_135 ?_
      have e : refN t P rs pu g n0 D (AI h (sT S 520 (sT S 1282 (sX S)))) false = 19 := by unfold refN; rw [if_pos (by omega), if_neg (by omega)]
      have kq := kk false h (Mo.refl ok) (fun z => absurd z (by omega))
      rw [e] at kq
      rw [v133] at kq
      exact kq
    · refine w_aload_n d68_116 rfl ?_
      refine w_dloadS d68_117 (ok.kd ok.kX) (fr1284 ok ok.kX) ?_
      refine w_getI (x := ((P.1.length : Nat) : Int)) d68_120 (ok.kd (kT1284 ok ok.kX)) fl384 ?_
      refine w_bipush d68_123 (by decide) ?_
      refine w_icmplt d68_125 (fun c125 => ?_) (fun c125 => ?_)
      · obtain ⟨g133, v133, s133⟩ := tg.tx ok 19 (by decide)
        refine w_getstaticS d68_133 v133 ?_
        refine w_areturn d68_135 ?_
        have e : refN t P rs pu g n0 D (AI h (sT S 520 (sT S 1282 (sX S)))) false = 19 := by unfold refN; rw [if_pos (by omega), if_neg (by omega)]
        have kq := kk false h (Mo.refl ok) (fun z => absurd z (by omega))
        rw [e] at kq
        rw [v133] at kq
        exact kq
      · obtain ⟨g128, v128, s128⟩ := tg.tx ok 18 (by decide)
        refine w_getstaticS d68_128 v128 ?_
        refine w_goto d68_130 ?_
        refine w_areturn d68_135 ?_
        have e : refN t P rs pu g n0 D (AI h (sT S 520 (sT S 1282 (sX S)))) false = 18 := by unfold refN; rw [if_pos (by omega), if_pos ⟨by omega, by omega⟩]
        have kq := kk false h (Mo.refl ok) (fun z => absurd z (by omega))
        rw [e] at kq
        rw [v128] at kq
        exact kq
  by_cases s2 : t = 2
  · refine w_tsw 136 d68_32 (by rw [s2]; decide) ?_
    refine w_aload_n d68_136 rfl ?_
    refine w_dloadS d68_137 (ok.kd ok.kX) (fr1284 ok ok.kX) ?_
    refine w_lload_n d68_140 rfl ?_
    refine w_aload_n d68_141 rfl ?_
    refine w_dloadS d68_142 (ok.kd ok.kX) (fr1282 ok ok.kX) ?_
    refine w_dloadS d68_145 (ok.kd (kT1282 ok ok.kX)) (fr518 ok (kT1282 ok ok.kX)) ?_
    refine w_iconst d68_148 (by decide) ?_
    refine w_laloadV (x := (AL h (sT S 518 (sT S 1282 (sX S))) 0)) d68_149 (gi518 ok (kT1282 ok ok.kX) (by omega)) rfl ?_
    refine w_callv3 d68_150 (by omega) rfl (ok.kd (kT1284 ok ok.kX)) (by simp) (Nat.le_of_ble_eq_true rfl) ?_
    obtain ⟨hx, hy, ho, hoN⟩ := hn0 (by omega)
    have fr := fix_rg P.1 n0
    refine k_Plan_fileAt ok (by omega) kp pl.1 ?_
    rw [hx, hy, fixJ_eq pl.1.okp ho]
    refine w_ifge d68_153 (fun c153 => ?_) (fun c153 => ?_)
    · obtain ⟨g162, v162, s162⟩ := tg.tx ok 19 (by decide)
      refine w_getstaticS d68_162 v162 ?_
      refine w_areturn d68_164 ?_
      have e : refN t P rs pu g n0 D (AI h (sT S 520 (sT S 1282 (sX S)))) false = 19 := by unfold refN; rw [if_neg (by omega), if_pos (by omega), if_neg (by omega)]
      have kq := kk false h (Mo.refl ok) (fun z => absurd z (by omega))
      rw [e] at kq
      rw [v162] at kq
      exact kq
    · obtain ⟨g156, v156, s156⟩ := tg.tx ok 29 (by decide)
      refine w_getstaticS d68_156 v156 ?_
      refine w_goto d68_159 ?_
      refine w_areturn d68_164 ?_
      have e : refN t P rs pu g n0 D (AI h (sT S 520 (sT S 1282 (sX S)))) false = 29 := by unfold refN; rw [if_neg (by omega), if_pos (by omega), if_pos (by omega)]
      have kq := kk false h (Mo.refl ok) (fun z => absurd z (by omega))
      rw [e] at kq
      rw [v156] at kq
      exact kq
  by_cases s3 : t = 3
  · refine w_tsw 165 d68_32 (by rw [s3]; decide) ?_
    refine w_aload_n d68_165 rfl ?_
    refine w_dloadS d68_166 (ok.kd ok.kX) (fr1284 ok ok.kX) ?_
    refine w_lload_n d68_169 rfl ?_
    refine w_callv2 d68_170 (by omega) rfl (ok.kd (kT1284 ok ok.kX)) (by simp) (Nat.le_of_ble_eq_true rfl) ?_
    obtain ⟨hx, hy, ho, hoN⟩ := hn0 (by omega)
    refine k_Plan_flagAt ok (by omega) kp pl.2.1 ?_
    rw [hx, gixJ_eq pl.2.1.okn (hoN (by omega))]
    refine w_ifge d68_173 (fun c173 => ?_) (fun c173 => ?_)
    · obtain ⟨g193, v193, s193⟩ := tg.tx ok 19 (by decide)
      refine w_getstaticS d68_193 v193 ?_
      refine w_areturn d68_195 ?_
      have e : refN t P rs pu g n0 D (AI h (sT S 520 (sT S 1282 (sX S)))) false = 19 := by unfold refN; rw [if_neg (by omega), if_neg (by omega), if_pos (by omega), if_neg (by omega)]
      have kq := kk false h (Mo.refl ok) (fun z => absurd z (by omega))
      rw [e] at kq
      rw [v193] at kq
      exact kq
    · refine w_aload_n d68_176 rfl ?_
      refine w_dloadS d68_177 (ok.kd ok.kX) (fr1284 ok ok.kX) ?_
      refine w_getI (x := ((P.2.1.length : Nat) : Int)) d68_180 (ok.kd (kT1284 ok ok.kX)) pl.2.1.1 ?_
      refine w_bipush d68_183 (by decide) ?_
      refine w_icmplt d68_185 (fun c185 => ?_) (fun c185 => ?_)
      · obtain ⟨g193, v193, s193⟩ := tg.tx ok 19 (by decide)
        refine w_getstaticS d68_193 v193 ?_
        refine w_areturn d68_195 ?_
        have e : refN t P rs pu g n0 D (AI h (sT S 520 (sT S 1282 (sX S)))) false = 19 := by unfold refN; rw [if_neg (by omega), if_neg (by omega), if_pos (by omega), if_neg (by omega)]
        have kq := kk false h (Mo.refl ok) (fun z => absurd z (by omega))
        rw [e] at kq
        rw [v193] at kq
        exact kq
      · obtain ⟨g188, v188, s188⟩ := tg.tx ok 18 (by decide)
        refine w_getstaticS d68_188 v188 ?_
        refine w_goto d68_190 ?_
        refine w_areturn d68_195 ?_
        have e : refN t P rs pu g n0 D (AI h (sT S 520 (sT S 1282 (sX S)))) false = 18 := by unfold refN; rw [if_neg (by omega), if_neg (by omega), if_pos (by omega), if_pos ⟨by omega, by omega⟩]
        have kq := kk false h (Mo.refl ok) (fun z => absurd z (by omega))
        rw [e] at kq
        rw [v188] at kq
        exact kq
  by_cases s4 : t = 4
  · refine w_tsw 196 d68_32 (by rw [s4]; decide) ?_
    refine w_aload_n d68_196 rfl ?_
    refine w_callv1 d68_197 (by omega) rfl (ok.kd (kT524 ok (kT1282 ok ok.kX))) (by simp) (Nat.le_of_ble_eq_true rfl) ?_
    have DD := hD (by omega)
    refine k_Def_hasRule ok (by omega) kdr ?_
    rw [DD.2.2.1]
    refine w_ifne d68_200 (fun c200 => ?_) (fun c200 => ?_)
    · have n1 : ¬ rix (tgR D) < 0 := fun z => by rw [if_neg (by omega)] at c200; exact absurd rfl c200
      refine w_aload_n d68_209 rfl ?_
      refine w_callv1 d68_210 (by omega) rfl (ok.kd (kT524 ok (kT1282 ok ok.kX))) (by simp) (Nat.le_of_ble_eq_true rfl) ?_
      refine k_Def_hasItsWord ok (by omega) kdr ?_
      rw [DD.2.2.1, DD.2.2.2.1]
      refine w_ifne d68_213 (fun c213 => ?_) (fun c213 => ?_)
      · have n2 : ¬ ¬ (rix (tgR D) = 4 ↔ tgW D ≠ []) := fun z => by rw [if_neg (fun w => z (w.trans (hd_ne DD.2.2.2.2.2.2.2.2.2.2.2.1)))] at c213; exact absurd rfl c213
        refine w_aload_n d68_222 rfl ?_
        refine w_dloadS d68_223 (ok.kd ok.kX) (fr1284 ok ok.kX) ?_
        refine w_aload_n d68_226 rfl ?_
        refine w_floadV (x := (hd (tgN D))) d68_227 (ok.kd (kT524 ok (kT1282 ok ok.kX))) DD.1 ?_
        refine w_callv2 d68_230 (by omega) rfl (ok.kd (kT1284 ok ok.kX)) (by simp) (Nat.le_of_ble_eq_true rfl) ?_
        refine k_Plan_hasNoRoom ok (by omega) kp pl.2.2 ?_
        rw [tixJ_eq pl.2.2.okn DD.2.2.2.2.2.2.2.2.2.1]
        refine w_ifeq d68_233 (fun c233 => ?_) (fun c233 => ?_)
        · have n3 : ¬ (tix P.2.2 (tgN D) < 0 ∧ 14 ≤ P.2.2.length) := fun z => by rw [if_pos z] at c233; exact absurd c233 (by decide)
          refine w_aload_n d68_241 rfl ?_
          refine w_dloadS d68_242 (ok.kd ok.kX) (fr1284 ok ok.kX) ?_
          refine w_aload_n d68_245 rfl ?_
          refine w_callv2 d68_246 (by omega) rfl (ok.kd (kT1284 ok ok.kX)) (by simp) (Nat.le_of_ble_eq_true rfl) ?_
          refine k_Plan_wouldCircle ok (by omega) kp kdr pl.2.2 DD (fun u => ok.so.sib (f := 1282) (g := 1284) (x := sX S) (by decide) (by decide) (by decide) (U_trans (ok.so.uT (by decide) U_refl) u) U_refl) (fun h246 b m246 e246_1 => ?_)
          have ok246 := m246.ok
          have M246 := Mo.tr ok (Mo.refl (A := (fun ζ => ζ = (sT S 393 (sT S 1284 (sX S))))) ok) m246 (fun ζ e => e)
          refine w_ifeq d68_249 (fun c249 => ?_) (fun c249 => ?_)
          · have bf : b = false := by cases z : b with
              | true => rw [z] at c249; exact absurd c249 (by decide)
              | false => rfl
            obtain ⟨g258, v258, s258⟩ := tg.tx ok246 19 (by decide)
            refine w_getstaticS d68_258 v258 ?_
            refine w_areturn d68_260 ?_
            have e : refN t P rs pu g n0 D (AI h (sT S 520 (sT S 1282 (sX S)))) b = 19 := by unfold refN; rw [if_neg (by omega), if_neg (by omega), if_neg (by omega), if_pos (by omega), if_neg n1, if_neg n2, if_neg n3, if_neg (by rw [bf]; decide)]
            have kq := kk b h246 M246 (fun _ => by rw [e]; exact ⟨fun w => absurd w (by decide), fun _ z => by rw [e246_1.mpr z] at bf; exact absurd bf (by decide)⟩)
            rw [e] at kq
            rw [v258] at kq
            exact kq
          · have bt : b = true := by cases z : b with
              | true => rfl
              | false => rw [z] at c249; exact absurd rfl c249
            obtain ⟨g252, v252, s252⟩ := tg.tx ok246 32 (by decide)
            refine w_getstaticS d68_252 v252 ?_
            refine w_goto d68_255 ?_
            refine w_areturn d68_260 ?_
            have e : refN t P rs pu g n0 D (AI h (sT S 520 (sT S 1282 (sX S)))) b = 32 := by unfold refN; rw [if_neg (by omega), if_neg (by omega), if_neg (by omega), if_pos (by omega), if_neg n1, if_neg n2, if_neg n3, if_pos bt]
            have kq := kk b h246 M246 (fun _ => by rw [e]; exact ⟨fun _ => e246_1.mp bt, fun w => absurd w (by decide)⟩)
            rw [e] at kq
            rw [v252] at kq
            exact kq
        · have n3 : tix P.2.2 (tgN D) < 0 ∧ 14 ≤ P.2.2.length := by by_cases z : tix P.2.2 (tgN D) < 0 ∧ 14 ≤ P.2.2.length; exact z; rw [if_neg z] at c233; exact absurd rfl c233
          obtain ⟨g236, v236, s236⟩ := tg.tx ok 18 (by decide)
          refine w_getstaticS d68_236 v236 ?_
          refine w_goto d68_238 ?_
          refine w_areturn d68_260 ?_
          have e : refN t P rs pu g n0 D (AI h (sT S 520 (sT S 1282 (sX S)))) false = 18 := by unfold refN; rw [if_neg (by omega), if_neg (by omega), if_neg (by omega), if_pos (by omega), if_neg n1, if_neg n2, if_pos n3]
          have kq := kk false h (Mo.refl ok) (fun z => (by rw [e]; exact ⟨fun w => absurd w (by decide), fun w => absurd w (by decide)⟩))
          rw [e] at kq
          rw [v236] at kq
          exact kq
      · have n2 : ¬ (rix (tgR D) = 4 ↔ tgW D ≠ []) := fun z => by rw [if_pos (z.trans (hd_ne DD.2.2.2.2.2.2.2.2.2.2.2.1).symm)] at c213; exact absurd c213 (by decide)
        obtain ⟨g216, v216, s216⟩ := tg.tx ok 31 (by decide)
        refine w_getstaticS d68_216 v216 ?_
        refine w_goto d68_219 ?_
        refine w_areturn d68_260 ?_
        have e : refN t P rs pu g n0 D (AI h (sT S 520 (sT S 1282 (sX S)))) false = 31 := by unfold refN; rw [if_neg (by omega), if_neg (by omega), if_neg (by omega), if_pos (by omega), if_neg n1, if_pos n2]
        have kq := kk false h (Mo.refl ok) (fun z => (by rw [e]; exact ⟨fun w => absurd w (by decide), fun w => absurd w (by decide)⟩))
        rw [e] at kq
        rw [v216] at kq
        exact kq
    · have n1 : rix (tgR D) < 0 := by by_cases z : 0 ≤ rix (tgR D); rw [if_pos z] at c200; exact absurd c200 (by decide); omega
      obtain ⟨g203, v203, s203⟩ := tg.tx ok 30 (by decide)
      refine w_getstaticS d68_203 v203 ?_
      refine w_goto d68_206 ?_
      refine w_areturn d68_260 ?_
      have e : refN t P rs pu g n0 D (AI h (sT S 520 (sT S 1282 (sX S)))) false = 30 := by unfold refN; rw [if_neg (by omega), if_neg (by omega), if_neg (by omega), if_pos (by omega), if_pos n1]
      have kq := kk false h (Mo.refl ok) (fun z => (by rw [e]; exact ⟨fun w => absurd w (by decide), fun w => absurd w (by decide)⟩))
      rw [e] at kq
      rw [v203] at kq
      exact kq
  by_cases s5 : t = 5
  · refine w_tsw 261 d68_32 (by rw [s5]; decide) ?_
    refine w_aload_n d68_261 rfl ?_
    refine w_dloadS d68_262 (ok.kd ok.kX) (fr1284 ok ok.kX) ?_
    refine w_lload_n d68_265 rfl ?_
    refine w_callv2 d68_266 (by omega) rfl (ok.kd (kT1284 ok ok.kX)) (by simp) (Nat.le_of_ble_eq_true rfl) ?_
    obtain ⟨hx, hy, ho, hoN⟩ := hn0 (by omega)
    refine k_Plan_targetAt ok (by omega) kp pl.2.2 ?_
    rw [hx, tatJ_eq pl.2.2.okn (hoN (by omega))]
    refine w_ifge d68_269 (fun c269 => ?_) (fun c269 => ?_)
    · obtain ⟨g278, v278, s278⟩ := tg.tx ok 19 (by decide)
      refine w_getstaticS d68_278 v278 ?_
      refine w_areturn d68_280 ?_
      have e : refN t P rs pu g n0 D (AI h (sT S 520 (sT S 1282 (sX S)))) false = 19 := by unfold refN; rw [if_neg (by omega), if_neg (by omega), if_neg (by omega), if_neg (by omega), if_pos (by omega), if_neg (by omega)]
      have kq := kk false h (Mo.refl ok) (fun z => absurd z (by omega))
      rw [e] at kq
      rw [v278] at kq
      exact kq
    · obtain ⟨g272, v272, s272⟩ := tg.tx ok 33 (by decide)
      refine w_getstaticS d68_272 v272 ?_
      refine w_goto d68_275 ?_
      refine w_areturn d68_280 ?_
      have e : refN t P rs pu g n0 D (AI h (sT S 520 (sT S 1282 (sX S)))) false = 33 := by unfold refN; rw [if_neg (by omega), if_neg (by omega), if_neg (by omega), if_neg (by omega), if_pos (by omega), if_pos (by omega)]
      have kq := kk false h (Mo.refl ok) (fun z => absurd z (by omega))
      rw [e] at kq
      rw [v272] at kq
      exact kq
  by_cases s6 : t = 6
  · refine w_tsw 281 d68_32 (by rw [s6]; decide) ?_
    refine w_aload_n d68_281 rfl ?_
    refine w_dloadS d68_282 (ok.kd ok.kX) (fr1284 ok ok.kX) ?_
    refine w_lload_n d68_285 rfl ?_
    refine w_callv2 d68_286 (by omega) rfl (ok.kd (kT1284 ok ok.kX)) (by simp) (Nat.le_of_ble_eq_true rfl) ?_
    obtain ⟨hx, hy, ho, hoN⟩ := hn0 (by omega)
    refine k_Plan_targetAt ok (by omega) kp pl.2.2 ?_
    rw [hx, tatJ_eq pl.2.2.okn (hoN (by omega))]
    refine w_ifge d68_289 (fun c289 => ?_) (fun c289 => ?_)
    · refine w_aload_n d68_298 rfl ?_
      refine w_dloadS d68_299 (ok.kd ok.kX) (fr1286 ok ok.kX) ?_
      refine w_getI (x := (b2i g)) d68_302 (ok.kd (kT1286 ok ok.kX)) hg ?_
      refine w_ifeq d68_305 (fun c305 => ?_) (fun c305 => ?_)
      · have gf : ¬ g = true := fun z => by rw [z] at c305; exact absurd c305 (by decide)
        obtain ⟨g314, v314, s314⟩ := tg.tx ok 19 (by decide)
        refine w_getstaticS d68_314 v314 ?_
        refine w_areturn d68_316 ?_
        have e : refN t P rs pu g n0 D (AI h (sT S 520 (sT S 1282 (sX S)))) false = 19 := by unfold refN; rw [if_neg (by omega), if_neg (by omega), if_neg (by omega), if_neg (by omega), if_neg (by omega), if_pos (by omega), if_neg (by omega), if_neg gf]
        have kq := kk false h (Mo.refl ok) (fun z => absurd z (by omega))
        rw [e] at kq
        rw [v314] at kq
        exact kq
      · have gt : g = true := by cases z : g with
          | true => rfl
          | false => rw [z] at c305; exact absurd rfl c305
        obtain ⟨g308, v308, s308⟩ := tg.tx ok 34 (by decide)
        refine w_getstaticS d68_308 v308 ?_
        refine w_goto d68_311 ?_
        refine w_areturn d68_316 ?_
        have e : refN t P rs pu g n0 D (AI h (sT S 520 (sT S 1282 (sX S)))) false = 34 := by unfold refN; rw [if_neg (by omega), if_neg (by omega), if_neg (by omega), if_neg (by omega), if_neg (by omega), if_pos (by omega), if_neg (by omega), if_pos gt]
        have kq := kk false h (Mo.refl ok) (fun z => absurd z (by omega))
        rw [e] at kq
        rw [v308] at kq
        exact kq
    · obtain ⟨g292, v292, s292⟩ := tg.tx ok 33 (by decide)
      refine w_getstaticS d68_292 v292 ?_
      refine w_goto d68_295 ?_
      refine w_areturn d68_316 ?_
      have e : refN t P rs pu g n0 D (AI h (sT S 520 (sT S 1282 (sX S)))) false = 33 := by unfold refN; rw [if_neg (by omega), if_neg (by omega), if_neg (by omega), if_neg (by omega), if_neg (by omega), if_pos (by omega), if_pos (by omega)]
      have kq := kk false h (Mo.refl ok) (fun z => absurd z (by omega))
      rw [e] at kq
      rw [v292] at kq
      exact kq
  by_cases s7 : t = 7
  · refine w_tsw 317 d68_32 (by rw [s7]; decide) ?_
    refine w_aload_n d68_317 rfl ?_
    refine w_dloadS d68_318 (ok.kd ok.kX) (fr1286 ok ok.kX) ?_
    refine w_getI (x := (b2i g)) d68_321 (ok.kd (kT1286 ok ok.kX)) hg ?_
    refine w_ifeq d68_324 (fun c324 => ?_) (fun c324 => ?_)
    · have gf : ¬ g = true := fun z => by rw [z] at c324; exact absurd c324 (by decide)
      obtain ⟨g332, v332, s332⟩ := tg.tx ok 35 (by decide)
      refine w_getstaticS d68_332 v332 ?_
      refine w_areturn d68_335 ?_
      have e : refN t P rs pu g n0 D (AI h (sT S 520 (sT S 1282 (sX S)))) false = 35 := by unfold refN; rw [if_neg (by omega), if_neg (by omega), if_neg (by omega), if_neg (by omega), if_neg (by omega), if_neg (by omega), if_pos (by omega), if_neg gf]
      have kq := kk false h (Mo.refl ok) (fun z => absurd z (by omega))
      rw [e] at kq
      rw [v332] at kq
      exact kq
    · have gt : g = true := by cases z : g with
        | true => rfl
        | false => rw [z] at c324; exact absurd rfl c324
      obtain ⟨g327, v327, s327⟩ := tg.tx ok 19 (by decide)
      refine w_getstaticS d68_327 v327 ?_
      refine w_goto d68_329 ?_
      refine w_areturn d68_335 ?_
      have e : refN t P rs pu g n0 D (AI h (sT S 520 (sT S 1282 (sX S)))) false = 19 := by unfold refN; rw [if_neg (by omega), if_neg (by omega), if_neg (by omega), if_neg (by omega), if_neg (by omega), if_neg (by omega), if_pos (by omega), if_pos gt]
      have kq := kk false h (Mo.refl ok) (fun z => absurd z (by omega))
      rw [e] at kq
      rw [v327] at kq
      exact kq
  by_cases s8 : t = 8
  · refine w_tsw 317 d68_32 (by rw [s8]; decide) ?_
    refine w_aload_n d68_317 rfl ?_
    refine w_dloadS d68_318 (ok.kd ok.kX) (fr1286 ok ok.kX) ?_
    refine w_getI (x := (b2i g)) d68_321 (ok.kd (kT1286 ok ok.kX)) hg ?_
    refine w_ifeq d68_324 (fun c324 => ?_) (fun c324 => ?_)
    · have gf : ¬ g = true := fun z => by rw [z] at c324; exact absurd c324 (by decide)
      obtain ⟨g332, v332, s332⟩ := tg.tx ok 35 (by decide)
      refine w_getstaticS d68_332 v332 ?_
      refine w_areturn d68_335 ?_
      have e : refN t P rs pu g n0 D (AI h (sT S 520 (sT S 1282 (sX S)))) false = 35 := by unfold refN; rw [if_neg (by omega), if_neg (by omega), if_neg (by omega), if_neg (by omega), if_neg (by omega), if_neg (by omega), if_pos (by omega), if_neg gf]
      have kq := kk false h (Mo.refl ok) (fun z => absurd z (by omega))
      rw [e] at kq
      rw [v332] at kq
      exact kq
    · have gt : g = true := by cases z : g with
        | true => rfl
        | false => rw [z] at c324; exact absurd rfl c324
      obtain ⟨g327, v327, s327⟩ := tg.tx ok 19 (by decide)
      refine w_getstaticS d68_327 v327 ?_
      refine w_goto d68_329 ?_
      refine w_areturn d68_335 ?_
      have e : refN t P rs pu g n0 D (AI h (sT S 520 (sT S 1282 (sX S)))) false = 19 := by unfold refN; rw [if_neg (by omega), if_neg (by omega), if_neg (by omega), if_neg (by omega), if_neg (by omega), if_neg (by omega), if_pos (by omega), if_pos gt]
      have kq := kk false h (Mo.refl ok) (fun z => absurd z (by omega))
      rw [e] at kq
      rw [v327] at kq
      exact kq
  by_cases s9 : t = 9
  · refine w_tsw 336 d68_32 (by rw [s9]; decide) ?_
    refine w_aload_n d68_336 rfl ?_
    refine w_dloadS d68_337 (ok.kd ok.kX) (fr1286 ok ok.kX) ?_
    refine w_dloadS d68_340 (ok.kd (kT1286 ok ok.kX)) (fr769 ok (kT1286 ok ok.kX)) ?_
    refine w_aload_n d68_343 rfl ?_
    refine w_dloadS d68_344 (ok.kd ok.kX) (fr1284 ok ok.kX) ?_
    refine w_lload_n d68_347 rfl ?_
    refine w_callv2 d68_348 (by omega) rfl (ok.kd (kT1284 ok ok.kX)) (by simp) (Nat.le_of_ble_eq_true rfl) ?_
    obtain ⟨hx, hy, ho, hoN⟩ := hn0 (by omega)
    refine k_Plan_numberOf ok (by omega) kp pl.2.2 ?_
    rw [hx, tixJ_eq pl.2.2.okn (hoN (by omega))]
    refine w_callv2 d68_351 (by omega) rfl (ok.kd (kT769 ok (kT1286 ok ok.kX))) (by simp) (Nat.le_of_ble_eq_true rfl) ?_
    refine k_St_hasPut ok (by omega) (kT769 ok ks0) stc ?_
    refine w_ifeq d68_354 (fun c354 => ?_) (fun c354 => ?_)
    · have hp : ¬ hpB pu (tix P.2.2 n0) = true := fun z => by rw [z] at c354; exact absurd c354 (by decide)
      obtain ⟨g362, v362, s362⟩ := tg.tx ok 4 (by decide)
      refine w_getstaticS d68_362 v362 ?_
      refine w_areturn d68_365 ?_
      have e : refN t P rs pu g n0 D (AI h (sT S 520 (sT S 1282 (sX S)))) false = 4 := by unfold refN; rw [if_neg (by omega), if_neg (by omega), if_neg (by omega), if_neg (by omega), if_neg (by omega), if_neg (by omega), if_neg (by omega), if_pos (by omega), if_neg hp]
      have kq := kk false h (Mo.refl ok) (fun z => absurd z (by omega))
      rw [e] at kq
      rw [v362] at kq
      exact kq
    · have hp : hpB pu (tix P.2.2 n0) = true := by cases z : hpB pu (tix P.2.2 n0) with
        | true => rfl
        | false => rw [z] at c354; exact absurd rfl c354
      obtain ⟨g357, v357, s357⟩ := tg.tx ok 19 (by decide)
      refine w_getstaticS d68_357 v357 ?_
      refine w_goto d68_359 ?_
      refine w_areturn d68_365 ?_
      have e : refN t P rs pu g n0 D (AI h (sT S 520 (sT S 1282 (sX S)))) false = 19 := by unfold refN; rw [if_neg (by omega), if_neg (by omega), if_neg (by omega), if_neg (by omega), if_neg (by omega), if_neg (by omega), if_neg (by omega), if_pos (by omega), if_pos hp]
      have kq := kk false h (Mo.refl ok) (fun z => absurd z (by omega))
      rw [e] at kq
      rw [v357] at kq
      exact kq
  by_cases s10 : t = 10
  · refine w_tsw 366 d68_32 (by rw [s10]; decide) ?_
    refine w_aload_n d68_366 rfl ?_
    refine w_dloadS d68_367 (ok.kd ok.kX) (fr1285 ok ok.kX) ?_
    refine w_aload_n d68_370 rfl ?_
    refine w_dloadS d68_371 (ok.kd ok.kX) (fr1282 ok ok.kX) ?_
    refine w_dloadS d68_374 (ok.kd (kT1282 ok ok.kX)) (fr520 ok (kT1282 ok ok.kX)) ?_
    refine w_iconst d68_377 (by decide) ?_
    refine w_callv3 d68_378 (by omega) rfl (ok.kd (kT1285 ok ok.kX)) (by simp) (Nat.le_of_ble_eq_true rfl) ?_
    refine k_Vr_refusal (f := 0) ok (by omega) kv tg kq vc (by omega) ?_
    refine w_areturn d68_381 ?_
    have e : refN t P rs pu g n0 D (AI h (sT S 520 (sT S 1282 (sX S)))) false = rfs (AI h (sT S 520 (sT S 1282 (sX S)))) 0 rs.length := by unfold refN; rw [if_neg (by omega), if_neg (by omega), if_neg (by omega), if_neg (by omega), if_neg (by omega), if_neg (by omega), if_neg (by omega), if_neg (by omega), if_pos (by omega)]
    have kq := kk false h (Mo.refl ok) (fun z => absurd z (by omega))
    rw [e] at kq
    exact kq
  by_cases s11 : t = 11
  · refine w_tsw 382 d68_32 (by rw [s11]; decide) ?_
    refine w_aload_n d68_382 rfl ?_
    refine w_dloadS d68_383 (ok.kd ok.kX) (fr1285 ok ok.kX) ?_
    refine w_aload_n d68_386 rfl ?_
    refine w_dloadS d68_387 (ok.kd ok.kX) (fr1282 ok ok.kX) ?_
    refine w_dloadS d68_390 (ok.kd (kT1282 ok ok.kX)) (fr520 ok (kT1282 ok ok.kX)) ?_
    refine w_iconst d68_393 (by decide) ?_
    refine w_callv3 d68_394 (by omega) rfl (ok.kd (kT1285 ok ok.kX)) (by simp) (Nat.le_of_ble_eq_true rfl) ?_
    refine k_Vr_refusal (f := 2) ok (by omega) kv tg kq vc (by omega) ?_
    refine w_areturn d68_397 ?_
    have e : refN t P rs pu g n0 D (AI h (sT S 520 (sT S 1282 (sX S)))) false = rfs (AI h (sT S 520 (sT S 1282 (sX S)))) 2 rs.length := by unfold refN; rw [if_neg (by omega), if_neg (by omega), if_neg (by omega), if_neg (by omega), if_neg (by omega), if_neg (by omega), if_neg (by omega), if_neg (by omega), if_neg (by omega), if_pos (by omega)]
    have kq := kk false h (Mo.refl ok) (fun z => absurd z (by omega))
    rw [e] at kq
    exact kq
  by_cases s12 : t = 12
  · refine w_tsw 398 d68_32 (by rw [s12]; decide) ?_
    refine w_aload_n d68_398 rfl ?_
    refine w_dloadS d68_399 (ok.kd ok.kX) (fr1285 ok ok.kX) ?_
    refine w_getI (x := ((rs.length : Nat) : Int)) d68_402 (ok.kd (kT1285 ok ok.kX)) vc.1 ?_
    refine w_ifne d68_405 (fun c405 => ?_) (fun c405 => ?_)
    · obtain ⟨g414, v414, s414⟩ := tg.tx ok 19 (by decide)
      refine w_getstaticS d68_414 v414 ?_
      refine w_areturn d68_416 ?_
      have e : refN t P rs pu g n0 D (AI h (sT S 520 (sT S 1282 (sX S)))) false = 19 := by unfold refN; rw [if_neg (by omega), if_neg (by omega), if_neg (by omega), if_neg (by omega), if_neg (by omega), if_neg (by omega), if_neg (by omega), if_neg (by omega), if_neg (by omega), if_neg (by omega), if_pos (by omega), if_neg (by omega)]
      have kq := kk false h (Mo.refl ok) (fun z => absurd z (by omega))
      rw [e] at kq
      rw [v414] at kq
      exact kq
    · obtain ⟨g408, v408, s408⟩ := tg.tx ok 30 (by decide)
      refine w_getstaticS d68_408 v408 ?_
      refine w_goto d68_411 ?_
      refine w_areturn d68_416 ?_
      have e : refN t P rs pu g n0 D (AI h (sT S 520 (sT S 1282 (sX S)))) false = 30 := by unfold refN; rw [if_neg (by omega), if_neg (by omega), if_neg (by omega), if_neg (by omega), if_neg (by omega), if_neg (by omega), if_neg (by omega), if_neg (by omega), if_neg (by omega), if_neg (by omega), if_pos (by omega), if_pos (by omega)]
      have kq := kk false h (Mo.refl ok) (fun z => absurd z (by omega))
      rw [e] at kq
      rw [v408] at kq
      exact kq
  refine w_tsw 417 d68_32 (by rw [show t = 0 by omega]; decide) ?_
  obtain ⟨g417, v417, s417⟩ := tg.tx ok 19 (by decide)
  refine w_getstaticS d68_417 v417 ?_
  refine w_areturn d68_419 ?_
  have e : refN t P rs pu g n0 D (AI h (sT S 520 (sT S 1282 (sX S)))) false = 19 := by unfold refN; rw [show t = 0 by omega]; rfl
  have kq := kk false h (Mo.refl ok) (fun z => absurd z (by omega))
  rw [e] at kq
  rw [v417] at kq
  exact kq
