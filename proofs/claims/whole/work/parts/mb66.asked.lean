/-! the reference: what is asked -/
/-- all anew, as the reference tells it -/
def anR (w : HoS) (f : Nat) (T : List Nat) : Prop := ∃ (s D B : Nat) (bu bp : Nat → OmV) (lf : Nat → List Int64) (pb : Nat → Bool), (∀ z, bt s z ↔ Rc w.1.2.2 f z) ∧ AnI w.1 s D B bu ∧ (∀ u, bt s u → ¬ bt D u → ¬ ∀ v, edge w.1.2.2 u v → bt B v) ∧ PtI (seGo w.2.2).1 (seGo w.2.2).2.1 bp lf pb ∧ anT w.1 s D B bu bp pb T
/-- what is to be told -/
def asP (w : HoS) (l : List Nat) (fl : List (List Nat × List Nat)) (T : List Nat) : Prop :=
  if qrT l = 13 then T = flTxt fl fl.length else if qrT l = 19 then T = runT (sePl w.2.2).2.2 (rR (goR (seGo w.2.2))) (rR (goR (seGo w.2.2))).length else if qrT l = 23 then ∃ sel, usP w.1.2.2 (qrA l (qrN l)).1 sel ∧ T = mkTxt w.1.2.2 sel w.1.2.2.length
  else if kd (qrT l) = 2 then (qrT l ≠ 21 ∨ tat w.1.2.2 (qrA l (qrN l)).1 < 0 → chR (qrT l) w 0 (tat w.1.2.2 (qrA l (qrN l)).1) (if qrT l = 24 then tat w.1.2.2 (qr2 l) else tat w.1.2.2 (qrA l (qrN l)).1) T) else if qrT l ≤ 20 then T = shT (qrT l) w (qrA l (qrN l)).1 (fun _ => false) false else T = moT l w
theorem RdF.nm {S : Shp} {h : Hp} {m : Nat} {l : List Nat} (ok : Ok S h) (hm : sK S m = 14) (RQ : RqR S h m l) (RD : RdF S h m l (qrB l) (qrT l)) (NI : NmI h m) : ∃ (f e : Nat) (n0 : List Nat), NmR h m f e ∧ f + n0.length = e ∧ SgC S h (sT S 1730 m) f n0 ∧ e ≤ 20020 ∧ (nmQ (qrT l) = true → n0 = (qrA l (qrN l)).1 ∧ e ≤ l.length ∧ f ≤ e ∧ sl l f e = (qrA l (qrN l)).1) := by
  by_cases q : nmQ (qrT l) = true
  · obtain ⟨f, e, NM, o1, o2, eN⟩ := RD.1 q
    have nl := sl_len ⟨o1, o2⟩
    have eN : sl l f e = (qrA l (qrN l)).1 := eN
    rw [eN] at nl
    have := RQ.2.1
    exact ⟨f, e, (qrA l (qrN l)).1, NM, by omega, by rw [← eN]; exact RQ.2.2.sub ⟨o1, o2⟩, by omega, fun _ => ⟨rfl, o2, o1, eN⟩⟩
  · obtain ⟨f, e, NM, o1, o2⟩ := NI
    obtain ⟨n, n1, n2⟩ := SgC.any ok hm o1 o2
    exact ⟨f, e, n, NM, n1, n2, o2, fun z => absurd z q⟩
theorem wk3 (C : Nat → Nat) : wkTx C 3 = dec (C 0) ++ ([32] ++ (dec (C 1) ++ ([32] ++ dec (C 2)))) := by simp [wkTx]
theorem nb_el {S : Shp} (so : SOk S) {m j g x : Nat} (g4 : g < 4096) (x4 : x < 4096) (hj : j < 14) (hx : x ≠ 1732) : sT S x (sE S (sT S g m) j) ≠ m ∧ sT S x (sE S (sT S g m) j) ≠ sT S 1732 m := ⟨fun z => by
  have := so.ltT (f := x) (a := sE S (sT S g m) j) x4
  have := so.ltE (b := sT S g m) (j := j) (by omega)
  have := so.ltT (f := g) (a := m) g4
  omega, fun z => hx ((so.inj x4 (by decide)).mp z).1⟩
theorem d300_0 : dc 300 0 = some (.aload_n 0, 1) := by decide +kernel
theorem d300_1 : dc 300 1 = some (.invokevirtual 221, 4) := by decide +kernel
theorem d300_4 : dc 300 4 = some (.istore_n 1, 5) := by decide +kernel
theorem d300_5 : dc 300 5 = some (.aload_n 0, 6) := by decide +kernel
theorem d300_6 : dc 300 6 = some (.getfield 1739, 9) := by decide +kernel
theorem d300_9 : dc 300 9 = some (.bipush 13, 11) := by decide +kernel
theorem d300_11 : dc 300 11 = some (.if_icmp .eq ((25 : Nat) : Int), 14) := by decide +kernel
theorem d300_14 : dc 300 14 = some (.aload_n 0, 15) := by decide +kernel
theorem d300_15 : dc 300 15 = some (.getfield 1743, 18) := by decide +kernel
theorem d300_18 : dc 300 18 = some (.aload_n 0, 19) := by decide +kernel
theorem d300_19 : dc 300 19 = some (.getfield 1731, 22) := by decide +kernel
theorem d300_22 : dc 300 22 = some (.if_icmp .le ((29 : Nat) : Int), 25) := by decide +kernel
theorem d300_25 : dc 300 25 = some (.iconst (-1), 26) := by decide +kernel
theorem d300_26 : dc 300 26 = some (.goto ((41 : Nat) : Int), 29) := by decide +kernel
theorem d300_29 : dc 300 29 = some (.aload_n 0, 30) := by decide +kernel
theorem d300_30 : dc 300 30 = some (.aload_n 0, 31) := by decide +kernel
theorem d300_31 : dc 300 31 = some (.getfield 1742, 34) := by decide +kernel
theorem d300_34 : dc 300 34 = some (.aload_n 0, 35) := by decide +kernel
theorem d300_35 : dc 300 35 = some (.getfield 1743, 38) := by decide +kernel
theorem d300_38 : dc 300 38 = some (.invokevirtual 222, 41) := by decide +kernel
theorem d300_41 : dc 300 41 = some (.istore_n 2, 42) := by decide +kernel
theorem d300_42 : dc 300 42 = some (.aload_n 0, 43) := by decide +kernel
theorem d300_43 : dc 300 43 = some (.getfield 1739, 46) := by decide +kernel
theorem d300_46 : dc 300 46 = some (.tableswitch ((477 : Nat) : Int) 13 25 #[((112 : Nat) : Int), ((119 : Nat) : Int), ((186 : Nat) : Int), ((193 : Nat) : Int), ((193 : Nat) : Int), ((277 : Nat) : Int), ((284 : Nat) : Int), ((323 : Nat) : Int), ((362 : Nat) : Int), ((362 : Nat) : Int), ((418 : Nat) : Int), ((425 : Nat) : Int), ((362 : Nat) : Int)], 112) := by decide +kernel
theorem d300_112 : dc 300 112 = some (.aload_n 0, 113) := by decide +kernel
theorem d300_113 : dc 300 113 = some (.invokevirtual 301, 116) := by decide +kernel
theorem d300_116 : dc 300 116 = some (.goto ((482 : Nat) : Int), 119) := by decide +kernel
theorem d300_119 : dc 300 119 = some (.aload_n 0, 120) := by decide +kernel
theorem d300_120 : dc 300 120 = some (.dload 1664, 123) := by decide +kernel
theorem d300_123 : dc 300 123 = some (.aload_n 0, 124) := by decide +kernel
theorem d300_124 : dc 300 124 = some (.dload 1730, 127) := by decide +kernel
theorem d300_127 : dc 300 127 = some (.aload_n 0, 128) := by decide +kernel
theorem d300_128 : dc 300 128 = some (.getfield 1742, 131) := by decide +kernel
theorem d300_131 : dc 300 131 = some (.aload_n 0, 132) := by decide +kernel
theorem d300_132 : dc 300 132 = some (.getfield 1743, 135) := by decide +kernel
theorem d300_135 : dc 300 135 = some (.aload_n 0, 136) := by decide +kernel
theorem d300_136 : dc 300 136 = some (.getfield 1742, 139) := by decide +kernel
theorem d300_139 : dc 300 139 = some (.isub, 140) := by decide +kernel
theorem d300_140 : dc 300 140 = some (.invokevirtual 225, 143) := by decide +kernel
theorem d300_143 : dc 300 143 = some (.istore_n 3, 144) := by decide +kernel
theorem d300_144 : dc 300 144 = some (.iload_n 3, 145) := by decide +kernel
theorem d300_145 : dc 300 145 = some (.ifCond .ge ((158 : Nat) : Int), 148) := by decide +kernel
theorem d300_148 : dc 300 148 = some (.aload_n 0, 149) := by decide +kernel
theorem d300_149 : dc 300 149 = some (.getstatic 79, 152) := by decide +kernel
theorem d300_152 : dc 300 152 = some (.invokevirtual 217, 155) := by decide +kernel
theorem d300_155 : dc 300 155 = some (.goto ((482 : Nat) : Int), 158) := by decide +kernel
theorem d300_158 : dc 300 158 = some (.aload_n 0, 159) := by decide +kernel
theorem d300_159 : dc 300 159 = some (.aload_n 0, 160) := by decide +kernel
theorem d300_160 : dc 300 160 = some (.dload 1664, 163) := by decide +kernel
theorem d300_163 : dc 300 163 = some (.dload 1411, 166) := by decide +kernel
theorem d300_166 : dc 300 166 = some (.sipush 160, 169) := by decide +kernel
theorem d300_169 : dc 300 169 = some (.iload_n 3, 170) := by decide +kernel
theorem d300_170 : dc 300 170 = some (.imul, 171) := by decide +kernel
theorem d300_171 : dc 300 171 = some (.aload_n 0, 172) := by decide +kernel
theorem d300_172 : dc 300 172 = some (.dload 1664, 175) := by decide +kernel
theorem d300_175 : dc 300 175 = some (.dload 1412, 178) := by decide +kernel
theorem d300_178 : dc 300 178 = some (.iload_n 3, 179) := by decide +kernel
theorem d300_179 : dc 300 179 = some (.iaload, 180) := by decide +kernel
theorem d300_180 : dc 300 180 = some (.invokevirtual 294, 183) := by decide +kernel
theorem d300_183 : dc 300 183 = some (.goto ((482 : Nat) : Int), 186) := by decide +kernel
theorem d300_186 : dc 300 186 = some (.aload_n 0, 187) := by decide +kernel
theorem d300_187 : dc 300 187 = some (.invokevirtual 305, 190) := by decide +kernel
theorem d300_190 : dc 300 190 = some (.goto ((482 : Nat) : Int), 193) := by decide +kernel
theorem d300_193 : dc 300 193 = some (.iload_n 2, 194) := by decide +kernel
theorem d300_194 : dc 300 194 = some (.ifCond .lt ((206 : Nat) : Int), 197) := by decide +kernel
theorem d300_197 : dc 300 197 = some (.aload_n 0, 198) := by decide +kernel
theorem d300_198 : dc 300 198 = some (.dload 1666, 201) := by decide +kernel
theorem d300_201 : dc 300 201 = some (.iload_n 2, 202) := by decide +kernel
theorem d300_202 : dc 300 202 = some (.baload, 203) := by decide +kernel
theorem d300_203 : dc 300 203 = some (.ifCond .ne ((216 : Nat) : Int), 206) := by decide +kernel
theorem d300_206 : dc 300 206 = some (.aload_n 0, 207) := by decide +kernel
theorem d300_207 : dc 300 207 = some (.getstatic 54, 210) := by decide +kernel
theorem d300_210 : dc 300 210 = some (.invokevirtual 217, 213) := by decide +kernel
theorem d300_213 : dc 300 213 = some (.goto ((482 : Nat) : Int), 216) := by decide +kernel
theorem d300_216 : dc 300 216 = some (.aload_n 0, 217) := by decide +kernel
theorem d300_217 : dc 300 217 = some (.getfield 1739, 220) := by decide +kernel
theorem d300_220 : dc 300 220 = some (.bipush 17, 222) := by decide +kernel
theorem d300_222 : dc 300 222 = some (.if_icmp .ne ((251 : Nat) : Int), 225) := by decide +kernel
theorem d300_225 : dc 300 225 = some (.aload_n 0, 226) := by decide +kernel
theorem d300_226 : dc 300 226 = some (.aload_n 0, 227) := by decide +kernel
theorem d300_227 : dc 300 227 = some (.dload 1667, 230) := by decide +kernel
theorem d300_230 : dc 300 230 = some (.iload_n 2, 231) := by decide +kernel
theorem d300_231 : dc 300 231 = some (.aaload, 232) := by decide +kernel
theorem d300_232 : dc 300 232 = some (.dload 1538, 235) := by decide +kernel
theorem d300_235 : dc 300 235 = some (.iconst 0, 236) := by decide +kernel
theorem d300_236 : dc 300 236 = some (.aload_n 0, 237) := by decide +kernel
theorem d300_237 : dc 300 237 = some (.dload 1667, 240) := by decide +kernel
theorem d300_240 : dc 300 240 = some (.iload_n 2, 241) := by decide +kernel
theorem d300_241 : dc 300 241 = some (.aaload, 242) := by decide +kernel
theorem d300_242 : dc 300 242 = some (.getfield 1539, 245) := by decide +kernel
theorem d300_245 : dc 300 245 = some (.invokevirtual 294, 248) := by decide +kernel
theorem d300_248 : dc 300 248 = some (.goto ((482 : Nat) : Int), 251) := by decide +kernel
theorem d300_251 : dc 300 251 = some (.aload_n 0, 252) := by decide +kernel
theorem d300_252 : dc 300 252 = some (.aload_n 0, 253) := by decide +kernel
theorem d300_253 : dc 300 253 = some (.dload 1667, 256) := by decide +kernel
theorem d300_256 : dc 300 256 = some (.iload_n 2, 257) := by decide +kernel
theorem d300_257 : dc 300 257 = some (.aaload, 258) := by decide +kernel
theorem d300_258 : dc 300 258 = some (.dload 1536, 261) := by decide +kernel
theorem d300_261 : dc 300 261 = some (.iconst 0, 262) := by decide +kernel
theorem d300_262 : dc 300 262 = some (.aload_n 0, 263) := by decide +kernel
theorem d300_263 : dc 300 263 = some (.dload 1667, 266) := by decide +kernel
theorem d300_266 : dc 300 266 = some (.iload_n 2, 267) := by decide +kernel
theorem d300_267 : dc 300 267 = some (.aaload, 268) := by decide +kernel
theorem d300_268 : dc 300 268 = some (.getfield 1537, 271) := by decide +kernel
theorem d300_271 : dc 300 271 = some (.invokevirtual 294, 274) := by decide +kernel
theorem d300_274 : dc 300 274 = some (.goto ((482 : Nat) : Int), 277) := by decide +kernel
theorem d300_277 : dc 300 277 = some (.aload_n 0, 278) := by decide +kernel
theorem d300_278 : dc 300 278 = some (.invokevirtual 306, 281) := by decide +kernel
theorem d300_281 : dc 300 281 = some (.goto ((482 : Nat) : Int), 284) := by decide +kernel
theorem d300_284 : dc 300 284 = some (.iconst 0, 285) := by decide +kernel
theorem d300_285 : dc 300 285 = some (.istore_n 3, 286) := by decide +kernel
theorem d300_286 : dc 300 286 = some (.iload_n 3, 287) := by decide +kernel
theorem d300_287 : dc 300 287 = some (.aload_n 0, 288) := by decide +kernel
theorem d300_288 : dc 300 288 = some (.getfield 1709, 291) := by decide +kernel
theorem d300_291 : dc 300 291 = some (.if_icmp .ge ((320 : Nat) : Int), 294) := by decide +kernel
theorem d300_294 : dc 300 294 = some (.aload_n 0, 295) := by decide +kernel
theorem d300_295 : dc 300 295 = some (.aload_n 0, 296) := by decide +kernel
theorem d300_296 : dc 300 296 = some (.dload 1665, 299) := by decide +kernel
theorem d300_299 : dc 300 299 = some (.aload_n 0, 300) := by decide +kernel
theorem d300_300 : dc 300 300 = some (.dload 1708, 303) := by decide +kernel
theorem d300_303 : dc 300 303 = some (.iload_n 3, 304) := by decide +kernel
theorem d300_304 : dc 300 304 = some (.iaload, 305) := by decide +kernel
theorem d300_305 : dc 300 305 = some (.invokevirtual 293, 308) := by decide +kernel
theorem d300_308 : dc 300 308 = some (.aload_n 0, 309) := by decide +kernel
theorem d300_309 : dc 300 309 = some (.bipush 59, 311) := by decide +kernel
theorem d300_311 : dc 300 311 = some (.invokevirtual 218, 314) := by decide +kernel
theorem d300_314 : dc 300 314 = some (.iinc 3 1, 317) := by decide +kernel
theorem d300_317 : dc 300 317 = some (.goto ((286 : Nat) : Int), 320) := by decide +kernel
theorem d300_320 : dc 300 320 = some (.goto ((482 : Nat) : Int), 323) := by decide +kernel
theorem d300_323 : dc 300 323 = some (.aload_n 0, 324) := by decide +kernel
theorem d300_324 : dc 300 324 = some (.aload_n 0, 325) := by decide +kernel
theorem d300_325 : dc 300 325 = some (.getfield 1710, 328) := by decide +kernel
theorem d300_328 : dc 300 328 = some (.invokevirtual 219, 331) := by decide +kernel
theorem d300_331 : dc 300 331 = some (.aload_n 0, 332) := by decide +kernel
theorem d300_332 : dc 300 332 = some (.bipush 32, 334) := by decide +kernel
theorem d300_334 : dc 300 334 = some (.invokevirtual 218, 337) := by decide +kernel
theorem d300_337 : dc 300 337 = some (.aload_n 0, 338) := by decide +kernel
theorem d300_338 : dc 300 338 = some (.aload_n 0, 339) := by decide +kernel
theorem d300_339 : dc 300 339 = some (.getfield 1711, 342) := by decide +kernel
theorem d300_342 : dc 300 342 = some (.invokevirtual 219, 345) := by decide +kernel
theorem d300_345 : dc 300 345 = some (.aload_n 0, 346) := by decide +kernel
theorem d300_346 : dc 300 346 = some (.bipush 32, 348) := by decide +kernel
theorem d300_348 : dc 300 348 = some (.invokevirtual 218, 351) := by decide +kernel
theorem d300_351 : dc 300 351 = some (.aload_n 0, 352) := by decide +kernel
theorem d300_352 : dc 300 352 = some (.aload_n 0, 353) := by decide +kernel
theorem d300_353 : dc 300 353 = some (.getfield 1712, 356) := by decide +kernel
theorem d300_356 : dc 300 356 = some (.invokevirtual 219, 359) := by decide +kernel
theorem d300_359 : dc 300 359 = some (.goto ((482 : Nat) : Int), 362) := by decide +kernel
theorem d300_362 : dc 300 362 = some (.iload_n 1, 363) := by decide +kernel
theorem d300_363 : dc 300 363 = some (.ifCond .ge ((376 : Nat) : Int), 366) := by decide +kernel
theorem d300_366 : dc 300 366 = some (.aload_n 0, 367) := by decide +kernel
theorem d300_367 : dc 300 367 = some (.getstatic 83, 370) := by decide +kernel
theorem d300_370 : dc 300 370 = some (.invokevirtual 217, 373) := by decide +kernel
theorem d300_373 : dc 300 373 = some (.goto ((482 : Nat) : Int), 376) := by decide +kernel
theorem d300_376 : dc 300 376 = some (.aload_n 0, 377) := by decide +kernel
theorem d300_377 : dc 300 377 = some (.getfield 1739, 380) := by decide +kernel
theorem d300_380 : dc 300 380 = some (.bipush 21, 382) := by decide +kernel
theorem d300_382 : dc 300 382 = some (.if_icmp .ne ((393 : Nat) : Int), 385) := by decide +kernel
theorem d300_385 : dc 300 385 = some (.aload_n 0, 386) := by decide +kernel
theorem d300_386 : dc 300 386 = some (.iload_n 1, 387) := by decide +kernel
theorem d300_387 : dc 300 387 = some (.invokevirtual 307, 390) := by decide +kernel
theorem d300_390 : dc 300 390 = some (.goto ((482 : Nat) : Int), 393) := by decide +kernel
theorem d300_393 : dc 300 393 = some (.aload_n 0, 394) := by decide +kernel
theorem d300_394 : dc 300 394 = some (.getfield 1739, 397) := by decide +kernel
theorem d300_397 : dc 300 397 = some (.bipush 22, 399) := by decide +kernel
theorem d300_399 : dc 300 399 = some (.if_icmp .ne ((410 : Nat) : Int), 402) := by decide +kernel
theorem d300_402 : dc 300 402 = some (.aload_n 0, 403) := by decide +kernel
theorem d300_403 : dc 300 403 = some (.iload_n 1, 404) := by decide +kernel
theorem d300_404 : dc 300 404 = some (.invokevirtual 309, 407) := by decide +kernel
theorem d300_407 : dc 300 407 = some (.goto ((482 : Nat) : Int), 410) := by decide +kernel
theorem d300_410 : dc 300 410 = some (.aload_n 0, 411) := by decide +kernel
theorem d300_411 : dc 300 411 = some (.iload_n 1, 412) := by decide +kernel
theorem d300_412 : dc 300 412 = some (.invokevirtual 311, 415) := by decide +kernel
theorem d300_415 : dc 300 415 = some (.goto ((482 : Nat) : Int), 418) := by decide +kernel
theorem d300_418 : dc 300 418 = some (.aload_n 0, 419) := by decide +kernel
theorem d300_419 : dc 300 419 = some (.invokevirtual 314, 422) := by decide +kernel
theorem d300_422 : dc 300 422 = some (.goto ((482 : Nat) : Int), 425) := by decide +kernel
theorem d300_425 : dc 300 425 = some (.aload_n 0, 426) := by decide +kernel
theorem d300_426 : dc 300 426 = some (.aload_n 0, 427) := by decide +kernel
theorem d300_427 : dc 300 427 = some (.getfield 1744, 430) := by decide +kernel
theorem d300_430 : dc 300 430 = some (.aload_n 0, 431) := by decide +kernel
theorem d300_431 : dc 300 431 = some (.getfield 1745, 434) := by decide +kernel
theorem d300_434 : dc 300 434 = some (.invokevirtual 222, 437) := by decide +kernel
theorem d300_437 : dc 300 437 = some (.istore_n 3, 438) := by decide +kernel
theorem d300_438 : dc 300 438 = some (.iload_n 1, 439) := by decide +kernel
theorem d300_439 : dc 300 439 = some (.ifCond .lt ((458 : Nat) : Int), 442) := by decide +kernel
theorem d300_442 : dc 300 442 = some (.iload_n 3, 443) := by decide +kernel
theorem d300_443 : dc 300 443 = some (.ifCond .lt ((458 : Nat) : Int), 446) := by decide +kernel
theorem d300_446 : dc 300 446 = some (.aload_n 0, 447) := by decide +kernel
theorem d300_447 : dc 300 447 = some (.dload 1664, 450) := by decide +kernel
theorem d300_450 : dc 300 450 = some (.dload 1420, 453) := by decide +kernel
theorem d300_453 : dc 300 453 = some (.iload_n 3, 454) := by decide +kernel
theorem d300_454 : dc 300 454 = some (.baload, 455) := by decide +kernel
theorem d300_455 : dc 300 455 = some (.ifCond .ne ((468 : Nat) : Int), 458) := by decide +kernel
theorem d300_458 : dc 300 458 = some (.aload_n 0, 459) := by decide +kernel
theorem d300_459 : dc 300 459 = some (.getstatic 83, 462) := by decide +kernel
theorem d300_462 : dc 300 462 = some (.invokevirtual 217, 465) := by decide +kernel
theorem d300_465 : dc 300 465 = some (.goto ((482 : Nat) : Int), 468) := by decide +kernel
theorem d300_468 : dc 300 468 = some (.aload_n 0, 469) := by decide +kernel
theorem d300_469 : dc 300 469 = some (.iload_n 1, 470) := by decide +kernel
theorem d300_470 : dc 300 470 = some (.iload_n 3, 471) := by decide +kernel
theorem d300_471 : dc 300 471 = some (.invokevirtual 315, 474) := by decide +kernel
theorem d300_474 : dc 300 474 = some (.goto ((482 : Nat) : Int), 477) := by decide +kernel
theorem d300_477 : dc 300 477 = some (.aload_n 0, 478) := by decide +kernel
theorem d300_478 : dc 300 478 = some (.iload_n 2, 479) := by decide +kernel
theorem d300_479 : dc 300 479 = some (.invokevirtual 317, 482) := by decide +kernel
theorem d300_482 : dc 300 482 = some (.return_, 483) := by decide +kernel
theorem k_M_askItA {S : Shp} {G : Nat → Option Nat} {d : Nat} {h : Hp} {Q : Option MV → Hp → Prop} {m : Nat} {w : HoS} {l la T n0 : List Nat} {fl : List (List Nat × List Nat)} {k f e : Nat} {bu0 : Nat → OmV} (ok : Ok S h) (h1 : 22 ≤ d) (hm : sK S m = 14) (NF : DfC S h (sT S 1664 m) w.1) (RS : RsR S h m w.2.1) (SX : SxR S h m w.2.2) (TE : TeR S h m la) (RQ : RqR S h m l) (NK : FI h 1739 m = ((qrT l : Nat) : Int)) (NM : NmR h m f e) (FO : OmS S h (sT S 1669 m) bu0) (RD : RdF S h m l (qrB l) (qrT l)) (tg : Tg S G) (er : qrR l = true) (ht : 13 ≤ qrT l ∧ qrT l ≤ 32) (h4 : l.length ≤ 4096) (I : wInv k w) (hk : k ≤ 60000) (hn : f + n0.length = e) (sg : SgC S h (sT S 1730 m) f n0) (e20 : e ≤ 20020) (hnm : nmQ (qrT l) = true → n0 = (qrA l (qrN l)).1 ∧ e ≤ l.length ∧ f ≤ e ∧ sl l f e = (qrA l (qrN l)).1) (AP : asP w l fl T) (fp : List.Pairwise (fun a b => ltP a.1 b.1) fl) (fs : ∀ x, x ∈ fl ↔ x ∈ w.1.1) (hR : ∀ t ∈ rR (goR (seGo w.2.2)), t < (sePl w.2.2).2.2.length)
    (kk : ∀ h' T', Fr S m [1669, 1677, 1681, 1682, 1683, 1684, 1685, 1686, 1687, 1688, 1689, 1690, 1691, 1692, 1693, 1694, 1695, 1696, 1697, 1698, 1699, 1700, 1726, 1727, 1732, 1733, 1762, 1763] h h' → (T' = T ∨ (qrT l = 21 ∧ 0 ≤ tat w.1.2.2 (qrA l (qrN l)).1 ∧ anR w (tat w.1.2.2 (qrA l (qrN l)).1).toNat T')) → (∃ bu, OmS S h' (sT S 1669 m) bu) → TeR S h' m (addBs 20000 la T') → Q none h') : Cl G d 300 [vR (some m)] h Q := by
  show Wp G d 300 0 [some (vR (some m)), none, none, none] [] h Q
  have NF_0 := NF
  have RS_0 := RS
  have SX_0 := SX
  have TE_0 := TE
  have RQ_0 := RQ
  have NK_0 := NK
  have NM_0 := NM
  have FO_0 := FO
  have hd0 := kT1664 ok hm
  have rq9 := RQ.2.1
  have t35 : qrT l < 35 := by omega
  have fo : ∀ x ∈ fl, okP x.1 ∧ cln x.1 := fun x hx => ⟨(I.1.2.2.2 x ((fs x).mp hx)).ok, (I.1.2.2.2 x ((fs x).mp hx)).cl⟩
  refine w_aload_n d300_0 rfl ?_
  refine w_callv1 d300_1 (by omega) rfl (ok.kd hm) (by simp) (Nat.le_of_ble_eq_true rfl) ?_
  refine k_M_target ok (by omega) hm NF NM hn sg ?_
  refine w_istore1 d300_4 rfl ?_
  refine w_aload_n d300_5 rfl ?_
  refine w_getI (x := ((qrT l : Nat) : Int)) d300_6 (ok.kd hm) NK ?_
  refine w_bipush d300_9 (by decide) ?_
  have L41 : ∀ (m41 : Nat) (u : Int), 0 = m41 → (nmQ (qrT l) = true → u = tix w.1.2.2 (qrA l (qrN l)).1) → Wp G d 300 41 [some (vR (some m)), some (vI (tat w.1.2.2 n0)), none, none] [vI u] h Q := by
    intro m41
    induction m41 using Nat.strongRecOn with | ind m41 IH41 => ?_
    intro u hm41 hu
    refine w_istore2 d300_41 rfl ?_
    refine w_aload_n d300_42 rfl ?_
    refine w_getI (x := ((qrT l : Nat) : Int)) d300_43 (ok.kd hm) NK ?_
    by_cases s13 : qrT l = 13
    · refine w_tsw 112 d300_46 (by rw [s13]; decide) ?_
      have AP := AP
      unfold asP at AP
      rw [if_pos (by omega)] at AP
      refine w_aload_n d300_112 rfl ?_
      refine w_callv1 d300_113 (by omega) rfl (ok.kd hm) (by simp) (Nat.le_of_ble_eq_true rfl) ?_
      refine k_M_tellFiles (fl := fl) ok (by omega) hm TE NF fp fs fo (fun h113 f113 TE => ?_)
      have ok113 := f113.ok
      have FR113 := Fr.le (F := [1669, 1677, 1681, 1682, 1683, 1684, 1685, 1686, 1687, 1688, 1689, 1690, 1691, 1692, 1693, 1694, 1695, 1696, 1697, 1698, 1699, 1700, 1726, 1727, 1732, 1733, 1762, 1763]) f113 (by decide)
      have NF := DfC.r (f := 1664) f113 hm (by decide) NF
      have RS := RsR.s f113 hm RS
      have SX := SxR.r f113 hm SX
      have RQ := RQ.r f113 hm
      have NK := (f113.i 1739).trans NK
      have NM := NM.r f113 hm
      have FO := OmS.r (f := 1669) f113 hm (Or.inr rfl) (by decide) FO
      refine w_goto d300_116 ?_
      refine w_return d300_482 ?_
      refine kk _ T FR113 (Or.inl rfl) ⟨_, FO⟩ ?_
      rw [AP]
      exact TE
    by_cases s14 : qrT l = 14
    · refine w_tsw 119 d300_46 (by rw [s14]; decide) ?_
      have AP := AP
      unfold asP at AP
      rw [if_neg (by omega), if_neg (by omega), if_neg (by omega), if_neg (by rw [s14]; decide), if_pos (by omega)] at AP
      unfold shT at AP
      rw [if_neg (by omega), if_pos (by omega)] at AP
      obtain ⟨q1, q2, q3, q4⟩ := hnm (by rw [s14]; decide)
      have sg1 : SgC S h (sT S 1730 m) f (qrA l (qrN l)).1 := by rw [← q1]; exact sg
      have fr_ := fix_rg w.1.1 (qrA l (qrN l)).1
      refine w_aload_n d300_119 rfl ?_
      refine w_dloadS d300_120 (ok.kd hm) (fr1664 ok hm) ?_
      refine w_aload_n d300_123 rfl ?_
      refine w_dloadS d300_124 (ok.kd hm) (fr1730 ok hm) ?_
      refine w_aload_n d300_127 rfl ?_
      refine w_getI (x := ((f : Nat) : Int)) d300_128 (ok.kd hm) NM.1 ?_
      refine w_aload_n d300_131 rfl ?_
      refine w_getI (x := ((e : Nat) : Int)) d300_132 (ok.kd hm) NM.2 ?_
      refine w_aload_n d300_135 rfl ?_
      refine w_getI (x := ((f : Nat) : Int)) d300_136 (ok.kd hm) NM.1 ?_
      refine w_isub d300_139 (by constructor <;> omega) ?_
      rw [show ((e : Nat) : Int) - ((f : Nat) : Int) = (((qrA l (qrN l)).1.length : Nat) : Int) by rw [← q1]; omega]
      refine w_callv4 d300_140 (by omega) rfl (ok.kd (kT1664 ok hm)) (by simp) (Nat.le_of_ble_eq_true rfl) ?_
      refine k_D_file ok (by omega) (kT1664 ok hm) NF.1 rfl sg1 ?_
      refine w_istore3 d300_143 rfl ?_
      refine w_iload_n d300_144 rfl ?_
      refine w_ifge d300_145 (fun c145 => ?_) (fun c145 => ?_)
      · obtain ⟨j, hj⟩ : ∃ j : Nat, fix w.1.1 (qrA l (qrN l)).1 = (j : Int) := ⟨(fix w.1.1 (qrA l (qrN l)).1).toNat, by omega⟩
        rw [hj]
        have ej : (fix w.1.1 (qrA l (qrN l)).1).toNat = j := by omega
        rw [if_neg (by omega), ej] at AP
        have fj := NF.1.2.2 j (by omega)
        have j16 : j < 16 := by have := NF.1.2.1; omega
        refine w_aload_n d300_158 rfl ?_
        refine w_aload_n d300_159 rfl ?_
        refine w_dloadS d300_160 (ok.kd hm) (fr1664 ok hm) ?_
        refine w_dloadS d300_163 (ok.kd (kT1664 ok hm)) (fr1411 ok (kT1664 ok hm)) ?_
        refine w_sipush d300_166 (by decide) ?_
        refine w_iload_n d300_169 rfl ?_
        refine w_imul d300_170 (by constructor <;> omega) ?_
        rw [show (160 : Int) * ((j : Nat) : Int) = ((160 * j : Nat) : Int) by omega]
        refine w_aload_n d300_171 rfl ?_
        refine w_dloadS d300_172 (ok.kd hm) (fr1664 ok hm) ?_
        refine w_dloadS d300_175 (ok.kd (kT1664 ok hm)) (fr1412 ok (kT1664 ok hm)) ?_
        refine w_iload_n d300_178 rfl ?_
        refine w_ialoadV (x := (((fB w.1.1 j).length : Nat) : Int)) d300_179 (gi1412 ok (kT1664 ok hm) (by omega)) fj.2.2.2.1 ?_
        refine w_callv4 d300_180 (by omega) rfl (ok.kd hm) (by simp) (Nat.le_of_ble_eq_true rfl) ?_
        refine k_M_sayBytes ok (by omega) hm TE rfl fj.2.2.2.2.2 (nb_fd (f := 1411) (g := 1732) (fd := 1664) (m := m) ok (by decide) (by decide) (by decide)) (SgC.le fj.2.2.2.2.2 (fun i => (ra1411 ok hd0 i).2)) (fun h180 m180 q180 TE => ?_)
        have f180 : Fr S m [1732, 1733] _ _ := Fr.mk ok m180 (fun ζ q => q.elim ((fun ζ e => Or.inl e) ζ) ((fun ζ e => Or.inr ⟨1732, by decide, e ▸ U_refl⟩) ζ)) q180 (by decide)
        have ok180 := f180.ok
        have FR180 := Fr.le (F := [1669, 1677, 1681, 1682, 1683, 1684, 1685, 1686, 1687, 1688, 1689, 1690, 1691, 1692, 1693, 1694, 1695, 1696, 1697, 1698, 1699, 1700, 1726, 1727, 1732, 1733, 1762, 1763]) f180 (by decide)
        have NF := DfC.r (f := 1664) f180 hm (by decide) NF
        have RS := RsR.s f180 hm RS
        have SX := SxR.r f180 hm SX
        have RQ := RQ.r f180 hm
        have NK := (f180.i 1739).trans NK
        have NM := NM.r f180 hm
        have FO := OmS.r (f := 1669) f180 hm (Or.inr rfl) (by decide) FO
        refine w_goto d300_183 ?_
        refine w_return d300_482 ?_
        refine kk _ T FR180 (Or.inl rfl) ⟨_, FO⟩ ?_
        rw [AP]
        exact TE
      · rw [if_pos (by omega)] at AP
        refine w_aload_n d300_148 rfl ?_
        obtain ⟨g149, v149, s149⟩ := tg.al ok 29 (by decide)
        refine w_getstaticS d300_149 v149 ?_
        refine w_callv2 d300_152 (by omega) rfl (ok.kd hm) (by simp) (Nat.le_of_ble_eq_true rfl) ?_
        refine k_M_say ok (by omega) hm TE s149 (fun h152 m152 q152 TE => ?_)
        have f152 : Fr S m [1732, 1733] _ _ := Fr.mk ok m152 (fun ζ q => q.elim ((fun ζ e => Or.inl e) ζ) ((fun ζ e => Or.inr ⟨1732, by decide, e ▸ U_refl⟩) ζ)) q152 (by decide)
        have ok152 := f152.ok
        have FR152 := Fr.le (F := [1669, 1677, 1681, 1682, 1683, 1684, 1685, 1686, 1687, 1688, 1689, 1690, 1691, 1692, 1693, 1694, 1695, 1696, 1697, 1698, 1699, 1700, 1726, 1727, 1732, 1733, 1762, 1763]) f152 (by decide)
        have NF := DfC.r (f := 1664) f152 hm (by decide) NF
        have RS := RsR.s f152 hm RS
        have SX := SxR.r f152 hm SX
        have RQ := RQ.r f152 hm
        have NK := (f152.i 1739).trans NK
        have NM := NM.r f152 hm
        have FO := OmS.r (f := 1669) f152 hm (Or.inr rfl) (by decide) FO
        refine w_goto d300_155 ?_
        refine w_return d300_482 ?_
        refine kk _ T FR152 (Or.inl rfl) ⟨_, FO⟩ ?_
        rw [AP]
        exact TE
    by_cases s15 : qrT l = 15
    · refine w_tsw 186 d300_46 (by rw [s15]; decide) ?_
      have AP := AP
      unfold asP at AP
      rw [if_neg (by omega), if_neg (by omega), if_neg (by omega), if_neg (by rw [s15]; decide), if_pos (by omega)] at AP
      unfold shT at AP
      rw [if_neg (by omega), if_neg (by omega), if_pos (by omega)] at AP
      refine w_aload_n d300_186 rfl ?_
      refine w_callv1 d300_187 (by omega) rfl (ok.kd hm) (by simp) (Nat.le_of_ble_eq_true rfl) ?_
      refine k_M_tellTargets ok (by omega) hm TE NF tg (fun u _ => ⟨(I.1.2.2.1 u).2.1.cl, (I.1.2.2.1 u).2.2.1.cl, fun k => ((I.1.2.2.1 u).2.2.2.1 k).cl⟩) (fun u => (I.1.2.2.1 u).1.cl) (fun h187 f187 TE => ?_)
      have ok187 := f187.ok
      have FR187 := Fr.le (F := [1669, 1677, 1681, 1682, 1683, 1684, 1685, 1686, 1687, 1688, 1689, 1690, 1691, 1692, 1693, 1694, 1695, 1696, 1697, 1698, 1699, 1700, 1726, 1727, 1732, 1733, 1762, 1763]) f187 (by decide)
      have NF := DfC.r (f := 1664) f187 hm (by decide) NF
      have RS := RsR.s f187 hm RS
      have SX := SxR.r f187 hm SX
      have RQ := RQ.r f187 hm
      have NK := (f187.i 1739).trans NK
      have NM := NM.r f187 hm
      have FO := OmS.r (f := 1669) f187 hm (Or.inr rfl) (by decide) FO
      refine w_goto d300_190 ?_
      refine w_return d300_482 ?_
      refine kk _ T FR187 (Or.inl rfl) ⟨_, FO⟩ ?_
      rw [AP]
      exact TE
    by_cases s16 : qrT l = 16
    · refine w_tsw 193 d300_46 (by rw [s16]; decide) ?_
      have AP := AP
      unfold asP at AP
      rw [if_neg (by omega), if_neg (by omega), if_neg (by omega), if_neg (by rw [s16]; decide), if_pos (by omega)] at AP
      unfold shT at AP
      rw [if_neg (by omega), if_neg (by omega), if_neg (by omega), if_pos (by omega)] at AP
      obtain ⟨q1, q2, q3, q4⟩ := hnm (by rw [s16]; decide)
      obtain ⟨nn, br, TF, SE, ST, HA, NE, nb, RN, GN, SP, ED, RL, rb, GR⟩ := SX
      obtain ⟨wk, bu, bp, kf, pf, lf, ks, pb, WK, WP, BU, KP, LP, RE, CT, PT, PU, Ip, ke⟩ := SE
      have uu := hu (by rw [s16]; decide)
      have tr := tix_rg w.1.2.2 (qrA l (qrN l)).1
      have hl14 := NF.2.2.2.1
      refine w_iload_n d300_193 rfl ?_
      refine w_iflt d300_194 (fun c194 => ?_) (fun c194 => ?_)
      · have hp : ¬ hpB (seGo w.2.2).1 (tix w.1.2.2 (qrA l (qrN l)).1) = true := fun z => by
          unfold hpB at z
          rw [Bool.and_eq_true] at z
          have := of_decide_eq_true z.1
          omega
        rw [if_neg hp] at AP
        refine w_aload_n d300_206 rfl ?_
        obtain ⟨g207, v207, s207⟩ := tg.al ok 4 (by decide)
        refine w_getstaticS d300_207 v207 ?_
        refine w_callv2 d300_210 (by omega) rfl (ok.kd hm) (by simp) (Nat.le_of_ble_eq_true rfl) ?_
        refine k_M_say ok (by omega) hm TE s207 (fun h210 m210 q210 TE => ?_)
        have f210 : Fr S m [1732, 1733] _ _ := Fr.mk ok m210 (fun ζ q => q.elim ((fun ζ e => Or.inl e) ζ) ((fun ζ e => Or.inr ⟨1732, by decide, e ▸ U_refl⟩) ζ)) q210 (by decide)
        have ok210 := f210.ok
        have FR210 := Fr.le (F := [1669, 1677, 1681, 1682, 1683, 1684, 1685, 1686, 1687, 1688, 1689, 1690, 1691, 1692, 1693, 1694, 1695, 1696, 1697, 1698, 1699, 1700, 1726, 1727, 1732, 1733, 1762, 1763]) f210 (by decide)
        have NF := DfC.r (f := 1664) f210 hm (by decide) NF
        have RS := RsR.s f210 hm RS
        have RQ := RQ.r f210 hm
        have NK := (f210.i 1739).trans NK
        have NM := NM.r f210 hm
        have FO := OmS.r (f := 1669) f210 hm (Or.inr rfl) (by decide) FO
        refine w_goto d300_213 ?_
        refine w_return d300_482 ?_
        refine kk _ T FR210 (Or.inl rfl) ⟨_, FO⟩ ?_
        rw [AP]
        exact TE
      · obtain ⟨j, hj⟩ : ∃ j : Nat, u = (j : Int) := ⟨u.toNat, by omega⟩
        have j14 : j < 14 := by omega
        have ej : (tix w.1.2.2 (qrA l (qrN l)).1).toNat = j := by omega
        rw [hj]
        have ij := Ip j j14
        have OX := PT j j14
        have ehp : hpB (seGo w.2.2).1 (tix w.1.2.2 (qrA l (qrN l)).1) = pb j := by
          unfold hpB
          rw [ej, decide_eq_true ⟨by omega, by omega⟩, ij.1]
          rfl
        have P13 := (otA ok hm (Or.inl rfl) j14).2.2.1
        refine w_aload_n d300_197 rfl ?_
        refine w_dloadS d300_198 (ok.kd hm) (fr1666 ok hm) ?_
        refine w_iload_n d300_201 rfl ?_
        refine w_baloadV (x := (b2i (pb j))) d300_202 (gi1666 ok hm (by omega)) (PU j j14) ?_
        refine w_ifne d300_203 (fun c203 => ?_) (fun c203 => ?_)
        · have pt_ : (pb j) = true := by
            cases hz : (pb j) with
            | true => rfl
            | false => rw [hz] at c203; exact absurd rfl c203
          rw [if_pos (ehp.trans pt_), ej, ← (ij.2.1 pt_).1] at AP
          refine w_aload_n d300_216 rfl ?_
          refine w_getI (x := ((qrT l : Nat) : Int)) d300_217 (ok.kd hm) NK ?_
          refine w_bipush d300_220 (by decide) ?_
          refine w_icmpne d300_222 (fun c222 => ?_) (fun c222 => ?_)
          · refine w_aload_n d300_251 rfl ?_
            refine w_aload_n d300_252 rfl ?_
            refine w_dloadS d300_253 (ok.kd hm) (fr1667 ok hm) ?_
            refine w_iload_n d300_256 rfl ?_
            refine w_aaloadSN d300_257 (otA ok hm (Or.inl rfl) j14).1 (otA ok hm (Or.inl rfl) j14).2.1 ?_
            refine w_dloadS d300_258 (ok.kd P13) (fr1536 ok P13) ?_
            refine w_iconst d300_261 (by decide) ?_
            refine w_aload_n d300_262 rfl ?_
            refine w_dloadS d300_263 (ok.kd hm) (fr1667 ok hm) ?_
            refine w_iload_n d300_266 rfl ?_
            refine w_aaloadSN d300_267 (otA ok hm (Or.inl rfl) j14).1 (otA ok hm (Or.inl rfl) j14).2.1 ?_
            refine w_getI (x := (((bp j).1.length : Nat) : Int)) d300_268 (ok.kd P13) OX.1 ?_
            refine w_callv4 d300_271 (by omega) rfl (ok.kd hm) (by simp) (Nat.le_of_ble_eq_true rfl) ?_
            refine k_M_sayBytes (f := 0) ok (by omega) hm TE rfl OX.2.2.2.1 (nb_el ok.so (by decide) (by decide) j14 (by decide)) (SgC.le OX.2.2.2.1 (fun i => (ra1536 ok P13 i).2)) (fun h271 m271 q271 TE => ?_)
            have f271 : Fr S m [1732, 1733] _ _ := Fr.mk ok m271 (fun ζ q => q.elim ((fun ζ e => Or.inl e) ζ) ((fun ζ e => Or.inr ⟨1732, by decide, e ▸ U_refl⟩) ζ)) q271 (by decide)
            have ok271 := f271.ok
            have FR271 := Fr.le (F := [1669, 1677, 1681, 1682, 1683, 1684, 1685, 1686, 1687, 1688, 1689, 1690, 1691, 1692, 1693, 1694, 1695, 1696, 1697, 1698, 1699, 1700, 1726, 1727, 1732, 1733, 1762, 1763]) f271 (by decide)
            have NF := DfC.r (f := 1664) f271 hm (by decide) NF
            have RS := RsR.s f271 hm RS
            have RQ := RQ.r f271 hm
            have NK := (f271.i 1739).trans NK
            have NM := NM.r f271 hm
            have FO := OmS.r (f := 1669) f271 hm (Or.inr rfl) (by decide) FO
            refine w_goto d300_274 ?_
            refine w_return d300_482 ?_
            refine kk _ T FR271 (Or.inl rfl) ⟨_, FO⟩ ?_
            rw [AP]
            exact TE
          · omega
        · have pf_ : (pb j) = false := by
            cases hz : (pb j) with
            | true => rw [hz] at c203; exact absurd c203 (by decide)
            | false => rfl
          rw [if_neg (by rw [ehp, pf_]; exact Bool.false_ne_true)] at AP
          refine w_aload_n d300_206 rfl ?_
          obtain ⟨g207, v207, s207⟩ := tg.al ok 4 (by decide)
          refine w_getstaticS d300_207 v207 ?_
          refine w_callv2 d300_210 (by omega) rfl (ok.kd hm) (by simp) (Nat.le_of_ble_eq_true rfl) ?_
          refine k_M_say ok (by omega) hm TE s207 (fun h210 m210 q210 TE => ?_)
          have f210 : Fr S m [1732, 1733] _ _ := Fr.mk ok m210 (fun ζ q => q.elim ((fun ζ e => Or.inl e) ζ) ((fun ζ e => Or.inr ⟨1732, by decide, e ▸ U_refl⟩) ζ)) q210 (by decide)
          have ok210 := f210.ok
          have FR210 := Fr.le (F := [1669, 1677, 1681, 1682, 1683, 1684, 1685, 1686, 1687, 1688, 1689, 1690, 1691, 1692, 1693, 1694, 1695, 1696, 1697, 1698, 1699, 1700, 1726, 1727, 1732, 1733, 1762, 1763]) f210 (by decide)
          have NF := DfC.r (f := 1664) f210 hm (by decide) NF
          have RS := RsR.s f210 hm RS
          have RQ := RQ.r f210 hm
          have NK := (f210.i 1739).trans NK
          have NM := NM.r f210 hm
          have FO := OmS.r (f := 1669) f210 hm (Or.inr rfl) (by decide) FO
          refine w_goto d300_213 ?_
          refine w_return d300_482 ?_
          refine kk _ T FR210 (Or.inl rfl) ⟨_, FO⟩ ?_
          rw [AP]
          exact TE
    by_cases s17 : qrT l = 17
    · refine w_tsw 193 d300_46 (by rw [s17]; decide) ?_
      have AP := AP
      unfold asP at AP
      rw [if_neg (by omega), if_neg (by omega), if_neg (by omega), if_neg (by rw [s17]; decide), if_pos (by omega)] at AP
      unfold shT at AP
      rw [if_neg (by omega), if_neg (by omega), if_neg (by omega), if_neg (by omega), if_pos (by omega)] at AP
      obtain ⟨q1, q2, q3, q4⟩ := hnm (by rw [s17]; decide)
      obtain ⟨nn, br, TF, SE, ST, HA, NE, nb, RN, GN, SP, ED, RL, rb, GR⟩ := SX
      obtain ⟨wk, bu, bp, kf, pf, lf, ks, pb, WK, WP, BU, KP, LP, RE, CT, PT, PU, Ip, ke⟩ := SE
      have uu := hu (by rw [s17]; decide)
      have tr := tix_rg w.1.2.2 (qrA l (qrN l)).1
      have hl14 := NF.2.2.2.1
      refine w_iload_n d300_193 rfl ?_
      refine w_iflt d300_194 (fun c194 => ?_) (fun c194 => ?_)
      · have hp : ¬ hpB (seGo w.2.2).1 (tix w.1.2.2 (qrA l (qrN l)).1) = true := fun z => by
          unfold hpB at z
          rw [Bool.and_eq_true] at z
          have := of_decide_eq_true z.1
          omega
        rw [if_neg hp] at AP
        refine w_aload_n d300_206 rfl ?_
        obtain ⟨g207, v207, s207⟩ := tg.al ok 4 (by decide)
        refine w_getstaticS d300_207 v207 ?_
        refine w_callv2 d300_210 (by omega) rfl (ok.kd hm) (by simp) (Nat.le_of_ble_eq_true rfl) ?_
        refine k_M_say ok (by omega) hm TE s207 (fun h210 m210 q210 TE => ?_)
        have f210 : Fr S m [1732, 1733] _ _ := Fr.mk ok m210 (fun ζ q => q.elim ((fun ζ e => Or.inl e) ζ) ((fun ζ e => Or.inr ⟨1732, by decide, e ▸ U_refl⟩) ζ)) q210 (by decide)
        have ok210 := f210.ok
        have FR210 := Fr.le (F := [1669, 1677, 1681, 1682, 1683, 1684, 1685, 1686, 1687, 1688, 1689, 1690, 1691, 1692, 1693, 1694, 1695, 1696, 1697, 1698, 1699, 1700, 1726, 1727, 1732, 1733, 1762, 1763]) f210 (by decide)
        have NF := DfC.r (f := 1664) f210 hm (by decide) NF
        have RS := RsR.s f210 hm RS
        have RQ := RQ.r f210 hm
        have NK := (f210.i 1739).trans NK
        have NM := NM.r f210 hm
        have FO := OmS.r (f := 1669) f210 hm (Or.inr rfl) (by decide) FO
        refine w_goto d300_213 ?_
        refine w_return d300_482 ?_
        refine kk _ T FR210 (Or.inl rfl) ⟨_, FO⟩ ?_
        rw [AP]
        exact TE
      · obtain ⟨j, hj⟩ : ∃ j : Nat, u = (j : Int) := ⟨u.toNat, by omega⟩
        have j14 : j < 14 := by omega
        have ej : (tix w.1.2.2 (qrA l (qrN l)).1).toNat = j := by omega
        rw [hj]
        have ij := Ip j j14
        have OX := PT j j14
        have ehp : hpB (seGo w.2.2).1 (tix w.1.2.2 (qrA l (qrN l)).1) = pb j := by
          unfold hpB
          rw [ej, decide_eq_true ⟨by omega, by omega⟩, ij.1]
          rfl
        have P13 := (otA ok hm (Or.inl rfl) j14).2.2.1
        refine w_aload_n d300_197 rfl ?_
        refine w_dloadS d300_198 (ok.kd hm) (fr1666 ok hm) ?_
        refine w_iload_n d300_201 rfl ?_
        refine w_baloadV (x := (b2i (pb j))) d300_202 (gi1666 ok hm (by omega)) (PU j j14) ?_
        refine w_ifne d300_203 (fun c203 => ?_) (fun c203 => ?_)
        · have pt_ : (pb j) = true := by
            cases hz : (pb j) with
            | true => rfl
            | false => rw [hz] at c203; exact absurd rfl c203
          rw [if_pos (ehp.trans pt_), ej, ← (ij.2.1 pt_).1] at AP
          refine w_aload_n d300_216 rfl ?_
          refine w_getI (x := ((qrT l : Nat) : Int)) d300_217 (ok.kd hm) NK ?_
          refine w_bipush d300_220 (by decide) ?_
          refine w_icmpne d300_222 (fun c222 => ?_) (fun c222 => ?_)
          · omega
          · refine w_aload_n d300_225 rfl ?_
            refine w_aload_n d300_226 rfl ?_
            refine w_dloadS d300_227 (ok.kd hm) (fr1667 ok hm) ?_
            refine w_iload_n d300_230 rfl ?_
            refine w_aaloadSN d300_231 (otA ok hm (Or.inl rfl) j14).1 (otA ok hm (Or.inl rfl) j14).2.1 ?_
            refine w_dloadS d300_232 (ok.kd P13) (fr1538 ok P13) ?_
            refine w_iconst d300_235 (by decide) ?_
            refine w_aload_n d300_236 rfl ?_
            refine w_dloadS d300_237 (ok.kd hm) (fr1667 ok hm) ?_
            refine w_iload_n d300_240 rfl ?_
            refine w_aaloadSN d300_241 (otA ok hm (Or.inl rfl) j14).1 (otA ok hm (Or.inl rfl) j14).2.1 ?_
            refine w_getI (x := (((bp j).2.1.length : Nat) : Int)) d300_242 (ok.kd P13) OX.2.1 ?_
            refine w_callv4 d300_245 (by omega) rfl (ok.kd hm) (by simp) (Nat.le_of_ble_eq_true rfl) ?_
            refine k_M_sayBytes (f := 0) ok (by omega) hm TE rfl OX.2.2.2.2.1 (nb_el ok.so (by decide) (by decide) j14 (by decide)) (SgC.le OX.2.2.2.2.1 (fun i => (ra1538 ok P13 i).2)) (fun h245 m245 q245 TE => ?_)
            have f245 : Fr S m [1732, 1733] _ _ := Fr.mk ok m245 (fun ζ q => q.elim ((fun ζ e => Or.inl e) ζ) ((fun ζ e => Or.inr ⟨1732, by decide, e ▸ U_refl⟩) ζ)) q245 (by decide)
            have ok245 := f245.ok
            have FR245 := Fr.le (F := [1669, 1677, 1681, 1682, 1683, 1684, 1685, 1686, 1687, 1688, 1689, 1690, 1691, 1692, 1693, 1694, 1695, 1696, 1697, 1698, 1699, 1700, 1726, 1727, 1732, 1733, 1762, 1763]) f245 (by decide)
            have NF := DfC.r (f := 1664) f245 hm (by decide) NF
            have RS := RsR.s f245 hm RS
            have RQ := RQ.r f245 hm
            have NK := (f245.i 1739).trans NK
            have NM := NM.r f245 hm
            have FO := OmS.r (f := 1669) f245 hm (Or.inr rfl) (by decide) FO
            refine w_goto d300_248 ?_
            refine w_return d300_482 ?_
            refine kk _ T FR245 (Or.inl rfl) ⟨_, FO⟩ ?_
            rw [AP]
            exact TE
        · have pf_ : (pb j) = false := by
            cases hz : (pb j) with
            | true => rw [hz] at c203; exact absurd c203 (by decide)
            | false => rfl
          rw [if_neg (by rw [ehp, pf_]; exact Bool.false_ne_true)] at AP
          refine w_aload_n d300_206 rfl ?_
          obtain ⟨g207, v207, s207⟩ := tg.al ok 4 (by decide)
          refine w_getstaticS d300_207 v207 ?_
          refine w_callv2 d300_210 (by omega) rfl (ok.kd hm) (by simp) (Nat.le_of_ble_eq_true rfl) ?_
          refine k_M_say ok (by omega) hm TE s207 (fun h210 m210 q210 TE => ?_)
          have f210 : Fr S m [1732, 1733] _ _ := Fr.mk ok m210 (fun ζ q => q.elim ((fun ζ e => Or.inl e) ζ) ((fun ζ e => Or.inr ⟨1732, by decide, e ▸ U_refl⟩) ζ)) q210 (by decide)
          have ok210 := f210.ok
          have FR210 := Fr.le (F := [1669, 1677, 1681, 1682, 1683, 1684, 1685, 1686, 1687, 1688, 1689, 1690, 1691, 1692, 1693, 1694, 1695, 1696, 1697, 1698, 1699, 1700, 1726, 1727, 1732, 1733, 1762, 1763]) f210 (by decide)
          have NF := DfC.r (f := 1664) f210 hm (by decide) NF
          have RS := RsR.s f210 hm RS
          have RQ := RQ.r f210 hm
          have NK := (f210.i 1739).trans NK
          have NM := NM.r f210 hm
          have FO := OmS.r (f := 1669) f210 hm (Or.inr rfl) (by decide) FO
          refine w_goto d300_213 ?_
          refine w_return d300_482 ?_
          refine kk _ T FR210 (Or.inl rfl) ⟨_, FO⟩ ?_
          rw [AP]
          exact TE
    by_cases s18 : qrT l = 18
    · refine w_tsw 277 d300_46 (by rw [s18]; decide) ?_
      have AP := AP
      unfold asP at AP
      rw [if_neg (by omega), if_neg (by omega), if_neg (by omega), if_neg (by rw [s18]; decide), if_pos (by omega)] at AP
      unfold shT at AP
      rw [if_neg (by omega), if_neg (by omega), if_neg (by omega), if_neg (by omega), if_neg (by omega), if_pos (by omega)] at AP
      obtain ⟨q1, q2, q3, q4⟩ := hnm (by rw [s18]; decide)
      obtain ⟨nn, br, TF, SE, ST, HA, NE, nb, RN, GN, SP, ED, RL, rb, GR⟩ := SX
      obtain ⟨wk, bu, bp, kf, pf, lf, ks, pb, WK, WP, BU, KP, LP, RE, CT, PT, PU, Ip, ke⟩ := SE
      refine w_aload_n d300_277 rfl ?_
      refine w_callv1 d300_278 (by omega) rfl (ok.kd hm) (by simp) (Nat.le_of_ble_eq_true rfl) ?_
      refine k_M_tellWhy ok (by omega) hm TE NF NM RE tg hn sg (fun h278 f278 TE => ?_)
      have ok278 := f278.ok
      have FR278 := Fr.le (F := [1669, 1677, 1681, 1682, 1683, 1684, 1685, 1686, 1687, 1688, 1689, 1690, 1691, 1692, 1693, 1694, 1695, 1696, 1697, 1698, 1699, 1700, 1726, 1727, 1732, 1733, 1762, 1763]) f278 (by decide)
      have NF := DfC.r (f := 1664) f278 hm (by decide) NF
      have RS := RsR.s f278 hm RS
      have RQ := RQ.r f278 hm
      have NK := (f278.i 1739).trans NK
      have NM := NM.r f278 hm
      have FO := OmS.r (f := 1669) f278 hm (Or.inr rfl) (by decide) FO
      refine w_goto d300_281 ?_
      refine w_return d300_482 ?_
      refine kk _ T FR278 (Or.inl rfl) ⟨_, FO⟩ ?_
      rw [← q1] at AP
      rw [AP]
      exact TE
    by_cases s19 : qrT l = 19
    · refine w_tsw 284 d300_46 (by rw [s19]; decide) ?_
      have AP := AP
      unfold asP at AP
      rw [if_neg (by omega), if_pos (by omega)] at AP
      obtain ⟨nn, br, TF, SE, ST, HA, NE, nb, RN, GN, SP, ED, RL, rb, GR⟩ := SX
      have RNx := RN
      have TFx := TF
      have rl14 := RN.2.1
      refine w_iconst d300_284 (by decide) ?_
      refine w_istore3 d300_285 rfl ?_
      have L286 : ∀ (m286 : Nat) (g : Hp) (i : Nat), (rR (goR (seGo w.2.2))).length - i = m286 → Fr S m [1669, 1677, 1681, 1682, 1683, 1684, 1685, 1686, 1687, 1688, 1689, 1690, 1691, 1692, 1693, 1694, 1695, 1696, 1697, 1698, 1699, 1700, 1726, 1727, 1732, 1733, 1762, 1763] h g → (i ≤ (rR (goR (seGo w.2.2))).length) → (TeR S g m (addBs 20000 la (runT (sePl w.2.2).2.2 (rR (goR (seGo w.2.2))) i))) → (RnR S g m (rR (goR (seGo w.2.2)))) → (DfC S g (sT S 1665 m) (sePl w.2.2)) → (OmS S g (sT S 1669 m) bu0) → Wp G d 300 286 [some (vR (some m)), some (vI (tat w.1.2.2 n0)), some (vI u), some (vI (i : Nat))] [] g Q := by
        intro m286
        induction m286 using Nat.strongRecOn with | ind m286 IH286 => ?_
        intro g i hm286 FRg il TE RNx TFx FO
        have okg := FRg.ok
        have NF := DfC.r (f := 1664) FRg hm (by decide) NF_0
        have RS := RsR.s FRg hm RS_0
        have SX := SxR.r FRg hm SX_0
        have RQ := RQ_0.r FRg hm
        have NK := (FRg.i 1739).trans NK_0
        have NM := NM_0.r FRg hm
        refine w_iload_n d300_286 rfl ?_
        refine w_aload_n d300_287 rfl ?_
        refine w_getI (x := (((rR (goR (seGo w.2.2))).length : Nat) : Int)) d300_288 (okg.kd hm) RNx.1 ?_
        refine w_icmpge d300_291 (fun c291 => ?_) (fun c291 => ?_)
        · have ei : i = (rR (goR (seGo w.2.2))).length := by omega
          rw [ei] at TE
          refine w_goto d300_320 ?_
          refine w_return d300_482 ?_
          refine kk _ T FRg (Or.inl rfl) ⟨_, FO⟩ ?_
          rw [AP]
          exact TE
        · have hi : i < (rR (goR (seGo w.2.2))).length := by omega
          have ri := hR _ (by rw [List.getD_eq_getElem?_getD, List.getElem?_eq_getElem hi]; exact List.getElem_mem hi : (rR (goR (seGo w.2.2))).getD i 0 ∈ (rR (goR (seGo w.2.2))))
          refine w_aload_n d300_294 rfl ?_
          refine w_aload_n d300_295 rfl ?_
          refine w_dloadS d300_296 (okg.kd hm) (fr1665 okg hm) ?_
          refine w_aload_n d300_299 rfl ?_
          refine w_dloadS d300_300 (okg.kd hm) (fr1708 okg hm) ?_
          refine w_iload_n d300_303 rfl ?_
          refine w_ialoadV (x := (((rR (goR (seGo w.2.2))).getD i 0 : Nat) : Int)) d300_304 (gi1708 okg hm (by omega)) (RNx.2.2 i hi) ?_
          refine w_callv3 d300_305 (by omega) rfl (okg.kd hm) (by simp) (Nat.le_of_ble_eq_true rfl) ?_
          refine k_M_sayName (fd := 1665) okg (by omega) hm TE TFx (Or.inr rfl) ri (I.2.1.1 _).1.cl (fun h305 f305 TE => ?_)
          have ok305 := f305.ok
          have FR305 := Fr.tr (F := [1669, 1677, 1681, 1682, 1683, 1684, 1685, 1686, 1687, 1688, 1689, 1690, 1691, 1692, 1693, 1694, 1695, 1696, 1697, 1698, 1699, 1700, 1726, 1727, 1732, 1733, 1762, 1763]) FRg f305 (by decide) (by decide)
          have RNx := RNx.r f305 hm
          have TFx := DfC.r (f := 1665) f305 hm (by decide) TFx
          have FO := OmS.r (f := 1669) f305 hm (Or.inr rfl) (by decide) FO
          have NF := DfC.r (f := 1664) f305 hm (by decide) NF
          have RS := RsR.s f305 hm RS
          have SX := SxR.r f305 hm SX
          have RQ := RQ.r f305 hm
          have NK := (f305.i 1739).trans NK
          have NM := NM.r f305 hm
          refine w_aload_n d300_308 rfl ?_
          refine w_bipush d300_309 (by decide) ?_
          refine w_callv2 d300_311 (by omega) rfl (ok305.kd hm) (by simp) (Nat.le_of_ble_eq_true rfl) ?_
          refine k_M_put (c := 59) ok305 (by omega) hm TE (by omega) (fun h311 m311 q311 TE => ?_)
          have f311 : Fr S m [1732, 1733] _ _ := Fr.mk ok305 m311 (fun ζ q => q.elim ((fun ζ e => Or.inl e) ζ) ((fun ζ e => Or.inr ⟨1732, by decide, e ▸ U_refl⟩) ζ)) q311 (by decide)
          have ok311 := f311.ok
          have FR311 := Fr.tr (F := [1669, 1677, 1681, 1682, 1683, 1684, 1685, 1686, 1687, 1688, 1689, 1690, 1691, 1692, 1693, 1694, 1695, 1696, 1697, 1698, 1699, 1700, 1726, 1727, 1732, 1733, 1762, 1763]) FR305 f311 (by decide) (by decide)
          have RNx := RNx.r f311 hm
          have TFx := DfC.r (f := 1665) f311 hm (by decide) TFx
          have FO := OmS.r (f := 1669) f311 hm (Or.inr rfl) (by decide) FO
          have NF := DfC.r (f := 1664) f311 hm (by decide) NF
          have RS := RsR.s f311 hm RS
          have SX := SxR.r f311 hm SX
          have RQ := RQ.r f311 hm
          have NK := (f311.i 1739).trans NK
          have NM := NM.r f311 hm
          rw [← addBs_app, ← addBs_app] at TE
          refine w_iinc3 d300_314 rfl (by constructor <;> omega) ?_
          refine w_goto d300_317 ?_
          rw [show ((i : Nat) : Int) + 1 = ((i + 1 : Nat) : Int) by omega]
          refine w_less ?_ (IH286 _ (by omega) h311 (i + 1) rfl FR311 (by omega) (by rw [runT]; exact TE) RNx TFx FO)
          exact ⟨Or.inr rfl, Or.inr rfl, Or.inr rfl, Or.inr rfl, trivial⟩
      refine w_less ?_ (L286 _ h 0 rfl (Fr.refl ok) (Nat.zero_le _) TE RNx TFx FO)
      exact ⟨Or.inr rfl, Or.inr rfl, Or.inr rfl, Or.inr rfl, trivial⟩
    by_cases s20 : qrT l = 20
    · refine w_tsw 323 d300_46 (by rw [s20]; decide) ?_
      have AP := AP
      unfold asP at AP
      rw [if_neg (by omega), if_neg (by omega), if_neg (by omega), if_neg (by rw [s20]; decide), if_pos (by omega)] at AP
      unfold shT at AP
      rw [if_neg (by omega), if_neg (by omega), if_neg (by omega), if_neg (by omega), if_neg (by omega), if_neg (by omega), if_neg (by omega), if_pos (by omega)] at AP
      obtain ⟨nn, br, TF, SE, ST, HA, NE, nb, RN, GN, SP, ED, RL, rb, GR⟩ := SX
      obtain ⟨wk, bu, bp, kf, pf, lf, ks, pb, WK, WP, BU, KP, LP, RE, CT, PT, PU, Ip, ke⟩ := SE
      have CTx := CT
      have cb := I.2.2.1
      refine w_aload_n d300_323 rfl ?_
      refine w_aload_n d300_324 rfl ?_
      refine w_getI (x := ((rC (goR (seGo w.2.2)) 0 : Nat) : Int)) d300_325 (ok.kd hm) CTx.1 ?_
      refine w_callv2 d300_328 (by omega) rfl (ok.kd hm) (by simp) (Nat.le_of_ble_eq_true rfl) ?_
      refine k_M_number (n := 9) ok (by omega) hm (by omega) TE (by have := cb 0; omega) (by decide) (fun h328 m328 q328 TE => ?_)
      have f328 : Fr S m [1732, 1733] _ _ := Fr.mk ok m328 (fun ζ q => q.elim ((fun ζ e => Or.inl e) ζ) ((fun ζ e => Or.inr ⟨1732, by decide, e ▸ U_refl⟩) ζ)) q328 (by decide)
      have ok328 := f328.ok
      have FR328 := Fr.le (F := [1669, 1677, 1681, 1682, 1683, 1684, 1685, 1686, 1687, 1688, 1689, 1690, 1691, 1692, 1693, 1694, 1695, 1696, 1697, 1698, 1699, 1700, 1726, 1727, 1732, 1733, 1762, 1763]) f328 (by decide)
      have NF := DfC.r (f := 1664) f328 hm (by decide) NF
      have RS := RsR.s f328 hm RS
      have RQ := RQ.r f328 hm
      have NK := (f328.i 1739).trans NK
      have NM := NM.r f328 hm
      have FO := OmS.r (f := 1669) f328 hm (Or.inr rfl) (by decide) FO
      have CTx := CTx.r f328 hm
      refine w_aload_n d300_331 rfl ?_
      refine w_bipush d300_332 (by decide) ?_
      refine w_callv2 d300_334 (by omega) rfl (ok328.kd hm) (by simp) (Nat.le_of_ble_eq_true rfl) ?_
      refine k_M_put (c := 32) ok328 (by omega) hm TE (by omega) (fun h334 m334 q334 TE => ?_)
      have f334 : Fr S m [1732, 1733] _ _ := Fr.mk ok328 m334 (fun ζ q => q.elim ((fun ζ e => Or.inl e) ζ) ((fun ζ e => Or.inr ⟨1732, by decide, e ▸ U_refl⟩) ζ)) q334 (by decide)
      have ok334 := f334.ok
      have FR334 := Fr.tr (F := [1669, 1677, 1681, 1682, 1683, 1684, 1685, 1686, 1687, 1688, 1689, 1690, 1691, 1692, 1693, 1694, 1695, 1696, 1697, 1698, 1699, 1700, 1726, 1727, 1732, 1733, 1762, 1763]) FR328 f334 (by decide) (by decide)
      have NF := DfC.r (f := 1664) f334 hm (by decide) NF
      have RS := RsR.s f334 hm RS
      have RQ := RQ.r f334 hm
      have NK := (f334.i 1739).trans NK
      have NM := NM.r f334 hm
      have FO := OmS.r (f := 1669) f334 hm (Or.inr rfl) (by decide) FO
      have CTx := CTx.r f334 hm
      refine w_aload_n d300_337 rfl ?_
      refine w_aload_n d300_338 rfl ?_
      refine w_getI (x := ((rC (goR (seGo w.2.2)) 1 : Nat) : Int)) d300_339 (ok334.kd hm) CTx.2.1 ?_
      refine w_callv2 d300_342 (by omega) rfl (ok334.kd hm) (by simp) (Nat.le_of_ble_eq_true rfl) ?_
      refine k_M_number (n := 9) ok334 (by omega) hm (by omega) TE (by have := cb 1; omega) (by decide) (fun h342 m342 q342 TE => ?_)
      have f342 : Fr S m [1732, 1733] _ _ := Fr.mk ok334 m342 (fun ζ q => q.elim ((fun ζ e => Or.inl e) ζ) ((fun ζ e => Or.inr ⟨1732, by decide, e ▸ U_refl⟩) ζ)) q342 (by decide)
      have ok342 := f342.ok
      have FR342 := Fr.tr (F := [1669, 1677, 1681, 1682, 1683, 1684, 1685, 1686, 1687, 1688, 1689, 1690, 1691, 1692, 1693, 1694, 1695, 1696, 1697, 1698, 1699, 1700, 1726, 1727, 1732, 1733, 1762, 1763]) FR334 f342 (by decide) (by decide)
      have NF := DfC.r (f := 1664) f342 hm (by decide) NF
      have RS := RsR.s f342 hm RS
      have RQ := RQ.r f342 hm
      have NK := (f342.i 1739).trans NK
      have NM := NM.r f342 hm
      have FO := OmS.r (f := 1669) f342 hm (Or.inr rfl) (by decide) FO
      have CTx := CTx.r f342 hm
      refine w_aload_n d300_345 rfl ?_
      refine w_bipush d300_346 (by decide) ?_
      refine w_callv2 d300_348 (by omega) rfl (ok342.kd hm) (by simp) (Nat.le_of_ble_eq_true rfl) ?_
      refine k_M_put (c := 32) ok342 (by omega) hm TE (by omega) (fun h348 m348 q348 TE => ?_)
      have f348 : Fr S m [1732, 1733] _ _ := Fr.mk ok342 m348 (fun ζ q => q.elim ((fun ζ e => Or.inl e) ζ) ((fun ζ e => Or.inr ⟨1732, by decide, e ▸ U_refl⟩) ζ)) q348 (by decide)
      have ok348 := f348.ok
      have FR348 := Fr.tr (F := [1669, 1677, 1681, 1682, 1683, 1684, 1685, 1686, 1687, 1688, 1689, 1690, 1691, 1692, 1693, 1694, 1695, 1696, 1697, 1698, 1699, 1700, 1726, 1727, 1732, 1733, 1762, 1763]) FR342 f348 (by decide) (by decide)
      have NF := DfC.r (f := 1664) f348 hm (by decide) NF
      have RS := RsR.s f348 hm RS
      have RQ := RQ.r f348 hm
      have NK := (f348.i 1739).trans NK
      have NM := NM.r f348 hm
      have FO := OmS.r (f := 1669) f348 hm (Or.inr rfl) (by decide) FO
      have CTx := CTx.r f348 hm
      refine w_aload_n d300_351 rfl ?_
      refine w_aload_n d300_352 rfl ?_
      refine w_getI (x := ((rC (goR (seGo w.2.2)) 2 : Nat) : Int)) d300_353 (ok348.kd hm) CTx.2.2 ?_
      refine w_callv2 d300_356 (by omega) rfl (ok348.kd hm) (by simp) (Nat.le_of_ble_eq_true rfl) ?_
      refine k_M_number (n := 9) ok348 (by omega) hm (by omega) TE (by have := cb 2; omega) (by decide) (fun h356 m356 q356 TE => ?_)
      have f356 : Fr S m [1732, 1733] _ _ := Fr.mk ok348 m356 (fun ζ q => q.elim ((fun ζ e => Or.inl e) ζ) ((fun ζ e => Or.inr ⟨1732, by decide, e ▸ U_refl⟩) ζ)) q356 (by decide)
      have ok356 := f356.ok
      have FR356 := Fr.tr (F := [1669, 1677, 1681, 1682, 1683, 1684, 1685, 1686, 1687, 1688, 1689, 1690, 1691, 1692, 1693, 1694, 1695, 1696, 1697, 1698, 1699, 1700, 1726, 1727, 1732, 1733, 1762, 1763]) FR348 f356 (by decide) (by decide)
      have NF := DfC.r (f := 1664) f356 hm (by decide) NF
      have RS := RsR.s f356 hm RS
      have RQ := RQ.r f356 hm
      have NK := (f356.i 1739).trans NK
      have NM := NM.r f356 hm
      have FO := OmS.r (f := 1669) f356 hm (Or.inr rfl) (by decide) FO
      have CTx := CTx.r f356 hm
      refine w_goto d300_359 ?_
      refine w_return d300_482 ?_
      refine kk _ T FR356 (Or.inl rfl) ⟨_, FO⟩ ?_
      rw [wk3] at AP
      simp only [← addBs_app, List.append_assoc] at TE
      rw [AP]
      exact TE
    by_cases s21 : qrT l = 21
    · refine w_tsw 362 d300_46 (by rw [s21]; decide) ?_
      have AP := AP
      unfold asP at AP
      rw [if_neg (by omega), if_neg (by omega), if_neg (by omega), if_pos (by rw [s21]; decide)] at AP
      obtain ⟨q1, q2, q3, q4⟩ := hnm (by rw [s21]; decide)
      obtain ⟨nn, br, TF, SE, ST, HA, NE, nb, RN, GN, SP, ED, RL, rb, GR⟩ := SX
      obtain ⟨wk, bu, bp, kf, pf, lf, ks, pb, WK, WP, BU, KP, LP, RE, CT, PT, PU, Ip, ke⟩ := SE
      refine w_iload_n d300_362 rfl ?_
      refine w_ifge d300_363 (fun c363 => ?_) (fun c363 => ?_)
      · obtain ⟨j, hj⟩ : ∃ j : Nat, tat w.1.2.2 n0 = (j : Int) := ⟨(tat w.1.2.2 n0).toNat, by omega⟩
        have tr := tat_rg w.1.2.2 n0
        have jl : j < w.1.2.2.length := by omega
        have jH := tat_H (ts := w.1.2.2) (n := n0) (by omega)
        rw [show (tat w.1.2.2 n0).toNat = j by omega] at jH
        rw [hj]
        have ejt : (tat w.1.2.2 (qrA l (qrN l)).1).toNat = j := by rw [← q1]; omega
        refine w_aload_n d300_376 rfl ?_
        refine w_getI (x := ((qrT l : Nat) : Int)) d300_377 (ok.kd hm) NK ?_
        refine w_bipush d300_380 (by decide) ?_
        refine w_icmpne d300_382 (fun c382 => ?_) (fun c382 => ?_)
        · omega
        · refine w_aload_n d300_385 rfl ?_
          refine w_iload_n d300_386 rfl ?_
          refine w_callv2 d300_387 (by omega) rfl (ok.kd hm) (by simp) (Nat.le_of_ble_eq_true rfl) ?_
          refine k_M_tellAnew (t := j) ok (by omega) hm NF TE FO PT PU tg jl jH (fun t ht => ⟨(I.1.2.2.1 t).2.1.ok, ⟨(rix (tgR (tD w.1.2.2 t))).toNat, by have := (NF.2.2.2.2 t ht).2.2.2.2.2.1; omega⟩⟩) (fun u => (I.1.2.2.1 u).1.cl) (fun h387 s D B bu2 T2 f387 FO2 a1 a2 a3 a4 TE => ?_)
          have ok387 := f387.ok
          have FR387 := Fr.le (F := [1669, 1677, 1681, 1682, 1683, 1684, 1685, 1686, 1687, 1688, 1689, 1690, 1691, 1692, 1693, 1694, 1695, 1696, 1697, 1698, 1699, 1700, 1726, 1727, 1732, 1733, 1762, 1763]) f387 (by decide)
          have NF := DfC.r (f := 1664) f387 hm (by decide) NF
          have RS := RsR.s f387 hm RS
          have RQ := RQ.r f387 hm
          have NK := (f387.i 1739).trans NK
          have NM := NM.r f387 hm
          refine w_goto d300_390 ?_
          refine w_return d300_482 ?_
          exact kk _ T2 FR387 (Or.inr ⟨s21, by rw [← q1]; omega, by rw [ejt]; exact ⟨s, D, B, bu2, bp, lf, pb, a1, a2, a3, Ip, a4⟩⟩) ⟨_, FO2⟩ TE
      · have AP := AP (Or.inr (by rw [q1] at c363; omega))
        unfold chR at AP
        rw [if_neg (by omega : ¬ qrT l = 24), if_pos (Or.inl (by rw [q1] at c363; omega))] at AP
        refine w_aload_n d300_366 rfl ?_
        obtain ⟨g367, v367, s367⟩ := tg.al ok 33 (by decide)
        refine w_getstaticS d300_367 v367 ?_
        refine w_callv2 d300_370 (by omega) rfl (ok.kd hm) (by simp) (Nat.le_of_ble_eq_true rfl) ?_
        refine k_M_say ok (by omega) hm TE s367 (fun h370 m370 q370 TE => ?_)
        have f370 : Fr S m [1732, 1733] _ _ := Fr.mk ok m370 (fun ζ q => q.elim ((fun ζ e => Or.inl e) ζ) ((fun ζ e => Or.inr ⟨1732, by decide, e ▸ U_refl⟩) ζ)) q370 (by decide)
        have ok370 := f370.ok
        have FR370 := Fr.le (F := [1669, 1677, 1681, 1682, 1683, 1684, 1685, 1686, 1687, 1688, 1689, 1690, 1691, 1692, 1693, 1694, 1695, 1696, 1697, 1698, 1699, 1700, 1726, 1727, 1732, 1733, 1762, 1763]) f370 (by decide)
        have NF := DfC.r (f := 1664) f370 hm (by decide) NF
        have RS := RsR.s f370 hm RS
        have RQ := RQ.r f370 hm
        have NK := (f370.i 1739).trans NK
        have NM := NM.r f370 hm
        have FO := OmS.r (f := 1669) f370 hm (Or.inr rfl) (by decide) FO
        refine w_goto d300_373 ?_
        refine w_return d300_482 ?_
        refine kk _ T FR370 (Or.inl rfl) ⟨_, FO⟩ ?_
        rw [AP]
        exact TE
    by_cases s22 : qrT l = 22
    · refine w_tsw 362 d300_46 (by rw [s22]; decide) ?_
      have AP := AP
      unfold asP at AP
      rw [if_neg (by omega), if_neg (by omega), if_neg (by omega), if_pos (by rw [s22]; decide)] at AP
      obtain ⟨q1, q2, q3, q4⟩ := hnm (by rw [s22]; decide)
      refine w_iload_n d300_362 rfl ?_
      refine w_ifge d300_363 (fun c363 => ?_) (fun c363 => ?_)
      · obtain ⟨j, hj⟩ : ∃ j : Nat, tat w.1.2.2 n0 = (j : Int) := ⟨(tat w.1.2.2 n0).toNat, by omega⟩
        have tr := tat_rg w.1.2.2 n0
        have jl : j < w.1.2.2.length := by omega
        have jH := tat_H (ts := w.1.2.2) (n := n0) (by omega)
        rw [show (tat w.1.2.2 n0).toNat = j by omega] at jH
        rw [hj]
        have ejt : (tat w.1.2.2 (qrA l (qrN l)).1).toNat = j := by rw [← q1]; omega
        have AP := AP (Or.inl (by omega))
        unfold chR at AP
        rw [if_neg (by omega : ¬ qrT l = 24), if_neg (by rw [← q1]; omega)] at AP
        rw [if_neg (by omega), if_pos (by omega)] at AP
        rw [ejt] at AP
        refine w_aload_n d300_376 rfl ?_
        refine w_getI (x := ((qrT l : Nat) : Int)) d300_377 (ok.kd hm) NK ?_
        refine w_bipush d300_380 (by decide) ?_
        refine w_icmpne d300_382 (fun c382 => ?_) (fun c382 => ?_)
        · refine w_aload_n d300_393 rfl ?_
          refine w_getI (x := ((qrT l : Nat) : Int)) d300_394 (ok.kd hm) NK ?_
          refine w_bipush d300_397 (by decide) ?_
          refine w_icmpne d300_399 (fun c399 => ?_) (fun c399 => ?_)
          · omega
          · refine w_aload_n d300_402 rfl ?_
            refine w_iload_n d300_403 rfl ?_
            obtain ⟨sel, ps, p1, p2, p3, AP⟩ := AP
            refine w_callv2 d300_404 (by omega) rfl (ok.kd hm) (by simp) (Nat.le_of_ble_eq_true rfl) ?_
            refine k_M_tellNeeds (t := j) ok (by omega) hm TE NF jl jH p1 p2 p3 (fun u k _ _ => ⟨((I.1.2.2.1 u).2.2.2.1 k).ok, ((I.1.2.2.1 u).2.2.2.1 k).cl⟩) (fun u => (I.1.2.2.1 u).1.cl) (fun h404 f404 TE => ?_)
            have ok404 := f404.ok
            have FR404 := Fr.le (F := [1669, 1677, 1681, 1682, 1683, 1684, 1685, 1686, 1687, 1688, 1689, 1690, 1691, 1692, 1693, 1694, 1695, 1696, 1697, 1698, 1699, 1700, 1726, 1727, 1732, 1733, 1762, 1763]) f404 (by decide)
            have NF := DfC.r (f := 1664) f404 hm (by decide) NF
            have RS := RsR.s f404 hm RS
            have SX := SxR.r f404 hm SX
            have RQ := RQ.r f404 hm
            have NK := (f404.i 1739).trans NK
            have NM := NM.r f404 hm
            have FO := OmS.r (f := 1669) f404 hm (Or.inr rfl) (by decide) FO
            refine w_goto d300_407 ?_
            refine w_return d300_482 ?_
            refine kk _ T FR404 (Or.inl rfl) ⟨_, FO⟩ ?_
            rw [AP]
            exact TE
        · omega
      · have AP := AP (Or.inl (by omega))
        unfold chR at AP
        rw [if_neg (by omega : ¬ qrT l = 24), if_pos (Or.inl (by rw [q1] at c363; omega))] at AP
        refine w_aload_n d300_366 rfl ?_
        obtain ⟨g367, v367, s367⟩ := tg.al ok 33 (by decide)
        refine w_getstaticS d300_367 v367 ?_
        refine w_callv2 d300_370 (by omega) rfl (ok.kd hm) (by simp) (Nat.le_of_ble_eq_true rfl) ?_
        refine k_M_say ok (by omega) hm TE s367 (fun h370 m370 q370 TE => ?_)
        have f370 : Fr S m [1732, 1733] _ _ := Fr.mk ok m370 (fun ζ q => q.elim ((fun ζ e => Or.inl e) ζ) ((fun ζ e => Or.inr ⟨1732, by decide, e ▸ U_refl⟩) ζ)) q370 (by decide)
        have ok370 := f370.ok
        have FR370 := Fr.le (F := [1669, 1677, 1681, 1682, 1683, 1684, 1685, 1686, 1687, 1688, 1689, 1690, 1691, 1692, 1693, 1694, 1695, 1696, 1697, 1698, 1699, 1700, 1726, 1727, 1732, 1733, 1762, 1763]) f370 (by decide)
        have NF := DfC.r (f := 1664) f370 hm (by decide) NF
        have RS := RsR.s f370 hm RS
        have SX := SxR.r f370 hm SX
        have RQ := RQ.r f370 hm
        have NK := (f370.i 1739).trans NK
        have NM := NM.r f370 hm
        have FO := OmS.r (f := 1669) f370 hm (Or.inr rfl) (by decide) FO
        refine w_goto d300_373 ?_
        refine w_return d300_482 ?_
        refine kk _ T FR370 (Or.inl rfl) ⟨_, FO⟩ ?_
        rw [AP]
        exact TE
    by_cases s25 : qrT l = 25
    · refine w_tsw 362 d300_46 (by rw [s25]; decide) ?_
      have AP := AP
      unfold asP at AP
      rw [if_neg (by omega), if_neg (by omega), if_neg (by omega), if_pos (by rw [s25]; decide)] at AP
      obtain ⟨q1, q2, q3, q4⟩ := hnm (by rw [s25]; decide)
      refine w_iload_n d300_362 rfl ?_
      refine w_ifge d300_363 (fun c363 => ?_) (fun c363 => ?_)
      · obtain ⟨j, hj⟩ : ∃ j : Nat, tat w.1.2.2 n0 = (j : Int) := ⟨(tat w.1.2.2 n0).toNat, by omega⟩
        have tr := tat_rg w.1.2.2 n0
        have jl : j < w.1.2.2.length := by omega
        have jH := tat_H (ts := w.1.2.2) (n := n0) (by omega)
        rw [show (tat w.1.2.2 n0).toNat = j by omega] at jH
        rw [hj]
        have ejt : (tat w.1.2.2 (qrA l (qrN l)).1).toNat = j := by rw [← q1]; omega
        have AP := AP (Or.inl (by omega))
        unfold chR at AP
        rw [if_neg (by omega : ¬ qrT l = 24), if_neg (by rw [← q1]; omega)] at AP
        rw [if_neg (by omega), if_neg (by omega), if_neg (by omega)] at AP
        rw [ejt] at AP
        refine w_aload_n d300_376 rfl ?_
        refine w_getI (x := ((qrT l : Nat) : Int)) d300_377 (ok.kd hm) NK ?_
        refine w_bipush d300_380 (by decide) ?_
        refine w_icmpne d300_382 (fun c382 => ?_) (fun c382 => ?_)
        · refine w_aload_n d300_393 rfl ?_
          refine w_getI (x := ((qrT l : Nat) : Int)) d300_394 (ok.kd hm) NK ?_
          refine w_bipush d300_397 (by decide) ?_
          refine w_icmpne d300_399 (fun c399 => ?_) (fun c399 => ?_)
          · refine w_aload_n d300_410 rfl ?_
            refine w_iload_n d300_411 rfl ?_
            obtain ⟨mk, p1, AP⟩ := AP
            refine w_callv2 d300_412 (by omega) rfl (ok.kd hm) (by simp) (Nat.le_of_ble_eq_true rfl) ?_
            refine k_M_tellLongest (t := j) ok (by omega) hm TE NF jl jH p1 I.1.2.1 (fun u => (I.1.2.2.1 u).1.cl) (fun h412 f412 TE => ?_)
            have ok412 := f412.ok
            have FR412 := Fr.le (F := [1669, 1677, 1681, 1682, 1683, 1684, 1685, 1686, 1687, 1688, 1689, 1690, 1691, 1692, 1693, 1694, 1695, 1696, 1697, 1698, 1699, 1700, 1726, 1727, 1732, 1733, 1762, 1763]) f412 (by decide)
            have NF := DfC.r (f := 1664) f412 hm (by decide) NF
            have RS := RsR.s f412 hm RS
            have SX := SxR.r f412 hm SX
            have RQ := RQ.r f412 hm
            have NK := (f412.i 1739).trans NK
            have NM := NM.r f412 hm
            have FO := OmS.r (f := 1669) f412 hm (Or.inr rfl) (by decide) FO
            refine w_goto d300_415 ?_
            refine w_return d300_482 ?_
            refine kk _ T FR412 (Or.inl rfl) ⟨_, FO⟩ ?_
            rw [AP]
            exact TE
          · omega
        · omega
      · have AP := AP (Or.inl (by omega))
        unfold chR at AP
        rw [if_neg (by omega : ¬ qrT l = 24), if_pos (Or.inl (by rw [q1] at c363; omega))] at AP
        refine w_aload_n d300_366 rfl ?_
        obtain ⟨g367, v367, s367⟩ := tg.al ok 33 (by decide)
        refine w_getstaticS d300_367 v367 ?_
        refine w_callv2 d300_370 (by omega) rfl (ok.kd hm) (by simp) (Nat.le_of_ble_eq_true rfl) ?_
        refine k_M_say ok (by omega) hm TE s367 (fun h370 m370 q370 TE => ?_)
        have f370 : Fr S m [1732, 1733] _ _ := Fr.mk ok m370 (fun ζ q => q.elim ((fun ζ e => Or.inl e) ζ) ((fun ζ e => Or.inr ⟨1732, by decide, e ▸ U_refl⟩) ζ)) q370 (by decide)
        have ok370 := f370.ok
        have FR370 := Fr.le (F := [1669, 1677, 1681, 1682, 1683, 1684, 1685, 1686, 1687, 1688, 1689, 1690, 1691, 1692, 1693, 1694, 1695, 1696, 1697, 1698, 1699, 1700, 1726, 1727, 1732, 1733, 1762, 1763]) f370 (by decide)
        have NF := DfC.r (f := 1664) f370 hm (by decide) NF
        have RS := RsR.s f370 hm RS
        have SX := SxR.r f370 hm SX
        have RQ := RQ.r f370 hm
        have NK := (f370.i 1739).trans NK
        have NM := NM.r f370 hm
        have FO := OmS.r (f := 1669) f370 hm (Or.inr rfl) (by decide) FO
        refine w_goto d300_373 ?_
        refine w_return d300_482 ?_
        refine kk _ T FR370 (Or.inl rfl) ⟨_, FO⟩ ?_
        rw [AP]
        exact TE
    by_cases s23 : qrT l = 23
    · refine w_tsw 418 d300_46 (by rw [s23]; decide) ?_
      have AP := AP
      unfold asP at AP
      rw [if_neg (by omega), if_neg (by omega), if_pos (by omega)] at AP
      obtain ⟨q1, q2, q3, q4⟩ := hnm (by rw [s23]; decide)
      obtain ⟨sel, p1, AP⟩ := AP
      refine w_aload_n d300_418 rfl ?_
      refine w_callv1 d300_419 (by omega) rfl (ok.kd hm) (by simp) (Nat.le_of_ble_eq_true rfl) ?_
      refine k_M_tellUsers ok (by omega) hm TE NF RQ NM ⟨q3, q2⟩ (by rw [q4]; exact p1) (fun u => (I.1.2.2.1 u).1.cl) (fun h419 f419 TE => ?_)
      have ok419 := f419.ok
      have FR419 := Fr.le (F := [1669, 1677, 1681, 1682, 1683, 1684, 1685, 1686, 1687, 1688, 1689, 1690, 1691, 1692, 1693, 1694, 1695, 1696, 1697, 1698, 1699, 1700, 1726, 1727, 1732, 1733, 1762, 1763]) f419 (by decide)
      have NF := DfC.r (f := 1664) f419 hm (by decide) NF
      have RS := RsR.s f419 hm RS
      have SX := SxR.r f419 hm SX
      have RQ := RQ.r f419 hm
      have NK := (f419.i 1739).trans NK
      have NM := NM.r f419 hm
      have FO := OmS.r (f := 1669) f419 hm (Or.inr rfl) (by decide) FO
      refine w_goto d300_422 ?_
      refine w_return d300_482 ?_
      refine kk _ T FR419 (Or.inl rfl) ⟨_, FO⟩ ?_
      rw [AP]
      exact TE
    by_cases s24 : qrT l = 24
    · refine w_tsw 425 d300_46 (by rw [s24]; decide) ?_
      have AP := AP
      unfold asP at AP
      rw [if_neg (by omega), if_neg (by omega), if_neg (by omega), if_pos (by rw [s24]; decide)] at AP
      obtain ⟨q1, q2, q3, q4⟩ := hnm (by rw [s24]; decide)
      have AP := AP (Or.inl (by omega))
      unfold chR at AP
      rw [if_pos (by omega : qrT l = 24)] at AP
      obtain ⟨f2, e2, F2, E2, o3, o4, eN2⟩ := RD.2.2.2.1 s24
      have nl2 := sl_len ⟨o3, o4⟩
      have sg2 := RQ.2.2.sub ⟨o3, o4⟩
      have eN2 : sl l f2 e2 = qr2 l := eN2
      rw [eN2] at nl2 sg2
      have tr := tat_rg w.1.2.2 n0
      have tx := tix_rg w.1.2.2 (qr2 l)
      have hl14 := NF.2.2.2.1
      refine w_aload_n d300_425 rfl ?_
      refine w_aload_n d300_426 rfl ?_
      refine w_getI (x := ((f2 : Nat) : Int)) d300_427 (ok.kd hm) F2 ?_
      refine w_aload_n d300_430 rfl ?_
      refine w_getI (x := ((e2 : Nat) : Int)) d300_431 (ok.kd hm) E2 ?_
      refine w_callv3 d300_434 (by omega) rfl (ok.kd hm) (by simp) (Nat.le_of_ble_eq_true rfl) ?_
      refine k_M_numberOf ok (by omega) hm NF (by omega) sg2 ?_
      refine w_istore3 d300_437 rfl ?_
      refine w_iload_n d300_438 rfl ?_
      refine w_iflt d300_439 (fun c439 => ?_) (fun c439 => ?_)
      · rw [if_pos (Or.inl (by rw [← q1]; omega))] at AP
        refine w_aload_n d300_458 rfl ?_
        obtain ⟨g459, v459, s459⟩ := tg.al ok 33 (by decide)
        refine w_getstaticS d300_459 v459 ?_
        refine w_callv2 d300_462 (by omega) rfl (ok.kd hm) (by simp) (Nat.le_of_ble_eq_true rfl) ?_
        refine k_M_say ok (by omega) hm TE s459 (fun h462 m462 q462 TE => ?_)
        have f462 : Fr S m [1732, 1733] _ _ := Fr.mk ok m462 (fun ζ q => q.elim ((fun ζ e => Or.inl e) ζ) ((fun ζ e => Or.inr ⟨1732, by decide, e ▸ U_refl⟩) ζ)) q462 (by decide)
        have ok462 := f462.ok
        have FR462 := Fr.le (F := [1669, 1677, 1681, 1682, 1683, 1684, 1685, 1686, 1687, 1688, 1689, 1690, 1691, 1692, 1693, 1694, 1695, 1696, 1697, 1698, 1699, 1700, 1726, 1727, 1732, 1733, 1762, 1763]) f462 (by decide)
        have NF := DfC.r (f := 1664) f462 hm (by decide) NF
        have RS := RsR.s f462 hm RS
        have SX := SxR.r f462 hm SX
        have RQ := RQ.r f462 hm
        have NK := (f462.i 1739).trans NK
        have NM := NM.r f462 hm
        have FO := OmS.r (f := 1669) f462 hm (Or.inr rfl) (by decide) FO
        refine w_goto d300_465 ?_
        refine w_return d300_482 ?_
        refine kk _ T FR462 (Or.inl rfl) ⟨_, FO⟩ ?_
        rw [AP]
        exact TE
      · refine w_iload_n d300_442 rfl ?_
        refine w_iflt d300_443 (fun c443 => ?_) (fun c443 => ?_)
        · rw [if_pos (Or.inr (by have := tat_neg (ts := w.1.2.2) (n := qr2 l) (by omega); omega))] at AP
          refine w_aload_n d300_458 rfl ?_
          obtain ⟨g459, v459, s459⟩ := tg.al ok 33 (by decide)
          refine w_getstaticS d300_459 v459 ?_
          refine w_callv2 d300_462 (by omega) rfl (ok.kd hm) (by simp) (Nat.le_of_ble_eq_true rfl) ?_
          refine k_M_say ok (by omega) hm TE s459 (fun h462 m462 q462 TE => ?_)
          have f462 : Fr S m [1732, 1733] _ _ := Fr.mk ok m462 (fun ζ q => q.elim ((fun ζ e => Or.inl e) ζ) ((fun ζ e => Or.inr ⟨1732, by decide, e ▸ U_refl⟩) ζ)) q462 (by decide)
          have ok462 := f462.ok
          have FR462 := Fr.le (F := [1669, 1677, 1681, 1682, 1683, 1684, 1685, 1686, 1687, 1688, 1689, 1690, 1691, 1692, 1693, 1694, 1695, 1696, 1697, 1698, 1699, 1700, 1726, 1727, 1732, 1733, 1762, 1763]) f462 (by decide)
          have NF := DfC.r (f := 1664) f462 hm (by decide) NF
          have RS := RsR.s f462 hm RS
          have SX := SxR.r f462 hm SX
          have RQ := RQ.r f462 hm
          have NK := (f462.i 1739).trans NK
          have NM := NM.r f462 hm
          have FO := OmS.r (f := 1669) f462 hm (Or.inr rfl) (by decide) FO
          refine w_goto d300_465 ?_
          refine w_return d300_482 ?_
          refine kk _ T FR462 (Or.inl rfl) ⟨_, FO⟩ ?_
          rw [AP]
          exact TE
        · obtain ⟨j, hj⟩ : ∃ j : Nat, tix w.1.2.2 (qr2 l) = (j : Int) := ⟨(tix w.1.2.2 (qr2 l)).toNat, by omega⟩
          have jl : j < w.1.2.2.length := by omega
          rw [hj]
          obtain ⟨i, hi⟩ : ∃ i : Nat, tat w.1.2.2 n0 = (i : Int) := ⟨(tat w.1.2.2 n0).toNat, by omega⟩
          have il : i < w.1.2.2.length := by omega
          have iH := tat_H (ts := w.1.2.2) (n := n0) (by omega)
          rw [show (tat w.1.2.2 n0).toNat = i by omega] at iH
          rw [hi]
          refine w_aload_n d300_446 rfl ?_
          refine w_dloadS d300_447 (ok.kd hm) (fr1664 ok hm) ?_
          refine w_dloadS d300_450 (ok.kd (kT1664 ok hm)) (fr1420 ok (kT1664 ok hm)) ?_
          refine w_iload_n d300_453 rfl ?_
          refine w_baloadV (x := (b2i (tH w.1.2.2 j))) d300_454 (gi1420 ok (kT1664 ok hm) (by omega)) (NF.2.2.2.2 j jl).2.2.2.1 ?_
          refine w_ifne d300_455 (fun c455 => ?_) (fun c455 => ?_)
          · have ht_ : (tH w.1.2.2 j) = true := by
              cases hz : (tH w.1.2.2 j) with
              | true => rfl
              | false => rw [hz] at c455; exact absurd rfl c455
            have ty := tat_yes (ts := w.1.2.2) (n := qr2 l) hj ht_
            rw [if_neg (by rw [← q1, ty, hi]; omega), if_neg (by omega), if_neg (by omega), if_pos (by omega), show (tat w.1.2.2 (qr2 l)).toNat = j by omega, show (tat w.1.2.2 (qrA l (qrN l)).1).toNat = i by rw [← q1]; omega] at AP
            obtain ⟨mk, p1, AP⟩ := AP
            refine w_aload_n d300_468 rfl ?_
            refine w_iload_n d300_469 rfl ?_
            refine w_iload_n d300_470 rfl ?_
            refine w_callv3 d300_471 (by omega) rfl (ok.kd hm) (by simp) (Nat.le_of_ble_eq_true rfl) ?_
            refine k_M_tellWay (t := i) (u := j) ok (by omega) hm TE NF tg il iH jl p1 (fun u => (I.1.2.2.1 u).1.cl) (fun h471 f471 TE => ?_)
            have ok471 := f471.ok
            have FR471 := Fr.le (F := [1669, 1677, 1681, 1682, 1683, 1684, 1685, 1686, 1687, 1688, 1689, 1690, 1691, 1692, 1693, 1694, 1695, 1696, 1697, 1698, 1699, 1700, 1726, 1727, 1732, 1733, 1762, 1763]) f471 (by decide)
            have NF := DfC.r (f := 1664) f471 hm (by decide) NF
            have RS := RsR.s f471 hm RS
            have SX := SxR.r f471 hm SX
            have RQ := RQ.r f471 hm
            have NK := (f471.i 1739).trans NK
            have NM := NM.r f471 hm
            have FO := OmS.r (f := 1669) f471 hm (Or.inr rfl) (by decide) FO
            refine w_goto d300_474 ?_
            refine w_return d300_482 ?_
            refine kk _ T FR471 (Or.inl rfl) ⟨_, FO⟩ ?_
            rw [AP]
            exact TE
          · have hf : (tH w.1.2.2 j) = false := by
              cases hz : (tH w.1.2.2 j) with
              | true => rw [hz] at c455; exact absurd c455 (by decide)
              | false => rfl
            rw [if_pos (Or.inr (by have := tat_no (ts := w.1.2.2) (n := qr2 l) hj hf; omega))] at AP
            refine w_aload_n d300_458 rfl ?_
            obtain ⟨g459, v459, s459⟩ := tg.al ok 33 (by decide)
            refine w_getstaticS d300_459 v459 ?_
            refine w_callv2 d300_462 (by omega) rfl (ok.kd hm) (by simp) (Nat.le_of_ble_eq_true rfl) ?_
            refine k_M_say ok (by omega) hm TE s459 (fun h462 m462 q462 TE => ?_)
            have f462 : Fr S m [1732, 1733] _ _ := Fr.mk ok m462 (fun ζ q => q.elim ((fun ζ e => Or.inl e) ζ) ((fun ζ e => Or.inr ⟨1732, by decide, e ▸ U_refl⟩) ζ)) q462 (by decide)
            have ok462 := f462.ok
            have FR462 := Fr.le (F := [1669, 1677, 1681, 1682, 1683, 1684, 1685, 1686, 1687, 1688, 1689, 1690, 1691, 1692, 1693, 1694, 1695, 1696, 1697, 1698, 1699, 1700, 1726, 1727, 1732, 1733, 1762, 1763]) f462 (by decide)
            have NF := DfC.r (f := 1664) f462 hm (by decide) NF
            have RS := RsR.s f462 hm RS
            have SX := SxR.r f462 hm SX
            have RQ := RQ.r f462 hm
            have NK := (f462.i 1739).trans NK
            have NM := NM.r f462 hm
            have FO := OmS.r (f := 1669) f462 hm (Or.inr rfl) (by decide) FO
            refine w_goto d300_465 ?_
            refine w_return d300_482 ?_
            refine kk _ T FR462 (Or.inl rfl) ⟨_, FO⟩ ?_
            rw [AP]
            exact TE
    refine w_tsw 477 d300_46 (by rw [if_pos (Or.inr (by omega))]) ?_
    have AP := AP
    unfold asP at AP
    rw [if_neg (by omega), if_neg (by omega), if_neg (by omega), if_neg (by intro z; have := kd_2 ⟨_, t35⟩ z; simp only at this; omega), if_neg (by omega)] at AP
    refine w_aload_n d300_477 rfl ?_
    refine w_iload_n d300_478 rfl ?_
    refine w_callv2 d300_479 (by omega) rfl (ok.kd hm) (by simp) (Nat.le_of_ble_eq_true rfl) ?_
    refine k_M_askMoreA ok (by omega) hm NF RS SX TE RQ NK RD tg er ⟨by omega, by omega⟩ (fun z => hu (by rw [z]; decide)) h4 I (by omega) (fun h479 f479 TE => ?_)
    have ok479 := f479.ok
    have FR479 := Fr.le (F := [1669, 1677, 1681, 1682, 1683, 1684, 1685, 1686, 1687, 1688, 1689, 1690, 1691, 1692, 1693, 1694, 1695, 1696, 1697, 1698, 1699, 1700, 1726, 1727, 1732, 1733, 1762, 1763]) f479 (by decide)
    have NF := DfC.r (f := 1664) f479 hm (by decide) NF
    have RS := RsR.s f479 hm RS
    have SX := SxR.r f479 hm SX
    have RQ := RQ.r f479 hm
    have NK := (f479.i 1739).trans NK
    have NM := NM.r f479 hm
    have FO := OmS.r (f := 1669) f479 hm (Or.inr rfl) (by decide) FO
    refine w_return d300_482 ?_
    refine kk _ T FR479 (Or.inl rfl) ⟨_, FO⟩ ?_
    rw [AP]
    exact TE
  refine w_icmpeq d300_11 (fun c11 => ?_) (fun c11 => ?_)
  · have nn_ : ¬ nmQ (qrT l) = true := fun z => by rw [show qrT l = 13 by omega] at z; exact absurd z (by decide)
    refine w_iconst d300_25 (by decide) ?_
    refine w_goto d300_26 ?_
    refine w_less ?_ (L41 _ (-1) rfl (fun z => absurd z nn_))
    exact ⟨Or.inr rfl, Or.inr rfl, Or.inl rfl, Or.inl rfl, trivial⟩
  · refine w_aload_n d300_14 rfl ?_
    refine w_getI (x := ((e : Nat) : Int)) d300_15 (ok.kd hm) NM.2 ?_
    refine w_aload_n d300_18 rfl ?_
    refine w_getI (x := ((l.length : Nat) : Int)) d300_19 (ok.kd hm) RQ.1 ?_
    refine w_icmple d300_22 (fun c22 => ?_) (fun c22 => ?_)
    · refine w_aload_n d300_29 rfl ?_
      refine w_aload_n d300_30 rfl ?_
      refine w_getI (x := ((f : Nat) : Int)) d300_31 (ok.kd hm) NM.1 ?_
      refine w_aload_n d300_34 rfl ?_
      refine w_getI (x := ((e : Nat) : Int)) d300_35 (ok.kd hm) NM.2 ?_
      refine w_callv3 d300_38 (by omega) rfl (ok.kd hm) (by simp) (Nat.le_of_ble_eq_true rfl) ?_
      refine k_M_numberOf ok (by omega) hm NF hn sg ?_
      refine w_less ?_ (L41 _ (tix w.1.2.2 n0) rfl (fun z => by rw [(hnm z).1]))
      exact ⟨Or.inr rfl, Or.inr rfl, Or.inl rfl, Or.inl rfl, trivial⟩
    · have nn_ : ¬ nmQ (qrT l) = true := fun z => by have := (hnm z).2.1; omega
      refine w_iconst d300_25 (by decide) ?_
      refine w_goto d300_26 ?_
      refine w_less ?_ (L41 _ (-1) rfl (fun z => absurd z nn_))
      exact ⟨Or.inr rfl, Or.inr rfl, Or.inl rfl, Or.inl rfl, trivial⟩
