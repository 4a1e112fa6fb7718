/-! the house: what is shown -/
/-- what a verb shows; sel: the users -/
def shT (t : Nat) (v : HoS) (n : List Nat) (sel : Nat → Bool) (cu : Bool) : List Nat :=
  if t = 13 then flTxt v.1.1 v.1.1.length else if t = 14 then (if fix v.1.1 n < 0 then txt 29 else (fB v.1.1 (fix v.1.1 n).toNat).map told) else if t = 15 then tsTxt v.1.2.2 v.1.2.2.length else if t = 16 then (if hpB (seGo v.2.2).1 (tix v.1.2.2 n) = true then (oO ((seGo v.2.2).1 (tix v.1.2.2 n).toNat)).map told else txt 4) else if t = 17 then (if hpB (seGo v.2.2).1 (tix v.1.2.2 n) = true then (oF ((seGo v.2.2).1 (tix v.1.2.2 n).toNat)).map told else txt 4)
  else if t = 18 then reaTxt (seGo v.2.2).2.2.1 (tix v.1.2.2 n) else if t = 19 then runT v.1.2.2 (rR (goR (seGo v.2.2))) (rR (goR (seGo v.2.2))).length else if t = 20 then wkTx (rC (goR (seGo v.2.2))) 3 else if t = 23 then mkTxt v.1.2.2 sel v.1.2.2.length else if t = 26 then dec (seGo v.2.2).2.2.2.1.length
  else if t = 27 then (if (0 ≤ tix v.1.2.2 n ∧ tix v.1.2.2 n < 14) ∧ (v.2.2.2.1 (tix v.1.2.2 n).toNat).1 = true then ediTxt (v.2.2.2.2.1 (tix v.1.2.2 n).toNat) 3 else txt 4) else (if cu = true then txt 36 else txt 40)
/-- the request's name, of the verbs that show and have one -/
def nmS (S : Shp) (h : Hp) (q t : Nat) (n : List Nat) : Prop := (t = 14 ∨ t = 16 ∨ t = 17 ∨ t = 18 ∨ t = 23 ∨ t = 27) → AL h (sT S 517 q) 0 = hd n ∧ AL h (sT S 518 q) 0 = tl n ∧ okP n ∧ (t = 16 ∨ t = 17 ∨ t = 18 ∨ t = 27 → okN n)
theorem d169_0 : dc 169 0 = some (.aload_n 0, 1) := by decide +kernel
theorem d169_1 : dc 169 1 = some (.dload 1284, 4) := by decide +kernel
theorem d169_4 : dc 169 4 = some (.aload_n 0, 5) := by decide +kernel
theorem d169_5 : dc 169 5 = some (.dload 1282, 8) := by decide +kernel
theorem d169_8 : dc 169 8 = some (.dload 517, 11) := by decide +kernel
theorem d169_11 : dc 169 11 = some (.iconst 0, 12) := by decide +kernel
theorem d169_12 : dc 169 12 = some (.laload, 13) := by decide +kernel
theorem d169_13 : dc 169 13 = some (.aload_n 0, 14) := by decide +kernel
theorem d169_14 : dc 169 14 = some (.dload 1282, 17) := by decide +kernel
theorem d169_17 : dc 169 17 = some (.dload 518, 20) := by decide +kernel
theorem d169_20 : dc 169 20 = some (.iconst 0, 21) := by decide +kernel
theorem d169_21 : dc 169 21 = some (.laload, 22) := by decide +kernel
theorem d169_22 : dc 169 22 = some (.invokevirtual 69, 25) := by decide +kernel
theorem d169_25 : dc 169 25 = some (.istore_n 1, 26) := by decide +kernel
theorem d169_26 : dc 169 26 = some (.iload_n 1, 27) := by decide +kernel
theorem d169_27 : dc 169 27 = some (.ifCond .ge ((43 : Nat) : Int), 30) := by decide +kernel
theorem d169_30 : dc 169 30 = some (.aload_n 0, 31) := by decide +kernel
theorem d169_31 : dc 169 31 = some (.dload 1281, 34) := by decide +kernel
theorem d169_34 : dc 169 34 = some (.getstatic 79, 37) := by decide +kernel
theorem d169_37 : dc 169 37 = some (.invokevirtual 84, 40) := by decide +kernel
theorem d169_40 : dc 169 40 = some (.goto ((59 : Nat) : Int), 43) := by decide +kernel
theorem d169_43 : dc 169 43 = some (.aload_n 0, 44) := by decide +kernel
theorem d169_44 : dc 169 44 = some (.dload 1281, 47) := by decide +kernel
theorem d169_47 : dc 169 47 = some (.aload_n 0, 48) := by decide +kernel
theorem d169_48 : dc 169 48 = some (.dload 1284, 51) := by decide +kernel
theorem d169_51 : dc 169 51 = some (.dload 387, 54) := by decide +kernel
theorem d169_54 : dc 169 54 = some (.iload_n 1, 55) := by decide +kernel
theorem d169_55 : dc 169 55 = some (.aaload, 56) := by decide +kernel
theorem d169_56 : dc 169 56 = some (.invokevirtual 170, 59) := by decide +kernel
theorem d169_59 : dc 169 59 = some (.return_, 60) := by decide +kernel
theorem k_Ho_showFile {S : Shp} {G : Nat → Option Nat} {d : Nat} {h : Hp} {Q : Option MV → Hp → Prop} (ok : Ok S h) (h1 : 5 ≤ d) (tg : Tg S G) {v : HoS} {n : List Nat} (pl : PlC S h (sT S 1284 (sX S)) v.1) (hnm : AL h (sT S 517 (sT S 1282 (sX S))) 0 = hd n ∧ AL h (sT S 518 (sT S 1282 (sX S))) 0 = tl n ∧ okP n ∧ True)
    (kk : ∀ h', Mo S (fun z => z = sT S 1281 (sX S)) h h' → rl h' (sT S 1281 (sX S)) = addBs (cap h (sT S 1281 (sX S))) (rl h (sT S 1281 (sX S))) (if fix v.1.1 n < 0 then txt 29 else (fB v.1.1 (fix v.1.1 n).toNat).map told) → cap h' (sT S 1281 (sX S)) = cap h (sT S 1281 (sX S)) → Q none h') : Cl G d 169 [vR (some (sX S))] h Q := by
  show Wp G d 169 0 [some (vR (some (sX S))), none] [] h Q
  have kq := kT1282 ok ok.kX
  have kp := kT1284 ok ok.kX
  have kv := kT1285 ok ok.kX
  have ks0 := kT1286 ok ok.kX
  have kl := kT1281 ok ok.kX
  obtain ⟨hx, hy, ho, hoN⟩ := hnm
  refine w_aload_n d169_0 rfl ?_
  refine w_dloadS d169_1 (ok.kd ok.kX) (fr1284 ok ok.kX) ?_
  refine w_aload_n d169_4 rfl ?_
  refine w_dloadS d169_5 (ok.kd ok.kX) (fr1282 ok ok.kX) ?_
  refine w_dloadS d169_8 (ok.kd (kT1282 ok ok.kX)) (fr517 ok (kT1282 ok ok.kX)) ?_
  refine w_iconst d169_11 (by decide) ?_
  refine w_laloadV (x := (AL h (sT S 517 (sT S 1282 (sX S))) 0)) d169_12 (gi517 ok (kT1282 ok ok.kX) (by omega)) rfl ?_
  refine w_aload_n d169_13 rfl ?_
  refine w_dloadS d169_14 (ok.kd ok.kX) (fr1282 ok ok.kX) ?_
  refine w_dloadS d169_17 (ok.kd (kT1282 ok ok.kX)) (fr518 ok (kT1282 ok ok.kX)) ?_
  refine w_iconst d169_20 (by decide) ?_
  refine w_laloadV (x := (AL h (sT S 518 (sT S 1282 (sX S))) 0)) d169_21 (gi518 ok (kT1282 ok ok.kX) (by omega)) rfl ?_
  refine w_callv3 d169_22 (by omega) rfl (ok.kd (kT1284 ok ok.kX)) (by simp) (Nat.le_of_ble_eq_true rfl) ?_
  have fr := fix_rg v.1.1 n
  refine k_Plan_fileAt ok (by omega) kp pl.1 ?_
  rw [hx, hy, fixJ_eq pl.1.okp ho]
  refine w_istore1 d169_25 rfl ?_
  refine w_iload_n d169_26 rfl ?_
  refine w_ifge d169_27 (fun c27 => ?_) (fun c27 => ?_)
  · obtain ⟨f, hf⟩ : ∃ f : Nat, fix v.1.1 n = f := ⟨_, (Int.toNat_of_nonneg (by omega)).symm⟩
    rw [hf]
    obtain ⟨σ, s1, s2, s3, s4, s5⟩ := id pl.1
    have sf := s1 f (by omega)
    refine w_aload_n d169_43 rfl ?_
    refine w_dloadS d169_44 (ok.kd ok.kX) (fr1281 ok ok.kX) ?_
    refine w_aload_n d169_47 rfl ?_
    refine w_dloadS d169_48 (ok.kd ok.kX) (fr1284 ok ok.kX) ?_
    refine w_dloadS d169_51 (ok.kd (kT1284 ok ok.kX)) (fr387 ok (kT1284 ok ok.kX)) ?_
    refine w_iload_n d169_54 rfl ?_
    refine w_aaloadSN d169_55 (gi387 ok kp (by omega)) sf.2 ?_
    refine w_callv2 d169_56 (by omega) rfl (ok.kd (kT1281 ok ok.kX)) (by simp) (Nat.le_of_ble_eq_true rfl) ?_
    refine r_Row_addTold (by omega) ok (kT1281 ok ok.kX) (kE387 ok kp sf.1) (fun e => ok.so.nUT (f := 1284) (g := 1281) (x := sX S) (by decide) (by decide) (by decide) (e ▸ ok.so.uE (by have := sf.1; omega) (ok.so.uT (by decide) U_refl))) (fun h56 m56 e56_1 e56_2 => ?_)
    have ok56 := m56.ok
    have M56 := Mo.tr ok (Mo.refl (A := (fun ζ => ζ = (sT S 1281 (sX S)))) ok) m56 (fun ζ e => e)
    refine w_return d169_59 ?_
    rw [if_neg (by omega)] at kk
    refine kk h56 M56 ?_ e56_2
    rw [e56_1, (s5 f (by omega)).2.2.1, hf]
    first | done | rfl
  · refine w_aload_n d169_30 rfl ?_
    refine w_dloadS d169_31 (ok.kd ok.kX) (fr1281 ok ok.kX) ?_
    obtain ⟨g34, v34, s34⟩ := tg.tx ok 29 (by decide)
    refine w_getstaticS d169_34 v34 ?_
    refine w_callv2 d169_37 (by omega) rfl (ok.kd (kT1281 ok ok.kX)) (by simp) (Nat.le_of_ble_eq_true rfl) ?_
    refine r_Row_addText (by omega) ok (kT1281 ok ok.kX) s34 (fun h37 m37 e37_1 e37_2 => ?_)
    have ok37 := m37.ok
    have M37 := Mo.tr ok (Mo.refl (A := (fun ζ => ζ = (sT S 1281 (sX S)))) ok) m37 (fun ζ e => e)
    refine w_goto d169_40 ?_
    refine w_return d169_59 ?_
    rw [if_pos (by omega)] at kk
    exact kk h37 M37 e37_1 e37_2
theorem d167_0 : dc 167 0 = some (.aload_n 0, 1) := by decide +kernel
theorem d167_1 : dc 167 1 = some (.dload 1284, 4) := by decide +kernel
theorem d167_4 : dc 167 4 = some (.aload_n 0, 5) := by decide +kernel
theorem d167_5 : dc 167 5 = some (.dload 1282, 8) := by decide +kernel
theorem d167_8 : dc 167 8 = some (.dload 517, 11) := by decide +kernel
theorem d167_11 : dc 167 11 = some (.iconst 0, 12) := by decide +kernel
theorem d167_12 : dc 167 12 = some (.laload, 13) := by decide +kernel
theorem d167_13 : dc 167 13 = some (.invokevirtual 74, 16) := by decide +kernel
theorem d167_16 : dc 167 16 = some (.istore_n 1, 17) := by decide +kernel
theorem d167_17 : dc 167 17 = some (.getstatic 40, 20) := by decide +kernel
theorem d167_20 : dc 167 20 = some (.aload_n 0, 21) := by decide +kernel
theorem d167_21 : dc 167 21 = some (.dload 1282, 24) := by decide +kernel
theorem d167_24 : dc 167 24 = some (.dload 514, 27) := by decide +kernel
theorem d167_27 : dc 167 27 = some (.invokestatic 2, 30) := by decide +kernel
theorem d167_30 : dc 167 30 = some (.iaload, 31) := by decide +kernel
theorem d167_31 : dc 167 31 = some (.tableswitch ((323 : Nat) : Int) 14 25 #[((92 : Nat) : Int), ((106 : Nat) : Int), ((113 : Nat) : Int), ((127 : Nat) : Int), ((146 : Nat) : Int), ((165 : Nat) : Int), ((183 : Nat) : Int), ((201 : Nat) : Int), ((215 : Nat) : Int), ((247 : Nat) : Int), ((267 : Nat) : Int), ((285 : Nat) : Int)], 92) := by decide +kernel
theorem d167_92 : dc 167 92 = some (.aload_n 0, 93) := by decide +kernel
theorem d167_93 : dc 167 93 = some (.dload 1284, 96) := by decide +kernel
theorem d167_96 : dc 167 96 = some (.aload_n 0, 97) := by decide +kernel
theorem d167_97 : dc 167 97 = some (.dload 1281, 100) := by decide +kernel
theorem d167_100 : dc 167 100 = some (.invokevirtual 168, 103) := by decide +kernel
theorem d167_103 : dc 167 103 = some (.goto ((323 : Nat) : Int), 106) := by decide +kernel
theorem d167_106 : dc 167 106 = some (.aload_n 0, 107) := by decide +kernel
theorem d167_107 : dc 167 107 = some (.invokevirtual 169, 110) := by decide +kernel
theorem d167_110 : dc 167 110 = some (.goto ((323 : Nat) : Int), 113) := by decide +kernel
theorem d167_113 : dc 167 113 = some (.aload_n 0, 114) := by decide +kernel
theorem d167_114 : dc 167 114 = some (.dload 1284, 117) := by decide +kernel
theorem d167_117 : dc 167 117 = some (.aload_n 0, 118) := by decide +kernel
theorem d167_118 : dc 167 118 = some (.dload 1281, 121) := by decide +kernel
theorem d167_121 : dc 167 121 = some (.invokevirtual 171, 124) := by decide +kernel
theorem d167_124 : dc 167 124 = some (.goto ((323 : Nat) : Int), 127) := by decide +kernel
theorem d167_127 : dc 167 127 = some (.aload_n 0, 128) := by decide +kernel
theorem d167_128 : dc 167 128 = some (.dload 1286, 131) := by decide +kernel
theorem d167_131 : dc 167 131 = some (.dload 769, 134) := by decide +kernel
theorem d167_134 : dc 167 134 = some (.iload_n 1, 135) := by decide +kernel
theorem d167_135 : dc 167 135 = some (.iconst 0, 136) := by decide +kernel
theorem d167_136 : dc 167 136 = some (.aload_n 0, 137) := by decide +kernel
theorem d167_137 : dc 167 137 = some (.dload 1281, 140) := by decide +kernel
theorem d167_140 : dc 167 140 = some (.invokevirtual 172, 143) := by decide +kernel
theorem d167_143 : dc 167 143 = some (.goto ((323 : Nat) : Int), 146) := by decide +kernel
theorem d167_146 : dc 167 146 = some (.aload_n 0, 147) := by decide +kernel
theorem d167_147 : dc 167 147 = some (.dload 1286, 150) := by decide +kernel
theorem d167_150 : dc 167 150 = some (.dload 769, 153) := by decide +kernel
theorem d167_153 : dc 167 153 = some (.iload_n 1, 154) := by decide +kernel
theorem d167_154 : dc 167 154 = some (.iconst 1, 155) := by decide +kernel
theorem d167_155 : dc 167 155 = some (.aload_n 0, 156) := by decide +kernel
theorem d167_156 : dc 167 156 = some (.dload 1281, 159) := by decide +kernel
theorem d167_159 : dc 167 159 = some (.invokevirtual 172, 162) := by decide +kernel
theorem d167_162 : dc 167 162 = some (.goto ((323 : Nat) : Int), 165) := by decide +kernel
theorem d167_165 : dc 167 165 = some (.aload_n 0, 166) := by decide +kernel
theorem d167_166 : dc 167 166 = some (.dload 1286, 169) := by decide +kernel
theorem d167_169 : dc 167 169 = some (.dload 769, 172) := by decide +kernel
theorem d167_172 : dc 167 172 = some (.iload_n 1, 173) := by decide +kernel
theorem d167_173 : dc 167 173 = some (.aload_n 0, 174) := by decide +kernel
theorem d167_174 : dc 167 174 = some (.dload 1281, 177) := by decide +kernel
theorem d167_177 : dc 167 177 = some (.invokevirtual 173, 180) := by decide +kernel
theorem d167_180 : dc 167 180 = some (.goto ((323 : Nat) : Int), 183) := by decide +kernel
theorem d167_183 : dc 167 183 = some (.aload_n 0, 184) := by decide +kernel
theorem d167_184 : dc 167 184 = some (.dload 1286, 187) := by decide +kernel
theorem d167_187 : dc 167 187 = some (.aload_n 0, 188) := by decide +kernel
theorem d167_188 : dc 167 188 = some (.dload 1284, 191) := by decide +kernel
theorem d167_191 : dc 167 191 = some (.aload_n 0, 192) := by decide +kernel
theorem d167_192 : dc 167 192 = some (.dload 1281, 195) := by decide +kernel
theorem d167_195 : dc 167 195 = some (.invokevirtual 174, 198) := by decide +kernel
theorem d167_198 : dc 167 198 = some (.goto ((323 : Nat) : Int), 201) := by decide +kernel
theorem d167_201 : dc 167 201 = some (.aload_n 0, 202) := by decide +kernel
theorem d167_202 : dc 167 202 = some (.dload 1286, 205) := by decide +kernel
theorem d167_205 : dc 167 205 = some (.aload_n 0, 206) := by decide +kernel
theorem d167_206 : dc 167 206 = some (.dload 1281, 209) := by decide +kernel
theorem d167_209 : dc 167 209 = some (.invokevirtual 175, 212) := by decide +kernel
theorem d167_212 : dc 167 212 = some (.goto ((323 : Nat) : Int), 215) := by decide +kernel
theorem d167_215 : dc 167 215 = some (.aload_n 0, 216) := by decide +kernel
theorem d167_216 : dc 167 216 = some (.dload 1284, 219) := by decide +kernel
theorem d167_219 : dc 167 219 = some (.aload_n 0, 220) := by decide +kernel
theorem d167_220 : dc 167 220 = some (.dload 1282, 223) := by decide +kernel
theorem d167_223 : dc 167 223 = some (.dload 517, 226) := by decide +kernel
theorem d167_226 : dc 167 226 = some (.iconst 0, 227) := by decide +kernel
theorem d167_227 : dc 167 227 = some (.laload, 228) := by decide +kernel
theorem d167_228 : dc 167 228 = some (.aload_n 0, 229) := by decide +kernel
theorem d167_229 : dc 167 229 = some (.dload 1282, 232) := by decide +kernel
theorem d167_232 : dc 167 232 = some (.dload 518, 235) := by decide +kernel
theorem d167_235 : dc 167 235 = some (.iconst 0, 236) := by decide +kernel
theorem d167_236 : dc 167 236 = some (.laload, 237) := by decide +kernel
theorem d167_237 : dc 167 237 = some (.aload_n 0, 238) := by decide +kernel
theorem d167_238 : dc 167 238 = some (.dload 1281, 241) := by decide +kernel
theorem d167_241 : dc 167 241 = some (.invokevirtual 176, 244) := by decide +kernel
theorem d167_244 : dc 167 244 = some (.goto ((323 : Nat) : Int), 247) := by decide +kernel
theorem d167_247 : dc 167 247 = some (.aload_n 0, 248) := by decide +kernel
theorem d167_248 : dc 167 248 = some (.dload 1281, 251) := by decide +kernel
theorem d167_251 : dc 167 251 = some (.aload_n 0, 252) := by decide +kernel
theorem d167_252 : dc 167 252 = some (.dload 1286, 255) := by decide +kernel
theorem d167_255 : dc 167 255 = some (.dload 769, 258) := by decide +kernel
theorem d167_258 : dc 167 258 = some (.getfield 901, 261) := by decide +kernel
theorem d167_261 : dc 167 261 = some (.invokevirtual 124, 264) := by decide +kernel
theorem d167_264 : dc 167 264 = some (.goto ((323 : Nat) : Int), 267) := by decide +kernel
theorem d167_267 : dc 167 267 = some (.aload_n 0, 268) := by decide +kernel
theorem d167_268 : dc 167 268 = some (.dload 1286, 271) := by decide +kernel
theorem d167_271 : dc 167 271 = some (.dload 769, 274) := by decide +kernel
theorem d167_274 : dc 167 274 = some (.iload_n 1, 275) := by decide +kernel
theorem d167_275 : dc 167 275 = some (.aload_n 0, 276) := by decide +kernel
theorem d167_276 : dc 167 276 = some (.dload 1281, 279) := by decide +kernel
theorem d167_279 : dc 167 279 = some (.invokevirtual 142, 282) := by decide +kernel
theorem d167_282 : dc 167 282 = some (.goto ((323 : Nat) : Int), 285) := by decide +kernel
theorem d167_285 : dc 167 285 = some (.aload_n 0, 286) := by decide +kernel
theorem d167_286 : dc 167 286 = some (.dload 1281, 289) := by decide +kernel
theorem d167_289 : dc 167 289 = some (.aload_n 0, 290) := by decide +kernel
theorem d167_290 : dc 167 290 = some (.dload 1283, 293) := by decide +kernel
theorem d167_293 : dc 167 293 = some (.aload_n 0, 294) := by decide +kernel
theorem d167_294 : dc 167 294 = some (.dload 1282, 297) := by decide +kernel
theorem d167_297 : dc 167 297 = some (.dload 520, 300) := by decide +kernel
theorem d167_300 : dc 167 300 = some (.iconst 0, 301) := by decide +kernel
theorem d167_301 : dc 167 301 = some (.iaload, 302) := by decide +kernel
theorem d167_302 : dc 167 302 = some (.invokevirtual 178, 305) := by decide +kernel
theorem d167_305 : dc 167 305 = some (.ifCond .eq ((314 : Nat) : Int), 308) := by decide +kernel
theorem d167_308 : dc 167 308 = some (.getstatic 86, 311) := by decide +kernel
theorem d167_311 : dc 167 311 = some (.goto ((317 : Nat) : Int), 314) := by decide +kernel
theorem d167_314 : dc 167 314 = some (.getstatic 90, 317) := by decide +kernel
theorem d167_317 : dc 167 317 = some (.invokevirtual 84, 320) := by decide +kernel
theorem d167_320 : dc 167 320 = some (.goto ((323 : Nat) : Int), 323) := by decide +kernel
theorem d167_323 : dc 167 323 = some (.return_, 324) := by decide +kernel
theorem k_Ho_show {S : Shp} {G : Nat → Option Nat} {d : Nat} {h : Hp} {Q : Option MV → Hp → Prop} (ok : Ok S h) (h1 : 8 ≤ d) (tg : Tg S G) {t : Nat} (ht35 : t < 35) (hvb : FR h 514 (sT S 1282 (sX S)) = G t) (ht : t = 13 ∨ t = 14 ∨ t = 15 ∨ t = 16 ∨ t = 17 ∨ t = 18 ∨ t = 19 ∨ t = 20 ∨ t = 23 ∨ t = 26 ∨ t = 27 ∨ t = 33) {v : HoS} {n : List Nat} {m : Nat} {b0 : BkV} (D : HoC S h v) (Bk : BoC S h b0.1 b0.2.1 b0.2.2.1 b0.2.2.2) (hnm : nmS S h (sT S 1282 (sX S)) t n) (hcm : t = 33 → AI h (sT S 520 (sT S 1282 (sX S))) 0 = (m : Nat)) (hla : rl h (sT S 1281 (sX S)) = []) (hPQ : (sePl v.2.2).2.2.length ≤ v.1.2.2.length)
    (kk : ∀ h' sel cu b', Mo S (fun z => z = sT S 1281 (sX S) ∨ U S (sT S 1283 (sX S)) z ∨ z = sT S 393 (sT S 1284 (sX S))) h h' → (t = 23 → ((∀ u, u < v.1.2.2.length → (sel u = true ↔ ∃ z, z < v.1.2.2.length ∧ (tH v.1.2.2 z = true ∧ namesF (tgI (tD v.1.2.2 z)) n = true) ∧ Rc v.1.2.2 u z)))) → HoC S h' v → BoV S h' b' → (t = 33 → (cu = true ↔ 0 ≤ b0.2.2.1 ∧ (m : Int) ≤ b0.2.1 - b0.2.2.1)) → (b' = if t = 33 ∧ cu = true then (clB b0.1 (b0.2.2.1.toNat + m) b0.2.1, b0.2.1, b0.2.2.1, true) else b0) → rl h' (sT S 1281 (sX S)) = addBs (cap h (sT S 1281 (sX S))) [] (shT t v n sel cu) → cap h' (sT S 1281 (sX S)) = cap h (sT S 1281 (sX S)) → Q none h') : Cl G d 167 [vR (some (sX S))] h Q := by
  show Wp G d 167 0 [some (vR (some (sX S))), none] [] h Q
  obtain ⟨vb, g1, g2, g3, g4, g5, g6⟩ := tg.vb ok t ht35
  obtain ⟨sw, w1, w2, w3, w4⟩ := tg.sw ok
  have kq := kT1282 ok ok.kX
  have kp := kT1284 ok ok.kX
  have kv := kT1285 ok ok.kX
  have ks0 := kT1286 ok ok.kX
  have kl := kT1281 ok ok.kX
  have kb := kT1283 ok ok.kX
  obtain ⟨pl, d2, ⟨y0, sd, sI, sL_, sY⟩, dtr, dno⟩ := id D
  have nla2 : ∀ f, 1284 ≤ f → f ≤ 1288 → ∀ z, U S (sT S f (sX S)) z → ¬ z = sT S 1281 (sX S) := fun f f1 f2 z u q => ok.so.nUT (f := f) (g := 1281) (x := sX S) (by omega) (by decide) (by omega) (q ▸ u)
  have nlb2 : ∀ z, U S (sT S 1283 (sX S)) z → ¬ z = sT S 1281 (sX S) := fun z u q => ok.so.nUT (f := 1283) (g := 1281) (x := sX S) (by decide) (by decide) (by decide) (q ▸ u)
  refine w_aload_n d167_0 rfl ?_
  refine w_dloadS d167_1 (ok.kd ok.kX) (fr1284 ok ok.kX) ?_
  refine w_aload_n d167_4 rfl ?_
  refine w_dloadS d167_5 (ok.kd ok.kX) (fr1282 ok ok.kX) ?_
  refine w_dloadS d167_8 (ok.kd (kT1282 ok ok.kX)) (fr517 ok (kT1282 ok ok.kX)) ?_
  refine w_iconst d167_11 (by decide) ?_
  refine w_laloadV (x := (AL h (sT S 517 (sT S 1282 (sX S))) 0)) d167_12 (gi517 ok (kT1282 ok ok.kX) (by omega)) rfl ?_
  refine w_callv2 d167_13 (by omega) rfl (ok.kd (kT1284 ok ok.kX)) (by simp) (Nat.le_of_ble_eq_true rfl) ?_
  refine k_Plan_numberOf ok (by omega) kp pl.2.2 ?_
  refine w_istore1 d167_16 rfl ?_
  refine w_getstaticS d167_17 w1 ?_
  refine w_aload_n d167_20 rfl ?_
  refine w_dloadS d167_21 (ok.kd ok.kX) (fr1282 ok ok.kX) ?_
  refine w_dloadS d167_24 (ok.kd (kT1282 ok ok.kX)) (hvb.trans g1) ?_
  refine w_ordinal d167_27 ⟨g2, by simp, by omega⟩ ?_
  rw [g3]
  refine w_ialoadV (x := ((swB.getD t 0 : Nat) : Int)) d167_30 ⟨by rw [w2]; decide, by rw [w3]; exact ⟨by omega, by omega⟩⟩ (w4 t ht35) ?_
  by_cases s13 : t = 13
  · refine w_tsw 92 d167_31 (by rw [s13]; decide) ?_
    refine w_aload_n d167_92 rfl ?_
    refine w_dloadS d167_93 (ok.kd ok.kX) (fr1284 ok ok.kX) ?_
    refine w_aload_n d167_96 rfl ?_
    refine w_dloadS d167_97 (ok.kd ok.kX) (fr1281 ok ok.kX) ?_
    refine w_callv2 d167_100 (by omega) rfl (ok.kd (kT1284 ok ok.kX)) (by simp) (Nat.le_of_ble_eq_true rfl) ?_
    refine k_Plan_tellFiles ok (by omega) kp kl pl.1 (fun u => ok.so.nUT (f := 1284) (g := 1281) (x := sX S) (by decide) (by decide) (by decide) u) (fun h100 m100 e100_1 e100_2 => ?_)
    have ok100 := m100.ok
    have M100 := Mo.tr ok (Mo.refl (A := (fun ζ => ζ = (sT S 1281 (sX S)) ∨ U S (sT S 1283 (sX S)) ζ ∨ ζ = (sT S 393 (sT S 1284 (sX S))))) ok) m100 (fun ζ e => (Or.inl e))
    refine w_goto d167_103 ?_
    refine w_return d167_323 ?_
    refine kk h100 (fun _ => false) false b0 M100 (fun e => absurd e (by omega)) (D.f ok m100 nla2) (Bk.f ok m100 nlb2) (fun e => absurd e (by omega)) (by rw [if_neg (fun e => absurd e.1 (by omega))]) ?_ e100_2
    unfold shT
    rw [if_pos s13, e100_1, hla]
  by_cases s14 : t = 14
  · refine w_tsw 106 d167_31 (by rw [s14]; decide) ?_
    refine w_aload_n d167_106 rfl ?_
    refine w_callv1 d167_107 (by omega) rfl (ok.kd ok.kX) (by simp) (Nat.le_of_ble_eq_true rfl) ?_
    obtain ⟨hx, hy, ho, hoN⟩ := hnm (by omega)
    refine k_Ho_showFile (v := v) (n := n) ok (by omega) tg pl ⟨hx, hy, ho, trivial⟩ (fun h107 m107 e107_1 e107_2 => ?_)
    have ok107 := m107.ok
    have M107 := Mo.tr ok (Mo.refl (A := (fun ζ => ζ = (sT S 1281 (sX S)) ∨ U S (sT S 1283 (sX S)) ζ ∨ ζ = (sT S 393 (sT S 1284 (sX S))))) ok) m107 (fun ζ e => (Or.inl e))
    refine w_goto d167_110 ?_
    refine w_return d167_323 ?_
    refine kk h107 (fun _ => false) false b0 M107 (fun e => absurd e (by omega)) (D.f ok m107 nla2) (Bk.f ok m107 nlb2) (fun e => absurd e (by omega)) (by rw [if_neg (fun e => absurd e.1 (by omega))]) ?_ e107_2
    unfold shT
    rw [if_neg (by omega), if_pos s14, e107_1, hla]
  by_cases s15 : t = 15
  · refine w_tsw 113 d167_31 (by rw [s15]; decide) ?_
    refine w_aload_n d167_113 rfl ?_
    refine w_dloadS d167_114 (ok.kd ok.kX) (fr1284 ok ok.kX) ?_
    refine w_aload_n d167_117 rfl ?_
    refine w_dloadS d167_118 (ok.kd ok.kX) (fr1281 ok ok.kX) ?_
    refine w_callv2 d167_121 (by omega) rfl (ok.kd (kT1284 ok ok.kX)) (by simp) (Nat.le_of_ble_eq_true rfl) ?_
    refine k_Plan_tellTargets ok (by omega) kp kl pl.2.2 (fun u => ok.so.nUT (f := 1284) (g := 1281) (x := sX S) (by decide) (by decide) (by decide) u) (fun h121 m121 e121_1 e121_2 => ?_)
    have ok121 := m121.ok
    have M121 := Mo.tr ok (Mo.refl (A := (fun ζ => ζ = (sT S 1281 (sX S)) ∨ U S (sT S 1283 (sX S)) ζ ∨ ζ = (sT S 393 (sT S 1284 (sX S))))) ok) m121 (fun ζ e => (Or.inl e))
    refine w_goto d167_124 ?_
    refine w_return d167_323 ?_
    refine kk h121 (fun _ => false) false b0 M121 (fun e => absurd e (by omega)) (D.f ok m121 nla2) (Bk.f ok m121 nlb2) (fun e => absurd e (by omega)) (by rw [if_neg (fun e => absurd e.1 (by omega))]) ?_ e121_2
    unfold shT
    rw [if_neg (by omega), if_neg (by omega), if_pos s15, e121_1, hla]
  by_cases s16 : t = 16
  · refine w_tsw 127 d167_31 (by rw [s16]; decide) ?_
    refine w_aload_n d167_127 rfl ?_
    refine w_dloadS d167_128 (ok.kd ok.kX) (fr1286 ok ok.kX) ?_
    refine w_dloadS d167_131 (ok.kd (kT1286 ok ok.kX)) (fr769 ok (kT1286 ok ok.kX)) ?_
    refine w_iload_n d167_134 rfl ?_
    refine w_iconst d167_135 (by decide) ?_
    refine w_aload_n d167_136 rfl ?_
    refine w_dloadS d167_137 (ok.kd ok.kX) (fr1281 ok ok.kX) ?_
    refine w_callv4 d167_140 (by omega) rfl (ok.kd (kT769 ok (kT1286 ok ok.kX))) (by simp) (Nat.le_of_ble_eq_true rfl) ?_
    obtain ⟨hx, hy, ho, hoN⟩ := hnm (by omega)
    have et : tixJ v.1.2.2 (AL h (sT S 517 (sT S 1282 (sX S))) 0) = tix v.1.2.2 n := by rw [hx]; exact tixJ_eq pl.2.2.okn (hoN (by omega))
    rw [et]
    refine k_St_tellPut (fc := false) ok (by omega) (kT769 ok ks0) kl tg sd.2.1 rfl (fun u => ok.so.nUT (f := 1286) (g := 1281) (x := sX S) (by decide) (by decide) (by decide) (U_trans (ok.so.uT (by decide) U_refl) u)) (fun h140 m140 e140_1 e140_2 => ?_)
    have ok140 := m140.ok
    have M140 := Mo.tr ok (Mo.refl (A := (fun ζ => ζ = (sT S 1281 (sX S)) ∨ U S (sT S 1283 (sX S)) ζ ∨ ζ = (sT S 393 (sT S 1284 (sX S))))) ok) m140 (fun ζ e => (Or.inl e))
    refine w_goto d167_143 ?_
    refine w_return d167_323 ?_
    refine kk h140 (fun _ => false) false b0 M140 (fun e => absurd e (by omega)) (D.f ok m140 nla2) (Bk.f ok m140 nlb2) (fun e => absurd e (by omega)) (by rw [if_neg (fun e => absurd e.1 (by omega))]) ?_ e140_2
    unfold shT
    rw [if_neg (by omega), if_neg (by omega), if_neg (by omega), if_pos s16, e140_1, hla]
    congr 1
  by_cases s17 : t = 17
  · refine w_tsw 146 d167_31 (by rw [s17]; decide) ?_
    refine w_aload_n d167_146 rfl ?_
    refine w_dloadS d167_147 (ok.kd ok.kX) (fr1286 ok ok.kX) ?_
    refine w_dloadS d167_150 (ok.kd (kT1286 ok ok.kX)) (fr769 ok (kT1286 ok ok.kX)) ?_
    refine w_iload_n d167_153 rfl ?_
    refine w_iconst d167_154 (by decide) ?_
    refine w_aload_n d167_155 rfl ?_
    refine w_dloadS d167_156 (ok.kd ok.kX) (fr1281 ok ok.kX) ?_
    refine w_callv4 d167_159 (by omega) rfl (ok.kd (kT769 ok (kT1286 ok ok.kX))) (by simp) (Nat.le_of_ble_eq_true rfl) ?_
    obtain ⟨hx, hy, ho, hoN⟩ := hnm (by omega)
    have et : tixJ v.1.2.2 (AL h (sT S 517 (sT S 1282 (sX S))) 0) = tix v.1.2.2 n := by rw [hx]; exact tixJ_eq pl.2.2.okn (hoN (by omega))
    rw [et]
    refine k_St_tellPut (fc := true) ok (by omega) (kT769 ok ks0) kl tg sd.2.1 rfl (fun u => ok.so.nUT (f := 1286) (g := 1281) (x := sX S) (by decide) (by decide) (by decide) (U_trans (ok.so.uT (by decide) U_refl) u)) (fun h159 m159 e159_1 e159_2 => ?_)
    have ok159 := m159.ok
    have M159 := Mo.tr ok (Mo.refl (A := (fun ζ => ζ = (sT S 1281 (sX S)) ∨ U S (sT S 1283 (sX S)) ζ ∨ ζ = (sT S 393 (sT S 1284 (sX S))))) ok) m159 (fun ζ e => (Or.inl e))
    refine w_goto d167_162 ?_
    refine w_return d167_323 ?_
    refine kk h159 (fun _ => false) false b0 M159 (fun e => absurd e (by omega)) (D.f ok m159 nla2) (Bk.f ok m159 nlb2) (fun e => absurd e (by omega)) (by rw [if_neg (fun e => absurd e.1 (by omega))]) ?_ e159_2
    unfold shT
    rw [if_neg (by omega), if_neg (by omega), if_neg (by omega), if_neg (by omega), if_pos s17, e159_1, hla]
    congr 1
  by_cases s18 : t = 18
  · refine w_tsw 165 d167_31 (by rw [s18]; decide) ?_
    refine w_aload_n d167_165 rfl ?_
    refine w_dloadS d167_166 (ok.kd ok.kX) (fr1286 ok ok.kX) ?_
    refine w_dloadS d167_169 (ok.kd (kT1286 ok ok.kX)) (fr769 ok (kT1286 ok ok.kX)) ?_
    refine w_iload_n d167_172 rfl ?_
    refine w_aload_n d167_173 rfl ?_
    refine w_dloadS d167_174 (ok.kd ok.kX) (fr1281 ok ok.kX) ?_
    refine w_callv3 d167_177 (by omega) rfl (ok.kd (kT769 ok (kT1286 ok ok.kX))) (by simp) (Nat.le_of_ble_eq_true rfl) ?_
    obtain ⟨hx, hy, ho, hoN⟩ := hnm (by omega)
    have et : tixJ v.1.2.2 (AL h (sT S 517 (sT S 1282 (sX S))) 0) = tix v.1.2.2 n := by rw [hx]; exact tixJ_eq pl.2.2.okn (hoN (by omega))
    rw [et]
    refine k_St_tellReason ok (by omega) (kT769 ok ks0) kl tg sd.2.1 (fun u => ok.so.nUT (f := 1286) (g := 1281) (x := sX S) (by decide) (by decide) (by decide) (U_trans (ok.so.uT (by decide) U_refl) u)) (fun h177 m177 e177_1 e177_2 => ?_)
    have ok177 := m177.ok
    have M177 := Mo.tr ok (Mo.refl (A := (fun ζ => ζ = (sT S 1281 (sX S)) ∨ U S (sT S 1283 (sX S)) ζ ∨ ζ = (sT S 393 (sT S 1284 (sX S))))) ok) m177 (fun ζ e => (Or.inl e))
    refine w_goto d167_180 ?_
    refine w_return d167_323 ?_
    refine kk h177 (fun _ => false) false b0 M177 (fun e => absurd e (by omega)) (D.f ok m177 nla2) (Bk.f ok m177 nlb2) (fun e => absurd e (by omega)) (by rw [if_neg (fun e => absurd e.1 (by omega))]) ?_ e177_2
    unfold shT
    rw [if_neg (by omega), if_neg (by omega), if_neg (by omega), if_neg (by omega), if_neg (by omega), if_pos s18, e177_1, hla]
    first | done | rfl
  by_cases s19 : t = 19
  · refine w_tsw 183 d167_31 (by rw [s19]; decide) ?_
    refine w_aload_n d167_183 rfl ?_
    refine w_dloadS d167_184 (ok.kd ok.kX) (fr1286 ok ok.kX) ?_
    refine w_aload_n d167_187 rfl ?_
    refine w_dloadS d167_188 (ok.kd ok.kX) (fr1284 ok ok.kX) ?_
    refine w_aload_n d167_191 rfl ?_
    refine w_dloadS d167_192 (ok.kd ok.kX) (fr1281 ok ok.kX) ?_
    refine w_callv3 d167_195 (by omega) rfl (ok.kd (kT1286 ok ok.kX)) (by simp) (Nat.le_of_ble_eq_true rfl) ?_
    refine k_Se_tellRuns ok (by omega) ks0 kp kl sd.2.2.1 pl.2.2 (fun i hi => Nat.lt_of_lt_of_le (sI.2.2.2.2 i hi) hPQ) (fun u => ok.so.nUT (f := 1286) (g := 1281) (x := sX S) (by decide) (by decide) (by decide) u) (fun u => ok.so.nUT (f := 1284) (g := 1281) (x := sX S) (by decide) (by decide) (by decide) u) (fun h195 m195 e195_1 e195_2 => ?_)
    have ok195 := m195.ok
    have M195 := Mo.tr ok (Mo.refl (A := (fun ζ => ζ = (sT S 1281 (sX S)) ∨ U S (sT S 1283 (sX S)) ζ ∨ ζ = (sT S 393 (sT S 1284 (sX S))))) ok) m195 (fun ζ e => (Or.inl e))
    refine w_goto d167_198 ?_
    refine w_return d167_323 ?_
    refine kk h195 (fun _ => false) false b0 M195 (fun e => absurd e (by omega)) (D.f ok m195 nla2) (Bk.f ok m195 nlb2) (fun e => absurd e (by omega)) (by rw [if_neg (fun e => absurd e.1 (by omega))]) ?_ e195_2
    unfold shT
    rw [if_neg (by omega), if_neg (by omega), if_neg (by omega), if_neg (by omega), if_neg (by omega), if_neg (by omega), if_pos s19, e195_1, hla]
    first | done | rfl
  by_cases s20 : t = 20
  · refine w_tsw 201 d167_31 (by rw [s20]; decide) ?_
    refine w_aload_n d167_201 rfl ?_
    refine w_dloadS d167_202 (ok.kd ok.kX) (fr1286 ok ok.kX) ?_
    refine w_aload_n d167_205 rfl ?_
    refine w_dloadS d167_206 (ok.kd ok.kX) (fr1281 ok ok.kX) ?_
    refine w_callv2 d167_209 (by omega) rfl (ok.kd (kT1286 ok ok.kX)) (by simp) (Nat.le_of_ble_eq_true rfl) ?_
    refine k_Se_tellWork ok (by omega) ks0 kl sd.2.2.1 (fun u => ok.so.nUT (f := 1286) (g := 1281) (x := sX S) (by decide) (by decide) (by decide) u) (fun h209 m209 e209_1 e209_2 => ?_)
    have ok209 := m209.ok
    have M209 := Mo.tr ok (Mo.refl (A := (fun ζ => ζ = (sT S 1281 (sX S)) ∨ U S (sT S 1283 (sX S)) ζ ∨ ζ = (sT S 393 (sT S 1284 (sX S))))) ok) m209 (fun ζ e => (Or.inl e))
    refine w_goto d167_212 ?_
    refine w_return d167_323 ?_
    refine kk h209 (fun _ => false) false b0 M209 (fun e => absurd e (by omega)) (D.f ok m209 nla2) (Bk.f ok m209 nlb2) (fun e => absurd e (by omega)) (by rw [if_neg (fun e => absurd e.1 (by omega))]) ?_ e209_2
    unfold shT
    rw [if_neg (by omega), if_neg (by omega), if_neg (by omega), if_neg (by omega), if_neg (by omega), if_neg (by omega), if_neg (by omega), if_pos s20, e209_1, hla]
    first | done | rfl
  by_cases s23 : t = 23
  · refine w_tsw 215 d167_31 (by rw [s23]; decide) ?_
    refine w_aload_n d167_215 rfl ?_
    refine w_dloadS d167_216 (ok.kd ok.kX) (fr1284 ok ok.kX) ?_
    refine w_aload_n d167_219 rfl ?_
    refine w_dloadS d167_220 (ok.kd ok.kX) (fr1282 ok ok.kX) ?_
    refine w_dloadS d167_223 (ok.kd (kT1282 ok ok.kX)) (fr517 ok (kT1282 ok ok.kX)) ?_
    refine w_iconst d167_226 (by decide) ?_
    refine w_laloadV (x := (AL h (sT S 517 (sT S 1282 (sX S))) 0)) d167_227 (gi517 ok (kT1282 ok ok.kX) (by omega)) rfl ?_
    refine w_aload_n d167_228 rfl ?_
    refine w_dloadS d167_229 (ok.kd ok.kX) (fr1282 ok ok.kX) ?_
    refine w_dloadS d167_232 (ok.kd (kT1282 ok ok.kX)) (fr518 ok (kT1282 ok ok.kX)) ?_
    refine w_iconst d167_235 (by decide) ?_
    refine w_laloadV (x := (AL h (sT S 518 (sT S 1282 (sX S))) 0)) d167_236 (gi518 ok (kT1282 ok ok.kX) (by omega)) rfl ?_
    refine w_aload_n d167_237 rfl ?_
    refine w_dloadS d167_238 (ok.kd ok.kX) (fr1281 ok ok.kX) ?_
    refine w_callv4 d167_241 (by omega) rfl (ok.kd (kT1284 ok ok.kX)) (by simp) (Nat.le_of_ble_eq_true rfl) ?_
    obtain ⟨hx, hy, ho, hoN⟩ := hnm (by omega)
    refine k_Plan_tellUsers ok (by omega) kp kl pl.2.2 ho hx hy (fun u => ok.so.nUT (f := 1284) (g := 1281) (x := sX S) (by decide) (by decide) (by decide) u) (fun h241 sel m241 e241_1 e241_2 e241_3 => ?_)
    have ok241 := m241.ok
    have M241 := Mo.tr ok (Mo.refl (A := (fun ζ => ζ = (sT S 1281 (sX S)) ∨ U S (sT S 1283 (sX S)) ζ ∨ ζ = (sT S 393 (sT S 1284 (sX S))))) ok) m241 (fun z q => q.elim (fun q => Or.inr (Or.inr q)) (fun q => Or.inl q))
    refine w_goto d167_244 ?_
    refine w_return d167_323 ?_
    refine kk h241 sel false b0 M241 (fun _ => e241_1) (D.mk ok m241 (fun z q => q.elim Or.inl (fun q => Or.inr (fun f f1 f2 u => nla2 f f1 f2 z u q)))) (Bk.f ok m241 (fun z u q => q.elim (fun q => apX ok.so (f := 1283) (g := 1284) (by decide) (by decide) (by decide) z u (q ▸ ok.so.uT (by decide) U_refl)) (nlb2 z u))) (fun e => absurd e (by omega)) (by rw [if_neg (fun e => absurd e.1 (by omega))]) ?_ e241_3
    unfold shT
    rw [if_neg (by omega), if_neg (by omega), if_neg (by omega), if_neg (by omega), if_neg (by omega), if_neg (by omega), if_neg (by omega), if_neg (by omega), if_pos s23, e241_2, hla]
  by_cases s26 : t = 26
  · refine w_tsw 247 d167_31 (by rw [s26]; decide) ?_
    refine w_aload_n d167_247 rfl ?_
    refine w_dloadS d167_248 (ok.kd ok.kX) (fr1281 ok ok.kX) ?_
    refine w_aload_n d167_251 rfl ?_
    refine w_dloadS d167_252 (ok.kd ok.kX) (fr1286 ok ok.kX) ?_
    refine w_dloadS d167_255 (ok.kd (kT1286 ok ok.kX)) (fr769 ok (kT1286 ok ok.kX)) ?_
    refine w_getI (x := (((seGo v.2.2).2.2.2.1.length : Nat) : Int)) d167_258 (ok.kd (kT769 ok (kT1286 ok ok.kX))) sd.2.1.2.2.2.choose_spec.2.2.1 ?_
    refine w_callv2 d167_261 (by omega) rfl (ok.kd (kT1281 ok ok.kX)) (by simp) (Nat.le_of_ble_eq_true rfl) ?_
    have kl24 : (seGo v.2.2).2.2.2.1.length ≤ 24 := Nat.le_trans sd.2.1.2.2.2.choose_spec.2.2.2.1 sd.2.1.2.2.2.choose_spec.2.2.2.2.1
    refine r_Row_addNumber (n := (seGo v.2.2).2.2.2.1.length) (by omega) ok (kT1281 ok ok.kX) (by omega) (fun h261 m261 e261_1 e261_2 => ?_)
    have ok261 := m261.ok
    have M261 := Mo.tr ok (Mo.refl (A := (fun ζ => ζ = (sT S 1281 (sX S)) ∨ U S (sT S 1283 (sX S)) ζ ∨ ζ = (sT S 393 (sT S 1284 (sX S))))) ok) m261 (fun ζ e => (Or.inl e))
    refine w_goto d167_264 ?_
    refine w_return d167_323 ?_
    refine kk h261 (fun _ => false) false b0 M261 (fun e => absurd e (by omega)) (D.f ok m261 nla2) (Bk.f ok m261 nlb2) (fun e => absurd e (by omega)) (by rw [if_neg (fun e => absurd e.1 (by omega))]) ?_ e261_2
    unfold shT
    rw [if_neg (by omega), if_neg (by omega), if_neg (by omega), if_neg (by omega), if_neg (by omega), if_neg (by omega), if_neg (by omega), if_neg (by omega), if_neg (by omega), if_pos s26, e261_1, hla]
  by_cases s27 : t = 27
  · refine w_tsw 267 d167_31 (by rw [s27]; decide) ?_
    refine w_aload_n d167_267 rfl ?_
    refine w_dloadS d167_268 (ok.kd ok.kX) (fr1286 ok ok.kX) ?_
    refine w_dloadS d167_271 (ok.kd (kT1286 ok ok.kX)) (fr769 ok (kT1286 ok ok.kX)) ?_
    refine w_iload_n d167_274 rfl ?_
    refine w_aload_n d167_275 rfl ?_
    refine w_dloadS d167_276 (ok.kd ok.kX) (fr1281 ok ok.kX) ?_
    refine w_callv3 d167_279 (by omega) rfl (ok.kd (kT769 ok (kT1286 ok ok.kX))) (by simp) (Nat.le_of_ble_eq_true rfl) ?_
    obtain ⟨hx, hy, ho, hoN⟩ := hnm (by omega)
    have et : tixJ v.1.2.2 (AL h (sT S 517 (sT S 1282 (sX S))) 0) = tix v.1.2.2 n := by rw [hx]; exact tixJ_eq pl.2.2.okn (hoN (by omega))
    rw [et]
    refine k_St_tellEdition ok (by omega) (kT769 ok ks0) kl tg sd.2.1 (fun u => ok.so.nUT (f := 1286) (g := 1281) (x := sX S) (by decide) (by decide) (by decide) (U_trans (ok.so.uT (by decide) U_refl) u)) (fun h279 m279 e279_1 e279_2 => ?_)
    have ok279 := m279.ok
    have M279 := Mo.tr ok (Mo.refl (A := (fun ζ => ζ = (sT S 1281 (sX S)) ∨ U S (sT S 1283 (sX S)) ζ ∨ ζ = (sT S 393 (sT S 1284 (sX S))))) ok) m279 (fun ζ e => (Or.inl e))
    refine w_goto d167_282 ?_
    refine w_return d167_323 ?_
    refine kk h279 (fun _ => false) false b0 M279 (fun e => absurd e (by omega)) (D.f ok m279 nla2) (Bk.f ok m279 nlb2) (fun e => absurd e (by omega)) (by rw [if_neg (fun e => absurd e.1 (by omega))]) ?_ e279_2
    unfold shT
    rw [if_neg (by omega), if_neg (by omega), if_neg (by omega), if_neg (by omega), if_neg (by omega), if_neg (by omega), if_neg (by omega), if_neg (by omega), if_neg (by omega), if_neg (by omega), if_pos s27, e279_1, hla]
    first | done | rfl
  refine w_tsw 285 d167_31 (by rw [show t = 33 by omega]; decide) ?_
  refine w_aload_n d167_285 rfl ?_
  refine w_dloadS d167_286 (ok.kd ok.kX) (fr1281 ok ok.kX) ?_
  refine w_aload_n d167_289 rfl ?_
  refine w_dloadS d167_290 (ok.kd ok.kX) (fr1283 ok ok.kX) ?_
  refine w_aload_n d167_293 rfl ?_
  refine w_dloadS d167_294 (ok.kd ok.kX) (fr1282 ok ok.kX) ?_
  refine w_dloadS d167_297 (ok.kd (kT1282 ok ok.kX)) (fr520 ok (kT1282 ok ok.kX)) ?_
  refine w_iconst d167_300 (by decide) ?_
  refine w_ialoadV (x := ((m : Nat) : Int)) d167_301 (gi520 ok (kT1282 ok ok.kX) (by omega)) (hcm (by omega)) ?_
  refine w_callv2 d167_302 (by omega) rfl (ok.kd (kT1283 ok ok.kX)) (by simp) (Nat.le_of_ble_eq_true rfl) ?_
  have Bk2 := Bk
  obtain ⟨bk1, bk2, bk3, bk4⟩ := Bk2
  have m9 := ra520 ok kq 0
  rw [hcm (by omega)] at m9
  refine k_Book_cut (n := m) ok (by omega) kb bk1 bk2 bk3 (by omega) (fun h302 cu m302 e302_1 e302_2 e302_3 e302_4 e302_5 e302_6 => ?_)
  have ok302 := m302.ok
  have M302 := Mo.tr ok (Mo.refl (A := (fun ζ => ζ = (sT S 1281 (sX S)) ∨ U S (sT S 1283 (sX S)) ζ ∨ ζ = (sT S 393 (sT S 1284 (sX S))))) ok) m302 (fun ζ u => (Or.inr (Or.inl (U_trans U_refl u))))
  have B302 : BoV S h302 (if t = 33 ∧ cu = true then (clB b0.1 (b0.2.2.1.toNat + m) b0.2.1, b0.2.1, b0.2.2.1, true) else b0) := by
    cases cu with
    | true => rw [if_pos ⟨by omega, rfl⟩]; exact ⟨e302_2 rfl, e302_4, e302_5, by rw [e302_6]; rfl⟩
    | false => rw [if_neg (fun e => by cases e.2)]; exact ⟨e302_3 rfl, e302_4, e302_5, by rw [e302_6]; exact bk4⟩
  have nlB : ¬ U S (sT S 1283 (sX S)) (sT S 1281 (sX S)) := ok.so.nUT (by decide) (by decide) (by decide)
  refine w_ifeq d167_305 (fun c305 => ?_) (fun c305 => ?_)
  · have cf : ¬ cu = true := fun e => by rw [e] at c305; exact absurd c305 (by decide)
    obtain ⟨g314, v314, s314⟩ := tg.tx ok302 40 (by decide)
    refine w_getstaticS d167_314 v314 ?_
    refine w_callv2 d167_317 (by omega) rfl (ok302.kd (kT1281 ok ok.kX)) (by simp) (Nat.le_of_ble_eq_true rfl) ?_
    refine r_Row_addText (by omega) ok302 (kT1281 ok ok.kX) s314 (fun h317 m317 e317_1 e317_2 => ?_)
    have ok317 := m317.ok
    have M317 := Mo.tr ok M302 m317 (fun ζ e => (Or.inl e))
    refine w_goto d167_320 ?_
    refine w_return d167_323 ?_
    refine kk h317 (fun _ => false) cu (if t = 33 ∧ cu = true then (clB b0.1 (b0.2.2.1.toNat + m) b0.2.1, b0.2.1, b0.2.2.1, true) else b0) M317 (fun e => absurd e (by omega)) ((D.f ok m302 (fun f f1 f2 => apX ok.so (f := f) (g := 1283) (by omega) (by decide) (by omega))).f ok302 m317 nla2) (BoC.f ok302 m317 nlb2 B302) (fun _ => e302_1) rfl ?_ (by rw [e317_2, (m302.cp ok kl).2 nlB])
    unfold shT
    rw [if_neg (by omega), if_neg (by omega), if_neg (by omega), if_neg (by omega), if_neg (by omega), if_neg (by omega), if_neg (by omega), if_neg (by omega), if_neg (by omega), if_neg (by omega), if_neg (by omega), e317_1, m302.rb ok kl nlB, hla, (m302.cp ok kl).2 nlB, if_neg cf]
  · have ct : cu = true := by cases z : cu with
      | true => rfl
      | false => rw [z] at c305; exact absurd rfl c305
    obtain ⟨g308, v308, s308⟩ := tg.tx ok302 36 (by decide)
    refine w_getstaticS d167_308 v308 ?_
    refine w_goto d167_311 ?_
    refine w_callv2 d167_317 (by omega) rfl (ok302.kd (kT1281 ok ok.kX)) (by simp) (Nat.le_of_ble_eq_true rfl) ?_
    refine r_Row_addText (by omega) ok302 (kT1281 ok ok.kX) s308 (fun h317 m317 e317_1 e317_2 => ?_)
    have ok317 := m317.ok
    have M317 := Mo.tr ok M302 m317 (fun ζ e => (Or.inl e))
    refine w_goto d167_320 ?_
    refine w_return d167_323 ?_
    refine kk h317 (fun _ => false) cu (if t = 33 ∧ cu = true then (clB b0.1 (b0.2.2.1.toNat + m) b0.2.1, b0.2.1, b0.2.2.1, true) else b0) M317 (fun e => absurd e (by omega)) ((D.f ok m302 (fun f f1 f2 => apX ok.so (f := f) (g := 1283) (by omega) (by decide) (by omega))).f ok302 m317 nla2) (BoC.f ok302 m317 nlb2 B302) (fun _ => e302_1) rfl ?_ (by rw [e317_2, (m302.cp ok kl).2 nlB])
    unfold shT
    rw [if_neg (by omega), if_neg (by omega), if_neg (by omega), if_neg (by omega), if_neg (by omega), if_neg (by omega), if_neg (by omega), if_neg (by omega), if_neg (by omega), if_neg (by omega), if_neg (by omega), e317_1, m302.rb ok kl nlB, hla, (m302.cp ok kl).2 nlB, if_pos ct]
