/-! the house: a told request is done -/
/-- name, text, definition, numbers of a request -/
abbrev ArV : Type := List Nat × List Nat × TgV × (Nat → Int)
noncomputable def ndF (ts : List (Bool × TgV)) (t : Nat) : Nat → Nat := fun u => @ite Nat (Rc ts t u) (Classical.propDecidable _) 1 0
/-- the house behind a told request that is admitted, and what it answers -/
noncomputable def caS (L t : Nat) (a : ArV) (v : HoS) : HoS × List Nat :=
  if t = 0 then (hoNo v, []) else if t = 1 then (((flPut v.1.1 a.1 a.2.1, v.1.2), v.2), []) else if t = 2 then (((flDrop v.1.1 a.1, v.1.2), v.2), []) else if t = 3 then (((v.1.1, gsPut v.1.2.1 a.1 (a.2.2.2 0).toNat, v.1.2.2), v.2), []) else if t = 4 then (((v.1.1, v.1.2.1, tsPut v.1.2.2 a.2.2.1), v.2), []) else if t = 5 then (((v.1.1, v.1.2.1, tsDrop v.1.2.2 a.1), v.2), [])
  else if t = 6 then ((v.1, v.2.1, (v.1, v.2.2.2.1, v.2.2.2.2.1, ndF v.1.2.2 (tat v.1.2.2 a.1).toNat, ((seGo v.2.2).1, (seGo v.2.2).2.1, (seGo v.2.2).2.2.1, (seGo v.2.2).2.2.2.1, run0 (goR (seGo v.2.2))), true, 0)), [])
  else if t = 7 then ((v.1, v.2.1, (sePl v.2.2, v.2.2.2.1, v.2.2.2.2.1, seNd v.2.2, goG (sePl v.2.2) (seNd v.2.2) L (a.2.2.2 0).toNat (seGo v.2.2) (seOn v.2.2) (seSt v.2.2))), endT v.1.2.2 (goG (sePl v.2.2) (seNd v.2.2) L (a.2.2.2 0).toNat (seGo v.2.2) (seOn v.2.2) (seSt v.2.2)).2.1 (rF (goR (goG (sePl v.2.2) (seNd v.2.2) L (a.2.2.2 0).toNat (seGo v.2.2) (seOn v.2.2) (seSt v.2.2)).1)) (rT (goR (goG (sePl v.2.2) (seNd v.2.2) L (a.2.2.2 0).toNat (seGo v.2.2) (seOn v.2.2) (seSt v.2.2)).1)))
  else if t = 8 then ((v.1, v.2.1, (sePl v.2.2, v.2.2.2.1, v.2.2.2.2.1, seNd v.2.2, ((seGo v.2.2).1, (seGo v.2.2).2.1, (seGo v.2.2).2.2.1, (seGo v.2.2).2.2.2.1, rsH (goR (seGo v.2.2)) (fun _ => -1)), false, seSt v.2.2)), [])
  else if t = 9 then ((v.1, v.2.1, (sePl v.2.2, upO v.2.2.2.1 (tix v.1.2.2 a.1).toNat ((seGo v.2.2).1 (tix v.1.2.2 a.1).toNat), upO v.2.2.2.2.1 (tix v.1.2.2 a.1).toNat (relE (v.2.2.2.1 (tix v.1.2.2 a.1).toNat) ((seGo v.2.2).1 (tix v.1.2.2 a.1).toNat) (v.2.2.2.2.1 (tix v.1.2.2 a.1).toNat)), v.2.2.2.2.2)), relTxt (v.2.2.2.1 (tix v.1.2.2 a.1).toNat) ((seGo v.2.2).1 (tix v.1.2.2 a.1).toNat) (v.2.2.2.2.1 (tix v.1.2.2 a.1).toNat))
  else if t = 10 then ((v.1, v.2.1 ++ [nuR a.2.2.2 0], v.2.2), txt 20 ++ dec v.2.1.length) else if t = 11 then ((v.1, v.2.1 ++ [nuR a.2.2.2 2], v.2.2), txt 20 ++ dec v.2.1.length) else ((v.1, v.2.1.dropLast, v.2.2), [])
section HO3
variable {S : Shp} {h h' : Hp} {A : Nat → Prop} {w : HoS}
theorem HoC.pl {P' : PlV} (ok : Ok S h) (m : Mo S A h h') (hA : ∀ z, A z → U S (sT S 1284 (sX S)) z) (np : PlC S h' (sT S 1284 (sX S)) P') (D : HoC S h w) : HoC S h' (P', w.2) := by
  obtain ⟨d1, d2, d3, ⟨z, d4⟩, d5⟩ := D
  have ap := fun f hf hn => apX ok.so (f := f) (g := 1284) hf (by decide) hn
  refine ⟨np, d2.u ok m (kT1285 ok ok.kX) (fun y u q => ap 1285 (by decide) (by decide) y u (hA y q)), d3.u ok m (kT1286 ok ok.kX) (fun y u q => ap 1286 (by decide) (by decide) y u (hA y q)), ⟨z, d4.u ok m (kT1287 ok ok.kX) (fun y u q => ap 1287 (by decide) (by decide) y u (hA y q))⟩, ?_⟩
  rw [m.rb ok (kT1152 ok ok.kW) (fun q => ap 1288 (by decide) (by decide) _ (ok.so.uT (by decide) U_refl) (hA _ q))]
  exact d5
theorem HoC.vr {rs : List RuV} (ok : Ok S h) (m : Mo S A h h') (hA : ∀ z, A z → U S (sT S 1285 (sX S)) z ∨ z = sT S 1281 (sX S)) (nv : VrC S h' (sT S 1285 (sX S)) rs) (D : HoC S h w) : HoC S h' (w.1, rs, w.2.2) := by
  obtain ⟨d1, d2, d3, ⟨z, d4⟩, d5⟩ := D
  have ap : ∀ f, f < 4096 → f ≠ 1285 ∧ f ≠ 1281 → ∀ y, U S (sT S f (sX S)) y → ¬ A y := fun f hf hn y u q => (hA y q).elim (apX ok.so (f := f) (g := 1285) hf (by decide) hn.1 y u) (fun e => ok.so.nUT (f := f) (g := 1281) hf (by decide) hn.2 (e ▸ u))
  refine ⟨d1.u ok m (kT1284 ok ok.kX) (ap 1284 (by decide) (by decide)), nv, d3.u ok m (kT1286 ok ok.kX) (ap 1286 (by decide) (by decide)), ⟨z, d4.u ok m (kT1287 ok ok.kX) (ap 1287 (by decide) (by decide))⟩, ?_⟩
  rw [m.rb ok (kT1152 ok ok.kW) (ap 1288 (by decide) (by decide) _ (ok.so.uT (by decide) U_refl))]
  exact d5
theorem HoC.se {v' : SeP} (ok : Ok S h) (m : Mo S A h h') (hA : ∀ z, A z → U S (sT S 1286 (sX S)) z ∨ (U S (sT S 1288 (sX S)) z ∧ z ≠ sT S 1152 (sT S 1288 (sX S))) ∨ z = sT S 1281 (sX S)) (ns : SeC S h' (sT S 1286 (sX S)) v') (D : HoC S h w) : HoC S h' (w.1, w.2.1, v') := by
  obtain ⟨d1, d2, d3, ⟨z, d4⟩, d5⟩ := D
  have ap : ∀ f, f < 4096 → f ≠ 1286 ∧ f ≠ 1281 ∧ f ≠ 1288 → ∀ y, U S (sT S f (sX S)) y → ¬ A y := fun f hf hn y u q => by
    rcases hA y q with e | e | e
    · exact apX ok.so (f := f) (g := 1286) hf (by decide) hn.1 y u e
    · exact apX ok.so (f := f) (g := 1288) hf (by decide) hn.2.2 y u e.1
    · exact ok.so.nUT (f := f) (g := 1281) hf (by decide) hn.2.1 (e ▸ u)
  refine ⟨d1.u ok m (kT1284 ok ok.kX) (ap 1284 (by decide) (by decide)), d2.u ok m (kT1285 ok ok.kX) (ap 1285 (by decide) (by decide)), ns, ⟨z, d4.u ok m (kT1287 ok ok.kX) (ap 1287 (by decide) (by decide))⟩, ?_⟩
  have u52 : U S (sT S 1288 (sX S)) (sT S 1152 (sT S 1288 (sX S))) := ok.so.uT (by decide) U_refl
  rw [m.rb ok (kT1152 ok ok.kW) (fun q => by
    rcases hA _ q with e | e | e
    · exact apX ok.so (f := 1288) (g := 1286) (by decide) (by decide) (by decide) _ u52 e
    · exact e.2 rfl
    · exact ok.so.nUT (f := 1288) (g := 1281) (x := sX S) (by decide) (by decide) (by decide) (e ▸ u52))]
  exact d5
theorem SesC.st2 {x : Nat} {P : PlV} {pu : Nat → OutV} {pp : Nat → List Int64} {re : Nat → OutV} {ed : Nat → Nat → Nat} {ra : Nat → Nat} {ks : List (Int64 × OutV)} {pu' : Nat → OutV} {pp' : Nat → List Int64} {re' : Nat → OutV} {ed' : Nat → Nat → Nat} {ra' : Nat → Nat} {ks' : List (Int64 × OutV)} {r : RunV} {nd : Nat → Nat} {g y : Bool} {k : Nat} (D : SesC S h x P pu pp re ed ra ks r nd g k y) (ok : Ok S h) (m : Mo S A h h') (hx : sK S x = 7) (hA : ∀ z, A z → U S (sT S 769 x) z ∨ ¬ U S x z) (ns : StC S h' (sT S 769 x) pu' pp' re' ed' ra' ks') : SesC S h' x P pu' pp' re' ed' ra' ks' r nd g k y := by
  obtain ⟨d1, d2, d3, d4, d5, d6, d7⟩ := D
  have k3 := kT773 ok hx
  have nx : ¬ A x := fun q => (hA x q).elim (fun u => ok.so.nU (by decide) u) (fun u => u U_refl)
  have nT : ∀ f, f < 4096 → f ≠ 769 → ∀ z, U S (sT S f x) z → ¬ A z := fun f hf hn z u q => (hA z q).elim (fun w => ok.so.sib hf (by decide) hn u w) (fun w => w (U_trans (ok.so.uT hf U_refl) u))
  exact ⟨d1.u ok m (kT770 ok hx) (nT 770 (by decide) (by decide)), ns, d3.f ok m hx nx (fun f f1 f2 => nT f (by omega) (by omega) _ U_refl) (fun w hw => ⟨nT 778 (by decide) (by decide) _ (ok.so.uE (by omega) U_refl), fun f f1 f2 => nT 778 (by decide) (by decide) _ (ok.so.uT (by omega) (ok.so.uE (by omega) U_refl))⟩), fun u hu => (congrFun (m.ai ok (by omega) (nT 773 (by decide) (by decide) _ U_refl)) u).trans (d4 u hu), (m.fi ok (by omega) nx 771).trans d5, (m.fi ok (by omega) nx 772).trans d6, (m.fi ok (by omega) nx 783).trans d7⟩
theorem dec_10 (n : Nat) : (dec n).length ≤ 10 := by
  have := kdF_le n 9 0 (by decide)
  unfold dec dgs
  rw [List.length_map, List.length_range]
  omega
theorem ediTxt_len (e : Nat → Nat) : ∀ i, (ediTxt e i).length ≤ 11 * i
  | 0 => Nat.le_refl _
  | i + 1 => by
    have h1 := ediTxt_len e i
    have h2 := dec_10 (e i)
    have h3 : (if 0 < i then [46] else ([] : List Nat)).length ≤ 1 := by split <;> simp
    unfold ediTxt
    rw [List.length_append, List.length_append]
    omega
theorem relTxt_len (o n : OutV) (e : Nat → Nat) : (relTxt o n e).length ≤ 4096 := by
  have h1 := ediTxt_len (relE o n e) 3
  have h2 : (txt 9).length = 5 := by decide
  unfold relTxt
  rw [List.length_append]
  split
  · omega
  · simp only [List.length_nil]; omega
theorem endT_len (ts : List (Bool × TgV)) (g : Bool) (f : Int) (y : List Nat) (h1 : y.length ≤ 600 ∧ ((tgN (tD ts f.toNat)).length ≤ 8)) : (endT ts g f y).length ≤ 4096 := by
  have h5 : (txt 5).length = 2 := by decide
  have h6 : (txt 6).length = 5 := by decide
  have h7 : (txt 7).length = 7 := by decide
  have h8 : (txt 8).length = 2 := by decide
  unfold endT
  split
  · omega
  · split
    · omega
    · rw [List.length_append, List.length_append, List.length_append]
      omega
theorem tn8 {p : Nat} {ts : List (Bool × TgV)} (tc : TsC S h p ts) (i : Nat) : (tgN (tD ts i)).length ≤ 8 := by
  by_cases q : i < ts.length
  · exact (tc.okn i q).1
  · have e : tD ts i = ([], [], [], [], [], 0) := by
      unfold tD
      rw [List.getD_eq_getElem?_getD, List.getElem?_eq_none (by omega)]
      rfl
    rw [e]
    exact Nat.zero_le _
theorem ndF_1 {ts : List (Bool × TgV)} {t u : Nat} (h : Rc ts t u) : ndF ts t u = 1 := if_pos h
theorem ndF_0 {ts : List (Bool × TgV)} {t u : Nat} (h : ¬ Rc ts t u) : ndF ts t u = 0 := if_neg h
end HO3
theorem d86_0 : dc 86 0 = some (.aload_n 0, 1) := by decide +kernel
theorem d86_1 : dc 86 1 = some (.dload 1282, 4) := by decide +kernel
theorem d86_4 : dc 86 4 = some (.dload 517, 7) := by decide +kernel
theorem d86_7 : dc 86 7 = some (.iconst 0, 8) := by decide +kernel
theorem d86_8 : dc 86 8 = some (.laload, 9) := by decide +kernel
theorem d86_9 : dc 86 9 = some (.lstore_n 1, 10) := by decide +kernel
theorem d86_10 : dc 86 10 = some (.getstatic 40, 13) := by decide +kernel
theorem d86_13 : dc 86 13 = some (.aload_n 0, 14) := by decide +kernel
theorem d86_14 : dc 86 14 = some (.dload 1282, 17) := by decide +kernel
theorem d86_17 : dc 86 17 = some (.dload 514, 20) := by decide +kernel
theorem d86_20 : dc 86 20 = some (.invokestatic 2, 23) := by decide +kernel
theorem d86_23 : dc 86 23 = some (.iaload, 24) := by decide +kernel
theorem d86_24 : dc 86 24 = some (.tableswitch ((326 : Nat) : Int) 1 13 #[((99 : Nat) : Int), ((113 : Nat) : Int), ((133 : Nat) : Int), ((153 : Nat) : Int), ((170 : Nat) : Int), ((181 : Nat) : Int), ((203 : Nat) : Int), ((237 : Nat) : Int), ((247 : Nat) : Int), ((272 : Nat) : Int), ((294 : Nat) : Int), ((316 : Nat) : Int), ((92 : Nat) : Int)], 92) := by decide +kernel
theorem d86_92 : dc 86 92 = some (.aload_n 0, 93) := by decide +kernel
theorem d86_93 : dc 86 93 = some (.invokevirtual 52, 96) := by decide +kernel
theorem d86_96 : dc 86 96 = some (.goto ((326 : Nat) : Int), 99) := by decide +kernel
theorem d86_99 : dc 86 99 = some (.aload_n 0, 100) := by decide +kernel
theorem d86_100 : dc 86 100 = some (.dload 1284, 103) := by decide +kernel
theorem d86_103 : dc 86 103 = some (.aload_n 0, 104) := by decide +kernel
theorem d86_104 : dc 86 104 = some (.dload 1282, 107) := by decide +kernel
theorem d86_107 : dc 86 107 = some (.invokevirtual 87, 110) := by decide +kernel
theorem d86_110 : dc 86 110 = some (.goto ((326 : Nat) : Int), 113) := by decide +kernel
theorem d86_113 : dc 86 113 = some (.aload_n 0, 114) := by decide +kernel
theorem d86_114 : dc 86 114 = some (.dload 1284, 117) := by decide +kernel
theorem d86_117 : dc 86 117 = some (.lload_n 1, 118) := by decide +kernel
theorem d86_118 : dc 86 118 = some (.aload_n 0, 119) := by decide +kernel
theorem d86_119 : dc 86 119 = some (.dload 1282, 122) := by decide +kernel
theorem d86_122 : dc 86 122 = some (.dload 518, 125) := by decide +kernel
theorem d86_125 : dc 86 125 = some (.iconst 0, 126) := by decide +kernel
theorem d86_126 : dc 86 126 = some (.laload, 127) := by decide +kernel
theorem d86_127 : dc 86 127 = some (.invokevirtual 91, 130) := by decide +kernel
theorem d86_130 : dc 86 130 = some (.goto ((326 : Nat) : Int), 133) := by decide +kernel
theorem d86_133 : dc 86 133 = some (.aload_n 0, 134) := by decide +kernel
theorem d86_134 : dc 86 134 = some (.dload 1284, 137) := by decide +kernel
theorem d86_137 : dc 86 137 = some (.lload_n 1, 138) := by decide +kernel
theorem d86_138 : dc 86 138 = some (.aload_n 0, 139) := by decide +kernel
theorem d86_139 : dc 86 139 = some (.dload 1282, 142) := by decide +kernel
theorem d86_142 : dc 86 142 = some (.dload 520, 145) := by decide +kernel
theorem d86_145 : dc 86 145 = some (.iconst 0, 146) := by decide +kernel
theorem d86_146 : dc 86 146 = some (.iaload, 147) := by decide +kernel
theorem d86_147 : dc 86 147 = some (.invokevirtual 92, 150) := by decide +kernel
theorem d86_150 : dc 86 150 = some (.goto ((326 : Nat) : Int), 153) := by decide +kernel
theorem d86_153 : dc 86 153 = some (.aload_n 0, 154) := by decide +kernel
theorem d86_154 : dc 86 154 = some (.dload 1284, 157) := by decide +kernel
theorem d86_157 : dc 86 157 = some (.aload_n 0, 158) := by decide +kernel
theorem d86_158 : dc 86 158 = some (.dload 1282, 161) := by decide +kernel
theorem d86_161 : dc 86 161 = some (.dload 524, 164) := by decide +kernel
theorem d86_164 : dc 86 164 = some (.invokevirtual 93, 167) := by decide +kernel
theorem d86_167 : dc 86 167 = some (.goto ((326 : Nat) : Int), 170) := by decide +kernel
theorem d86_170 : dc 86 170 = some (.aload_n 0, 171) := by decide +kernel
theorem d86_171 : dc 86 171 = some (.dload 1284, 174) := by decide +kernel
theorem d86_174 : dc 86 174 = some (.lload_n 1, 175) := by decide +kernel
theorem d86_175 : dc 86 175 = some (.invokevirtual 95, 178) := by decide +kernel
theorem d86_178 : dc 86 178 = some (.goto ((326 : Nat) : Int), 181) := by decide +kernel
theorem d86_181 : dc 86 181 = some (.aload_n 0, 182) := by decide +kernel
theorem d86_182 : dc 86 182 = some (.dload 1286, 185) := by decide +kernel
theorem d86_185 : dc 86 185 = some (.aload_n 0, 186) := by decide +kernel
theorem d86_186 : dc 86 186 = some (.dload 1284, 189) := by decide +kernel
theorem d86_189 : dc 86 189 = some (.aload_n 0, 190) := by decide +kernel
theorem d86_190 : dc 86 190 = some (.dload 1284, 193) := by decide +kernel
theorem d86_193 : dc 86 193 = some (.lload_n 1, 194) := by decide +kernel
theorem d86_194 : dc 86 194 = some (.invokevirtual 79, 197) := by decide +kernel
theorem d86_197 : dc 86 197 = some (.invokevirtual 96, 200) := by decide +kernel
theorem d86_200 : dc 86 200 = some (.goto ((326 : Nat) : Int), 203) := by decide +kernel
theorem d86_203 : dc 86 203 = some (.aload_n 0, 204) := by decide +kernel
theorem d86_204 : dc 86 204 = some (.dload 1286, 207) := by decide +kernel
theorem d86_207 : dc 86 207 = some (.aload_n 0, 208) := by decide +kernel
theorem d86_208 : dc 86 208 = some (.dload 1282, 211) := by decide +kernel
theorem d86_211 : dc 86 211 = some (.dload 520, 214) := by decide +kernel
theorem d86_214 : dc 86 214 = some (.iconst 0, 215) := by decide +kernel
theorem d86_215 : dc 86 215 = some (.iaload, 216) := by decide +kernel
theorem d86_216 : dc 86 216 = some (.invokevirtual 99, 219) := by decide +kernel
theorem d86_219 : dc 86 219 = some (.aload_n 0, 220) := by decide +kernel
theorem d86_220 : dc 86 220 = some (.dload 1286, 223) := by decide +kernel
theorem d86_223 : dc 86 223 = some (.aload_n 0, 224) := by decide +kernel
theorem d86_224 : dc 86 224 = some (.dload 1284, 227) := by decide +kernel
theorem d86_227 : dc 86 227 = some (.aload_n 0, 228) := by decide +kernel
theorem d86_228 : dc 86 228 = some (.dload 1281, 231) := by decide +kernel
theorem d86_231 : dc 86 231 = some (.invokevirtual 135, 234) := by decide +kernel
theorem d86_234 : dc 86 234 = some (.goto ((326 : Nat) : Int), 237) := by decide +kernel
theorem d86_237 : dc 86 237 = some (.aload_n 0, 238) := by decide +kernel
theorem d86_238 : dc 86 238 = some (.dload 1286, 241) := by decide +kernel
theorem d86_241 : dc 86 241 = some (.invokevirtual 137, 244) := by decide +kernel
theorem d86_244 : dc 86 244 = some (.goto ((326 : Nat) : Int), 247) := by decide +kernel
theorem d86_247 : dc 86 247 = some (.aload_n 0, 248) := by decide +kernel
theorem d86_248 : dc 86 248 = some (.dload 1286, 251) := by decide +kernel
theorem d86_251 : dc 86 251 = some (.dload 769, 254) := by decide +kernel
theorem d86_254 : dc 86 254 = some (.aload_n 0, 255) := by decide +kernel
theorem d86_255 : dc 86 255 = some (.dload 1284, 258) := by decide +kernel
theorem d86_258 : dc 86 258 = some (.lload_n 1, 259) := by decide +kernel
theorem d86_259 : dc 86 259 = some (.invokevirtual 74, 262) := by decide +kernel
theorem d86_262 : dc 86 262 = some (.aload_n 0, 263) := by decide +kernel
theorem d86_263 : dc 86 263 = some (.dload 1281, 266) := by decide +kernel
theorem d86_266 : dc 86 266 = some (.invokevirtual 138, 269) := by decide +kernel
theorem d86_269 : dc 86 269 = some (.goto ((326 : Nat) : Int), 272) := by decide +kernel
theorem d86_272 : dc 86 272 = some (.aload_n 0, 273) := by decide +kernel
theorem d86_273 : dc 86 273 = some (.dload 1285, 276) := by decide +kernel
theorem d86_276 : dc 86 276 = some (.aload_n 0, 277) := by decide +kernel
theorem d86_277 : dc 86 277 = some (.dload 1282, 280) := by decide +kernel
theorem d86_280 : dc 86 280 = some (.dload 520, 283) := by decide +kernel
theorem d86_283 : dc 86 283 = some (.iconst 0, 284) := by decide +kernel
theorem d86_284 : dc 86 284 = some (.aload_n 0, 285) := by decide +kernel
theorem d86_285 : dc 86 285 = some (.dload 1281, 288) := by decide +kernel
theorem d86_288 : dc 86 288 = some (.invokevirtual 143, 291) := by decide +kernel
theorem d86_291 : dc 86 291 = some (.goto ((326 : Nat) : Int), 294) := by decide +kernel
theorem d86_294 : dc 86 294 = some (.aload_n 0, 295) := by decide +kernel
theorem d86_295 : dc 86 295 = some (.dload 1285, 298) := by decide +kernel
theorem d86_298 : dc 86 298 = some (.aload_n 0, 299) := by decide +kernel
theorem d86_299 : dc 86 299 = some (.dload 1282, 302) := by decide +kernel
theorem d86_302 : dc 86 302 = some (.dload 520, 305) := by decide +kernel
theorem d86_305 : dc 86 305 = some (.iconst 2, 306) := by decide +kernel
theorem d86_306 : dc 86 306 = some (.aload_n 0, 307) := by decide +kernel
theorem d86_307 : dc 86 307 = some (.dload 1281, 310) := by decide +kernel
theorem d86_310 : dc 86 310 = some (.invokevirtual 143, 313) := by decide +kernel
theorem d86_313 : dc 86 313 = some (.goto ((326 : Nat) : Int), 316) := by decide +kernel
theorem d86_316 : dc 86 316 = some (.aload_n 0, 317) := by decide +kernel
theorem d86_317 : dc 86 317 = some (.dload 1285, 320) := by decide +kernel
theorem d86_320 : dc 86 320 = some (.invokevirtual 144, 323) := by decide +kernel
theorem d86_323 : dc 86 323 = some (.goto ((326 : Nat) : Int), 326) := by decide +kernel
theorem d86_326 : dc 86 326 = some (.aload_n 0, 327) := by decide +kernel
theorem d86_327 : dc 86 327 = some (.dload 1281, 330) := by decide +kernel
theorem d86_330 : dc 86 330 = some (.invokevirtual 13, 333) := by decide +kernel
theorem d86_333 : dc 86 333 = some (.ifCond .ne ((346 : Nat) : Int), 336) := by decide +kernel
theorem d86_336 : dc 86 336 = some (.aload_n 0, 337) := by decide +kernel
theorem d86_337 : dc 86 337 = some (.dload 1281, 340) := by decide +kernel
theorem d86_340 : dc 86 340 = some (.getstatic 86, 343) := by decide +kernel
theorem d86_343 : dc 86 343 = some (.invokevirtual 84, 346) := by decide +kernel
theorem d86_346 : dc 86 346 = some (.return_, 347) := by decide +kernel
theorem addBs_lat {n : Nat} {T : List Nat} (hn : 4096 ≤ n) (hT : T.length ≤ 4096) : addBs n [] T = T := addBs_fit (by simp only [List.length_nil]; omega)
theorem k_Ho_carryOut {S : Shp} {G : Nat → Option Nat} {d : Nat} {h : Hp} {Q : Option MV → Hp → Prop} (ok : Ok S h) (h1 : 10 ≤ d) (tg : Tg S G) {t : Nat} (ht35 : t < 35) (hvb : FR h 514 (sT S 1282 (sX S)) = G t) (ht12 : t ≤ 12) {v : HoS} {a : ArV} {ci : Bool} (D : HoC S h v) (hok : refN t v.1 v.2.1 (seGo v.2.2).1 (seOn v.2.2) a.1 a.2.2.1 a.2.2.2 ci = 19) (hn0 : nmC S h (sT S 1282 (sX S)) t a.1) (hD : t = 4 → DefC S h (sT S 524 (sT S 1282 (sX S))) a.2.2.1 (tgTxt a.2.2.1)) (hnm : t = 4 → tgN a.2.2.1 ≠ []) (hlen : t = 4 → (tgTxt a.2.2.1).length ≤ 608) (hT : t = 1 → ∃ f e : Nat, FI h 522 (sT S 1282 (sX S)) = (f : Nat) ∧ FI h 523 (sT S 1282 (sX S)) = (e : Nat) ∧ (f ≤ e ∧ e ≤ (rl h (sT S 512 (sT S 1282 (sX S)))).length ∧ e - f ≤ 160 ∧ e ≤ 100000) ∧ a.2.1 = (sl (rl h (sT S 512 (sT S 1282 (sX S)))) f e).map untold) (hnu : AI h (sT S 520 (sT S 1282 (sX S))) = a.2.2.2) (hla : rl h (sT S 1281 (sX S)) = []) (hcl : 4096 ≤ cap h (sT S 1281 (sX S))) (hPQ : (sePl v.2.2).2.2.length ≤ v.1.2.2.length) (hB : (∀ j, rC (goR (seGo v.2.2)) j + 20000 < 2147483647) ∧ seSt v.2.2 + 10000 < 2147483647 ∧ ∀ u i, v.2.2.2.2.1 u i < 2147483647)
    (kk : ∀ h', Mo S (fun z => U S (sT S 1284 (sX S)) z ∨ U S (sT S 1285 (sX S)) z ∨ U S (sT S 1286 (sX S)) z ∨ U S (sT S 1288 (sX S)) z ∨ z = sT S 1281 (sX S)) h h' → HoC S h' (caS (stL S (sT S 1286 (sX S))) t a v).1 → rl h' (sT S 1281 (sX S)) = (if (caS (stL S (sT S 1286 (sX S))) t a v).2 = [] then txt 36 else (caS (stL S (sT S 1286 (sX S))) t a v).2) → cap h' (sT S 1281 (sX S)) = cap h (sT S 1281 (sX S)) → Q none h') : Cl G d 86 [vR (some (sX S))] h Q := by
  show Wp G d 86 0 [some (vR (some (sX S))), none, none] [] h Q
  obtain ⟨vb, g1, g2, g3, g4, g5, g6⟩ := tg.vb ok t ht35
  obtain ⟨sw, w1, w2, w3, w4⟩ := tg.sw ok
  have kq := kT1282 ok ok.kX
  have kp := kT1284 ok ok.kX
  have kv := kT1285 ok ok.kX
  have ks0 := kT1286 ok ok.kX
  have kdr := kT524 ok kq
  have kl := kT1281 ok ok.kX
  obtain ⟨pl, d2, ⟨y0, sd, sI, sL_, sY⟩, dtr, dno⟩ := id D
  have nla : ∀ f, f < 4096 → f ≠ 1281 → ¬ U S (sT S f (sX S)) (sT S 1281 (sX S)) := fun f hf hn => ok.so.nUT hf (by decide) hn
  have nl8 : ¬ (sT S 1281 (sX S) = sT S 1286 (sX S) ∨ sT S 1281 (sX S) = sT S 775 (sT S 1286 (sX S))) := fun q => q.elim (ok.so.ou (by decide) (by decide) (Or.inl (by decide))) (ok.so.ou (by decide) (by decide) (Or.inl (by decide)))
  refine w_aload_n d86_0 rfl ?_
  refine w_dloadS d86_1 (ok.kd ok.kX) (fr1282 ok ok.kX) ?_
  refine w_dloadS d86_4 (ok.kd (kT1282 ok ok.kX)) (fr517 ok (kT1282 ok ok.kX)) ?_
  refine w_iconst d86_7 (by decide) ?_
  refine w_laloadV (x := (AL h (sT S 517 (sT S 1282 (sX S))) 0)) d86_8 (gi517 ok (kT1282 ok ok.kX) (by omega)) rfl ?_
  have L326 : ∀ (m326 : Nat) (b : Hp) , 0 = m326 → Mo S (fun ζ => U S (sT S 1284 (sX S)) ζ ∨ U S (sT S 1285 (sX S)) ζ ∨ U S (sT S 1286 (sX S)) ζ ∨ U S (sT S 1288 (sX S)) ζ ∨ ζ = (sT S 1281 (sX S))) h b → (HoC S b (caS (stL S (sT S 1286 (sX S))) t a v).1) → (rl b (sT S 1281 (sX S)) = (caS (stL S (sT S 1286 (sX S))) t a v).2) → (cap b (sT S 1281 (sX S)) = cap h (sT S 1281 (sX S))) → Wp G d 86 326 [some (vR (some (sX S))), some (vJ (AL h (sT S 517 (sT S 1282 (sX S))) 0)), none] [] b Q := by
    intro m326
    induction m326 using Nat.strongRecOn with | ind m326 IH326 => ?_
    intro b  hm326 Mb b1 b2 b3
    have okb := Mb.ok
    refine w_aload_n d86_326 rfl ?_
    refine w_dloadS d86_327 (okb.kd ok.kX) (fr1281 okb ok.kX) ?_
    refine w_callv1 d86_330 (by omega) rfl (okb.kd (kT1281 okb ok.kX)) (by simp) (Nat.le_of_ble_eq_true rfl) ?_
    refine r_Row_size okb (kT1281 okb ok.kX) ?_
    rw [b2]
    refine w_ifne d86_333 (fun c333 => ?_) (fun c333 => ?_)
    · have ne : (caS (stL S (sT S 1286 (sX S))) t a v).2 ≠ [] := fun z => by rw [z] at c333; exact c333 rfl
      refine w_return d86_346 ?_
      first
      | exact kk b Mb b1 (by rw [if_neg ne]; exact b2) b3
      | exact kk h343 M343 (b1.f okb m343 (fun f f1 f2 z u q => ok.so.nUT (f := f) (g := 1281) (x := sX S) (by omega) (by decide) (by omega) (q ▸ u))) (by rw [if_pos ne, e343_1, b2, ne]; exact addBs_lat (by omega) (by decide)) (by rw [e343_2]; exact b3)
    · have ne : (caS (stL S (sT S 1286 (sX S))) t a v).2 = [] := List.eq_nil_of_length_eq_zero (by omega)
      refine w_aload_n d86_336 rfl ?_
      refine w_dloadS d86_337 (okb.kd ok.kX) (fr1281 okb ok.kX) ?_
      obtain ⟨g340, v340, s340⟩ := tg.tx okb 36 (by decide)
      refine w_getstaticS d86_340 v340 ?_
      refine w_callv2 d86_343 (by omega) rfl (okb.kd (kT1281 okb ok.kX)) (by simp) (Nat.le_of_ble_eq_true rfl) ?_
      refine r_Row_addText (by omega) okb (kT1281 okb ok.kX) s340 (fun h343 m343 e343_1 e343_2 => ?_)
      have ok343 := m343.ok
      have M343 := Mo.tr ok Mb m343 (fun ζ e => (Or.inr (Or.inr (Or.inr (Or.inr e)))))
      refine w_return d86_346 ?_
      first
      | exact kk b Mb b1 (by rw [if_neg ne]; exact b2) b3
      | exact kk h343 M343 (b1.f okb m343 (fun f f1 f2 z u q => ok.so.nUT (f := f) (g := 1281) (x := sX S) (by omega) (by decide) (by omega) (q ▸ u))) (by rw [if_pos ne, e343_1, b2, ne]; exact addBs_lat (by omega) (by decide)) (by rw [e343_2]; exact b3)
  refine w_lstore1 d86_9 rfl ?_
  refine w_getstaticS d86_10 w1 ?_
  refine w_aload_n d86_13 rfl ?_
  refine w_dloadS d86_14 (ok.kd ok.kX) (fr1282 ok ok.kX) ?_
  refine w_dloadS d86_17 (ok.kd (kT1282 ok ok.kX)) (hvb.trans g1) ?_
  refine w_ordinal d86_20 ⟨g2, by simp, by omega⟩ ?_
  rw [g3]
  refine w_ialoadV (x := ((swB.getD t 0 : Nat) : Int)) d86_23 ⟨by rw [w2]; decide, by rw [w3]; exact ⟨by omega, by omega⟩⟩ (w4 t ht35) ?_
  by_cases s1 : t = 1
  · have rn := hok
    unfold refN at rn
    rw [if_pos (by omega)] at rn
    refine w_tsw 99 d86_24 (by rw [s1]; decide) ?_
    refine w_aload_n d86_99 rfl ?_
    refine w_dloadS d86_100 (ok.kd ok.kX) (fr1284 ok ok.kX) ?_
    refine w_aload_n d86_103 rfl ?_
    refine w_dloadS d86_104 (ok.kd ok.kX) (fr1282 ok ok.kX) ?_
    refine w_callv2 d86_107 (by omega) rfl (ok.kd (kT1284 ok ok.kX)) (by simp) (Nat.le_of_ble_eq_true rfl) ?_
    obtain ⟨hx, hy, ho, hoN⟩ := hn0 (by omega)
    obtain ⟨f, e, t1, t2, t3, t4⟩ := hT (by omega)
    refine k_Plan_putFile ok (by omega) kp kq pl.1 ho hx hy t1 t2 t3 (fun u => ok.so.nUT (f := 1284) (g := 1282) (x := sX S) (by decide) (by decide) (by decide) u) (fun z => by by_cases w : 16 ≤ v.1.1.length; rw [if_pos ⟨z, w⟩] at rn; exact absurd rn (by decide); omega) (fun h107 m107 e107_1 e107_2 e107_3 => ?_)
    have ok107 := m107.ok
    have M107 := Mo.tr ok (Mo.refl (A := (fun ζ => U S (sT S 1284 (sX S)) ζ ∨ U S (sT S 1285 (sX S)) ζ ∨ U S (sT S 1286 (sX S)) ζ ∨ U S (sT S 1288 (sX S)) ζ ∨ ζ = (sT S 1281 (sX S)))) ok) m107 (fun ζ u => (Or.inl (U_trans U_refl u)))
    rw [← t4] at e107_1
    refine w_goto d86_110 ?_
    refine w_less ?_ (L326 _ h107  rfl M107 (by unfold caS; rw [if_neg (by omega), if_pos s1]; exact D.pl ok m107 (fun z q => q) ⟨e107_1, e107_2 _ pl.2.1, e107_3 _ pl.2.2⟩) (by unfold caS; rw [if_neg (by omega), if_pos s1]; exact (by rw [m107.rb ok kl (nla 1284 (by decide) (by decide))]; exact hla)) (by rw [(m107.cp ok kl).2 (nla 1284 (by decide) (by decide))]))
    exact ⟨Or.inr rfl, Or.inr rfl, Or.inl rfl, trivial⟩
  by_cases s2 : t = 2
  · have rn := hok
    unfold refN at rn
    rw [if_neg (by omega), if_pos (by omega)] at rn
    refine w_tsw 113 d86_24 (by rw [s2]; decide) ?_
    refine w_aload_n d86_113 rfl ?_
    refine w_dloadS d86_114 (ok.kd ok.kX) (fr1284 ok ok.kX) ?_
    refine w_lload_n d86_117 rfl ?_
    refine w_aload_n d86_118 rfl ?_
    refine w_dloadS d86_119 (ok.kd ok.kX) (fr1282 ok ok.kX) ?_
    refine w_dloadS d86_122 (ok.kd (kT1282 ok ok.kX)) (fr518 ok (kT1282 ok ok.kX)) ?_
    refine w_iconst d86_125 (by decide) ?_
    refine w_laloadV (x := (AL h (sT S 518 (sT S 1282 (sX S))) 0)) d86_126 (gi518 ok (kT1282 ok ok.kX) (by omega)) rfl ?_
    refine w_callv3 d86_127 (by omega) rfl (ok.kd (kT1284 ok ok.kX)) (by simp) (Nat.le_of_ble_eq_true rfl) ?_
    obtain ⟨hx, hy, ho, hoN⟩ := hn0 (by omega)
    refine k_Plan_removeFile ok (by omega) kp pl.1 ho hx hy (fun h127 m127 e127_1 e127_2 e127_3 => ?_)
    have ok127 := m127.ok
    have M127 := Mo.tr ok (Mo.refl (A := (fun ζ => U S (sT S 1284 (sX S)) ζ ∨ U S (sT S 1285 (sX S)) ζ ∨ U S (sT S 1286 (sX S)) ζ ∨ U S (sT S 1288 (sX S)) ζ ∨ ζ = (sT S 1281 (sX S)))) ok) m127 (fun ζ u => (Or.inl (U_trans U_refl u)))
    refine w_goto d86_130 ?_
    refine w_less ?_ (L326 _ h127  rfl M127 (by unfold caS; rw [if_neg (by omega), if_neg (by omega), if_pos s2]; exact D.pl ok m127 (fun z q => q) ⟨e127_1, e127_2 _ pl.2.1, e127_3 _ pl.2.2⟩) (by unfold caS; rw [if_neg (by omega), if_neg (by omega), if_pos s2]; exact (by rw [m127.rb ok kl (nla 1284 (by decide) (by decide))]; exact hla)) (by rw [(m127.cp ok kl).2 (nla 1284 (by decide) (by decide))]))
    exact ⟨Or.inr rfl, Or.inr rfl, Or.inl rfl, trivial⟩
  by_cases s3 : t = 3
  · have rn := hok
    unfold refN at rn
    rw [if_neg (by omega), if_neg (by omega), if_pos (by omega)] at rn
    have nu0 : AI h (sT S 520 (sT S 1282 (sX S))) 0 = (((a.2.2.2 0).toNat : Nat) : Int) := by have := ra520 ok kq 0; rw [hnu] at this ⊢; omega
    refine w_tsw 133 d86_24 (by rw [s3]; decide) ?_
    refine w_aload_n d86_133 rfl ?_
    refine w_dloadS d86_134 (ok.kd ok.kX) (fr1284 ok ok.kX) ?_
    refine w_lload_n d86_137 rfl ?_
    refine w_aload_n d86_138 rfl ?_
    refine w_dloadS d86_139 (ok.kd ok.kX) (fr1282 ok ok.kX) ?_
    refine w_dloadS d86_142 (ok.kd (kT1282 ok ok.kX)) (fr520 ok (kT1282 ok ok.kX)) ?_
    refine w_iconst d86_145 (by decide) ?_
    refine w_ialoadV (x := (((a.2.2.2 0).toNat : Nat) : Int)) d86_146 (gi520 ok (kT1282 ok ok.kX) (by omega)) nu0 ?_
    refine w_callv3 d86_147 (by omega) rfl (ok.kd (kT1284 ok ok.kX)) (by simp) (Nat.le_of_ble_eq_true rfl) ?_
    obtain ⟨hx, hy, ho, hoN⟩ := hn0 (by omega)
    refine k_Plan_setFlag (v := (a.2.2.2 0).toNat) ok (by omega) kp pl.2.1 (hoN (by omega)) hx (by have := ra520 ok kq 0; rw [hnu] at this; omega) (fun z => by by_cases w : 6 ≤ v.1.2.1.length; rw [if_pos ⟨z, w⟩] at rn; exact absurd rn (by decide); omega) (fun h147 m147 e147_1 e147_2 e147_3 => ?_)
    have ok147 := m147.ok
    have M147 := Mo.tr ok (Mo.refl (A := (fun ζ => U S (sT S 1284 (sX S)) ζ ∨ U S (sT S 1285 (sX S)) ζ ∨ U S (sT S 1286 (sX S)) ζ ∨ U S (sT S 1288 (sX S)) ζ ∨ ζ = (sT S 1281 (sX S)))) ok) m147 (fun ζ u => (Or.inl (U_trans U_refl u)))
    refine w_goto d86_150 ?_
    refine w_less ?_ (L326 _ h147  rfl M147 (by unfold caS; rw [if_neg (by omega), if_neg (by omega), if_neg (by omega), if_pos s3]; exact D.pl ok m147 (fun z q => q) ⟨e147_2 _ pl.1, e147_1, e147_3 _ pl.2.2⟩) (by unfold caS; rw [if_neg (by omega), if_neg (by omega), if_neg (by omega), if_pos s3]; exact (by rw [m147.rb ok kl (nla 1284 (by decide) (by decide))]; exact hla)) (by rw [(m147.cp ok kl).2 (nla 1284 (by decide) (by decide))]))
    exact ⟨Or.inr rfl, Or.inr rfl, Or.inl rfl, trivial⟩
  by_cases s4 : t = 4
  · have rn := hok
    unfold refN at rn
    rw [if_neg (by omega), if_neg (by omega), if_neg (by omega), if_pos (by omega)] at rn
    refine w_tsw 153 d86_24 (by rw [s4]; decide) ?_
    refine w_aload_n d86_153 rfl ?_
    refine w_dloadS d86_154 (ok.kd ok.kX) (fr1284 ok ok.kX) ?_
    refine w_aload_n d86_157 rfl ?_
    refine w_dloadS d86_158 (ok.kd ok.kX) (fr1282 ok ok.kX) ?_
    refine w_dloadS d86_161 (ok.kd (kT1282 ok ok.kX)) (fr524 ok (kT1282 ok ok.kX)) ?_
    refine w_callv2 d86_164 (by omega) rfl (ok.kd (kT1284 ok ok.kX)) (by simp) (Nat.le_of_ble_eq_true rfl) ?_
    have DD := hD (by omega)
    have r1 : ¬ rix (tgR a.2.2.1) < 0 := fun z => by rw [if_pos z] at rn; exact absurd rn (by decide)
    rw [if_neg r1] at rn
    have r2 : ¬ ¬ (rix (tgR a.2.2.1) = 4 ↔ tgW a.2.2.1 ≠ []) := fun z => by rw [if_pos z] at rn; exact absurd rn (by decide)
    rw [if_neg r2] at rn
    have r3 : ¬ (tix v.1.2.2 (tgN a.2.2.1) < 0 ∧ 14 ≤ v.1.2.2.length) := fun z => by rw [if_pos z] at rn; exact absurd rn (by decide)
    refine k_Plan_tellTarget ok (by omega) kp kdr pl.2.2 DD (fun u => apX ok.so (f := 1282) (g := 1284) (by decide) (by decide) (by decide) _ (ok.so.uT (by decide) U_refl) u) (fun u => apX ok.so (f := 1282) (g := 1284) (by decide) (by decide) (by decide) _ (U_trans (ok.so.uT (by decide) U_refl) u) U_refl) ⟨hnm (by omega), by omega, Classical.byContradiction r2⟩ (hlen (by omega)) (fun z => by by_cases w : 14 ≤ v.1.2.2.length; exact absurd ⟨z, w⟩ r3; omega) (fun h164 m164 e164_1 e164_2 e164_3 => ?_)
    have ok164 := m164.ok
    have M164 := Mo.tr ok (Mo.refl (A := (fun ζ => U S (sT S 1284 (sX S)) ζ ∨ U S (sT S 1285 (sX S)) ζ ∨ U S (sT S 1286 (sX S)) ζ ∨ U S (sT S 1288 (sX S)) ζ ∨ ζ = (sT S 1281 (sX S)))) ok) m164 (fun ζ u => (Or.inl (U_trans U_refl u)))
    refine w_goto d86_167 ?_
    refine w_less ?_ (L326 _ h164  rfl M164 (by unfold caS; rw [if_neg (by omega), if_neg (by omega), if_neg (by omega), if_neg (by omega), if_pos s4]; exact D.pl ok m164 (fun z q => q) ⟨e164_2 _ pl.1, e164_3 _ pl.2.1, e164_1⟩) (by unfold caS; rw [if_neg (by omega), if_neg (by omega), if_neg (by omega), if_neg (by omega), if_pos s4]; exact (by rw [m164.rb ok kl (nla 1284 (by decide) (by decide))]; exact hla)) (by rw [(m164.cp ok kl).2 (nla 1284 (by decide) (by decide))]))
    exact ⟨Or.inr rfl, Or.inr rfl, Or.inl rfl, trivial⟩
  by_cases s5 : t = 5
  · have rn := hok
    unfold refN at rn
    rw [if_neg (by omega), if_neg (by omega), if_neg (by omega), if_neg (by omega), if_pos (by omega)] at rn
    refine w_tsw 170 d86_24 (by rw [s5]; decide) ?_
    refine w_aload_n d86_170 rfl ?_
    refine w_dloadS d86_171 (ok.kd ok.kX) (fr1284 ok ok.kX) ?_
    refine w_lload_n d86_174 rfl ?_
    refine w_callv2 d86_175 (by omega) rfl (ok.kd (kT1284 ok ok.kX)) (by simp) (Nat.le_of_ble_eq_true rfl) ?_
    obtain ⟨hx, hy, ho, hoN⟩ := hn0 (by omega)
    refine k_Plan_drop ok (by omega) kp pl.2.2 (hoN (by omega)) hx (fun h175 m175 e175_1 e175_2 e175_3 => ?_)
    have ok175 := m175.ok
    have M175 := Mo.tr ok (Mo.refl (A := (fun ζ => U S (sT S 1284 (sX S)) ζ ∨ U S (sT S 1285 (sX S)) ζ ∨ U S (sT S 1286 (sX S)) ζ ∨ U S (sT S 1288 (sX S)) ζ ∨ ζ = (sT S 1281 (sX S)))) ok) m175 (fun ζ u => (Or.inl (U_trans U_refl u)))
    refine w_goto d86_178 ?_
    refine w_less ?_ (L326 _ h175  rfl M175 (by unfold caS; rw [if_neg (by omega), if_neg (by omega), if_neg (by omega), if_neg (by omega), if_neg (by omega), if_pos s5]; exact D.pl ok m175 (fun z q => q) ⟨e175_2 _ pl.1, e175_3 _ pl.2.1, e175_1⟩) (by unfold caS; rw [if_neg (by omega), if_neg (by omega), if_neg (by omega), if_neg (by omega), if_neg (by omega), if_pos s5]; exact (by rw [m175.rb ok kl (nla 1284 (by decide) (by decide))]; exact hla)) (by rw [(m175.cp ok kl).2 (nla 1284 (by decide) (by decide))]))
    exact ⟨Or.inr rfl, Or.inr rfl, Or.inl rfl, trivial⟩
  by_cases s6 : t = 6
  · have rn := hok
    unfold refN at rn
    rw [if_neg (by omega), if_neg (by omega), if_neg (by omega), if_neg (by omega), if_neg (by omega), if_pos (by omega)] at rn
    refine w_tsw 181 d86_24 (by rw [s6]; decide) ?_
    refine w_aload_n d86_181 rfl ?_
    refine w_dloadS d86_182 (ok.kd ok.kX) (fr1286 ok ok.kX) ?_
    refine w_aload_n d86_185 rfl ?_
    refine w_dloadS d86_186 (ok.kd ok.kX) (fr1284 ok ok.kX) ?_
    refine w_aload_n d86_189 rfl ?_
    refine w_dloadS d86_190 (ok.kd ok.kX) (fr1284 ok ok.kX) ?_
    refine w_lload_n d86_193 rfl ?_
    refine w_callv2 d86_194 (by omega) rfl (ok.kd (kT1284 ok ok.kX)) (by simp) (Nat.le_of_ble_eq_true rfl) ?_
    obtain ⟨hx, hy, ho, hoN⟩ := hn0 (by omega)
    have tr := tat_rg v.1.2.2 a.1
    have t0 : 0 ≤ tat v.1.2.2 a.1 := by by_cases z : tat v.1.2.2 a.1 < 0; rw [if_pos z] at rn; exact absurd rn (by decide); omega
    refine k_Plan_targetAt ok (by omega) kp pl.2.2 ?_
    rw [show tatJ v.1.2.2 (AL h (sT S 517 (sT S 1282 (sX S))) 0) = (((tat v.1.2.2 a.1).toNat : Nat) : Int) from (by rw [hx, tatJ_eq pl.2.2.okn (hoN (by omega))]; omega)]
    refine w_callv3 d86_197 (by omega) rfl (ok.kd (kT1286 ok ok.kX)) (by simp) (Nat.le_of_ble_eq_true rfl) ?_
    refine k_Se_begin (t := (tat v.1.2.2 a.1).toNat) ok (by omega) ks0 kp sd pl (by omega) (fun u => ok.so.nUT (f := 1286) (g := 1284) (x := sX S) (by decide) (by decide) (by decide) u) (apX ok.so (f := 1284) (g := 1286) (by decide) (by decide) (by decide)) (fun h197 nd2 m197 e197_1 e197_2 => ?_)
    have ok197 := m197.ok
    have M197 := Mo.tr ok (Mo.refl (A := (fun ζ => U S (sT S 1284 (sX S)) ζ ∨ U S (sT S 1285 (sX S)) ζ ∨ U S (sT S 1286 (sX S)) ζ ∨ U S (sT S 1288 (sX S)) ζ ∨ ζ = (sT S 1281 (sX S)))) ok) m197 (fun ζ u => (Or.inr (Or.inr (Or.inl (U_trans U_refl u)))))
    have ss197 : SesC S h197 (sT S 1286 (sX S)) v.1 (seGo v.2.2).1 (seGo v.2.2).2.1 v.2.2.2.1 v.2.2.2.2.1 (seGo v.2.2).2.2.1 (seGo v.2.2).2.2.2.1 (run0 (goR (seGo v.2.2))) (ndF v.1.2.2 (tat v.1.2.2 a.1).toNat) true 0 false := ⟨e197_1.1, e197_1.2.1, e197_1.2.2.1, fun u hu => (e197_1.2.2.2.1 u hu).trans (by rcases e197_2 u hu with ⟨q1, q2⟩ | ⟨q1, q2⟩; rw [q1, ndF_1 q2]; rw [q1, ndF_0 q2]), e197_1.2.2.2.2⟩
    refine w_goto d86_200 ?_
    refine w_less ?_ (L326 _ h197  rfl M197 (by unfold caS; rw [if_neg (by omega), if_neg (by omega), if_neg (by omega), if_neg (by omega), if_neg (by omega), if_neg (by omega), if_pos s6]; exact D.se ok m197 (fun z q => Or.inl q) ⟨false, ss197, (run0_I sI.2.2.1).1, (run0_I (P := v.1) sI.2.2.1).2, fun _ z => absurd z (by decide)⟩) (by unfold caS; rw [if_neg (by omega), if_neg (by omega), if_neg (by omega), if_neg (by omega), if_neg (by omega), if_neg (by omega), if_pos s6]; exact (by rw [m197.rb ok kl (nla 1286 (by decide) (by decide))]; exact hla)) (by rw [(m197.cp ok kl).2 (nla 1286 (by decide) (by decide))]))
    exact ⟨Or.inr rfl, Or.inr rfl, Or.inl rfl, trivial⟩
  by_cases s7 : t = 7
  · have rn := hok
    unfold refN at rn
    rw [if_neg (by omega), if_neg (by omega), if_neg (by omega), if_neg (by omega), if_neg (by omega), if_neg (by omega), if_pos (by omega)] at rn
    have nu0 : AI h (sT S 520 (sT S 1282 (sX S))) 0 = (((a.2.2.2 0).toNat : Nat) : Int) := by have := ra520 ok kq 0; rw [hnu] at this ⊢; omega
    refine w_tsw 203 d86_24 (by rw [s7]; decide) ?_
    refine w_aload_n d86_203 rfl ?_
    refine w_dloadS d86_204 (ok.kd ok.kX) (fr1286 ok ok.kX) ?_
    refine w_aload_n d86_207 rfl ?_
    refine w_dloadS d86_208 (ok.kd ok.kX) (fr1282 ok ok.kX) ?_
    refine w_dloadS d86_211 (ok.kd (kT1282 ok ok.kX)) (fr520 ok (kT1282 ok ok.kX)) ?_
    refine w_iconst d86_214 (by decide) ?_
    refine w_ialoadV (x := (((a.2.2.2 0).toNat : Nat) : Int)) d86_215 (gi520 ok (kT1282 ok ok.kX) (by omega)) nu0 ?_
    refine w_callv2 d86_216 (by omega) rfl (ok.kd (kT1286 ok ok.kX)) (by simp) (Nat.le_of_ble_eq_true rfl) ?_
    have n9 : (a.2.2.2 0).toNat ≤ 9999 := by have := ra520 ok kq 0; rw [hnu] at this; omega
    have hwx : ∀ z, U S (sT S 1286 (sX S)) z → ¬ U S (sT S 1288 (sX S)) z := apX ok.so (f := 1286) (g := 1288) (by decide) (by decide) (by decide)
    refine k_Se_go (m := (a.2.2.2 0).toNat) (C := rC (goR (seGo v.2.2))) ok (by omega) ks0 tg ⟨sd, sI, sL_, sY, fun j => Nat.le_refl _, D.2.2.2.2⟩ hwx (fun j => by have := hB.1 j; show rC (goR (seGo v.2.2)) j + 2 * (a.2.2.2 0).toNat < 2147483647; omega) (by have q := hB.2.1; show seSt v.2.2 + (a.2.2.2 0).toNat < 2147483647; omega) (fun h216 y2 c2 m216 e216_1 e216_2 e216_3 => ?_)
    have ok216 := m216.ok
    have M216 := Mo.tr ok (Mo.refl (A := (fun ζ => U S (sT S 1284 (sX S)) ζ ∨ U S (sT S 1285 (sX S)) ζ ∨ U S (sT S 1286 (sX S)) ζ ∨ U S (sT S 1288 (sX S)) ζ ∨ ζ = (sT S 1281 (sX S)))) ok) m216 (fun z q => by rcases q with q | q | q | q | q | q | q | q | q | q | q | q | q; exact Or.inr (Or.inr (Or.inl q)); exact Or.inr (Or.inr (Or.inr (Or.inl (q ▸ U_refl)))); all_goals exact Or.inr (Or.inr (Or.inr (Or.inl (q ▸ ok.so.uT (by decide) U_refl)))))
    have subG : ∀ z, GA S (sT S 1286 (sX S)) z → U S (sT S 1286 (sX S)) z ∨ (U S (sT S 1288 (sX S)) z ∧ z ≠ sT S 1152 (sT S 1288 (sX S))) ∨ z = sT S 1281 (sX S) := fun z q => by
      rcases q with q | q | q | q | q | q | q | q | q | q | q | q | q
      · exact Or.inl q
      · exact Or.inr (Or.inl ⟨q ▸ U_refl, fun e => ok.so.pT (by decide) (e.symm.trans q)⟩)
      all_goals exact Or.inr (Or.inl ⟨q ▸ ok.so.uT (by decide) U_refl, fun e => ok.so.ou (by decide) (by decide) (Or.inl (by decide)) (e.symm.trans q)⟩)
    have nlG : ¬ GA S (sT S 1286 (sX S)) (sT S 1281 (sX S)) := fun q => by
      rcases q with q | q | q | q | q | q | q | q | q | q | q | q | q
      · exact ok.so.nUT (f := 1286) (g := 1281) (x := sX S) (by decide) (by decide) (by decide) q
      all_goals exact ok.so.ou (by decide) (by decide) (Or.inl (by decide)) q
    have H216 := D.se (v' := (sePl v.2.2, v.2.2.2.1, v.2.2.2.2.1, seNd v.2.2, (goG (sePl v.2.2) (seNd v.2.2) (stL S (sT S 1286 (sX S))) (a.2.2.2 0).toNat (seGo v.2.2) (seOn v.2.2) (seSt v.2.2)))) ok m216 subG ⟨y2, e216_2.1, e216_2.2.1, e216_2.2.2.1, e216_2.2.2.2.1⟩
    refine w_aload_n d86_219 rfl ?_
    refine w_dloadS d86_220 (ok216.kd ok.kX) (fr1286 ok216 ok.kX) ?_
    refine w_aload_n d86_223 rfl ?_
    refine w_dloadS d86_224 (ok216.kd ok.kX) (fr1284 ok216 ok.kX) ?_
    refine w_aload_n d86_227 rfl ?_
    refine w_dloadS d86_228 (ok216.kd ok.kX) (fr1281 ok216 ok.kX) ?_
    refine w_callv3 d86_231 (by omega) rfl (ok216.kd (kT1286 ok216 ok.kX)) (by simp) (Nat.le_of_ble_eq_true rfl) ?_
    obtain ⟨p16, v16, ⟨y16, s16, s16b⟩, t16⟩ := H216
    refine k_Se_tellEnd (ts := v.1.2.2) ok216 (by omega) ks0 kp kl tg s16.2.2.1 s16.2.2.2.2.1 p16.2.2 (by have q1 : rF (goR (goG (sePl v.2.2) (seNd v.2.2) (stL S (sT S 1286 (sX S))) (a.2.2.2 0).toNat (seGo v.2.2) (seOn v.2.2) (seSt v.2.2)).1) < ((sePl v.2.2).2.2.length : Int) := s16b.1.2.2.2.1; exact Int.lt_of_lt_of_le q1 (Int.ofNat_le.mpr hPQ)) (fun u => ok.so.nUT (f := 1286) (g := 1281) (x := sX S) (by decide) (by decide) (by decide) u) (fun u => ok.so.nUT (f := 1284) (g := 1281) (x := sX S) (by decide) (by decide) (by decide) u) (fun h231 m231 e231_1 e231_2 => ?_)
    have ok231 := m231.ok
    have M231 := Mo.tr ok M216 m231 (fun ζ e => (Or.inr (Or.inr (Or.inr (Or.inr e)))))
    refine w_goto d86_234 ?_
    refine w_less ?_ (L326 _ h231  rfl M231 (by unfold caS; rw [if_neg (by omega), if_neg (by omega), if_neg (by omega), if_neg (by omega), if_neg (by omega), if_neg (by omega), if_neg (by omega), if_pos s7]; exact (HoC.f ok216 m231 (fun f f1 f2 z u q => ok.so.nUT (f := f) (g := 1281) (x := sX S) (by omega) (by decide) (by omega) (q ▸ u)) (D.se ok m216 subG ⟨y2, e216_2.1, e216_2.2.1, e216_2.2.2.1, e216_2.2.2.2.1⟩))) (by unfold caS; rw [if_neg (by omega), if_neg (by omega), if_neg (by omega), if_neg (by omega), if_neg (by omega), if_neg (by omega), if_neg (by omega), if_pos s7]; exact (by rw [e231_1, m216.rb ok kl nlG, hla, (m216.cp ok kl).2 nlG]; exact addBs_lat (by omega) (endT_len _ _ _ _ ⟨e216_2.1.2.2.1.2.2.2.2.2.2.2.2.2, tn8 pl.2.2 _⟩))) (by rw [e231_2, (m216.cp ok kl).2 nlG]))
    exact ⟨Or.inr rfl, Or.inr rfl, Or.inl rfl, trivial⟩
  by_cases s8 : t = 8
  · have rn := hok
    unfold refN at rn
    rw [if_neg (by omega), if_neg (by omega), if_neg (by omega), if_neg (by omega), if_neg (by omega), if_neg (by omega), if_pos (by omega)] at rn
    refine w_tsw 237 d86_24 (by rw [s8]; decide) ?_
    refine w_aload_n d86_237 rfl ?_
    refine w_dloadS d86_238 (ok.kd ok.kX) (fr1286 ok ok.kX) ?_
    refine w_callv1 d86_241 (by omega) rfl (ok.kd (kT1286 ok ok.kX)) (by simp) (Nat.le_of_ble_eq_true rfl) ?_
    refine k_Se_stop ok (by omega) ks0 sd (fun h241 m241 e241_1 => ?_)
    have ok241 := m241.ok
    have M241 := Mo.tr ok (Mo.refl (A := (fun ζ => U S (sT S 1284 (sX S)) ζ ∨ U S (sT S 1285 (sX S)) ζ ∨ U S (sT S 1286 (sX S)) ζ ∨ U S (sT S 1288 (sX S)) ζ ∨ ζ = (sT S 1281 (sX S)))) ok) m241 (fun z q => Or.inr (Or.inr (Or.inl (q.elim (fun q => q ▸ U_refl) (fun q => q ▸ ok.so.uT (by decide) U_refl)))))
    refine w_goto d86_244 ?_
    refine w_less ?_ (L326 _ h241  rfl M241 (by unfold caS; rw [if_neg (by omega), if_neg (by omega), if_neg (by omega), if_neg (by omega), if_neg (by omega), if_neg (by omega), if_neg (by omega), if_neg (by omega), if_pos s8]; exact D.se ok m241 (fun z q => Or.inl (q.elim (fun q => q ▸ U_refl) (fun q => q ▸ ok.so.uT (by decide) U_refl))) ⟨y0, e241_1, ⟨fun w hw => (by show (-1 : Int) ≤ -1 ∧ (-1 : Int) < _; omega), fun w hw he q => absurd q (by show ¬ (0 : Int) ≤ -1; decide), sI.2.2⟩, fun w hw he q => absurd q (by show ¬ (0 : Int) ≤ -1; decide), fun z => absurd z Bool.false_ne_true⟩) (by unfold caS; rw [if_neg (by omega), if_neg (by omega), if_neg (by omega), if_neg (by omega), if_neg (by omega), if_neg (by omega), if_neg (by omega), if_neg (by omega), if_pos s8]; exact (by rw [m241.rb ok kl nl8]; exact hla)) (by rw [(m241.cp ok kl).2 nl8]))
    exact ⟨Or.inr rfl, Or.inr rfl, Or.inl rfl, trivial⟩
  by_cases s9 : t = 9
  · have rn := hok
    unfold refN at rn
    rw [if_neg (by omega), if_neg (by omega), if_neg (by omega), if_neg (by omega), if_neg (by omega), if_neg (by omega), if_neg (by omega), if_pos (by omega)] at rn
    refine w_tsw 247 d86_24 (by rw [s9]; decide) ?_
    refine w_aload_n d86_247 rfl ?_
    refine w_dloadS d86_248 (ok.kd ok.kX) (fr1286 ok ok.kX) ?_
    refine w_dloadS d86_251 (ok.kd (kT1286 ok ok.kX)) (fr769 ok (kT1286 ok ok.kX)) ?_
    refine w_aload_n d86_254 rfl ?_
    refine w_dloadS d86_255 (ok.kd ok.kX) (fr1284 ok ok.kX) ?_
    refine w_lload_n d86_258 rfl ?_
    refine w_callv2 d86_259 (by omega) rfl (ok.kd (kT1284 ok ok.kX)) (by simp) (Nat.le_of_ble_eq_true rfl) ?_
    obtain ⟨hx, hy, ho, hoN⟩ := hn0 (by omega)
    have tr := tix_rg v.1.2.2 a.1
    have l14 := pl.2.2.2.1
    have hp : hpB (seGo v.2.2).1 (tix v.1.2.2 a.1) = true := by cases z : hpB (seGo v.2.2).1 (tix v.1.2.2 a.1) with
      | true => rfl
      | false => rw [if_neg (by rw [z]; decide)] at rn; exact absurd rn (by decide)
    have hp2 := hp
    unfold hpB at hp2
    rw [Bool.and_eq_true, decide_eq_true_eq] at hp2
    refine k_Plan_numberOf ok (by omega) kp pl.2.2 ?_
    rw [show tixJ v.1.2.2 (AL h (sT S 517 (sT S 1282 (sX S))) 0) = (((tix v.1.2.2 a.1).toNat : Nat) : Int) from (by rw [hx, tixJ_eq pl.2.2.okn (hoN (by omega))]; omega)]
    refine w_aload_n d86_262 rfl ?_
    refine w_dloadS d86_263 (ok.kd ok.kX) (fr1281 ok ok.kX) ?_
    refine w_callv3 d86_266 (by omega) rfl (ok.kd (kT769 ok (kT1286 ok ok.kX))) (by simp) (Nat.le_of_ble_eq_true rfl) ?_
    refine k_St_release (n := (tix v.1.2.2 a.1).toNat) ok (by omega) (kT769 ok ks0) kl tg sd.2.1 (by omega) hp2.2 (fun i _ => hB.2.2 _ i) (fun u => ok.so.nUT (f := 1286) (g := 1281) (x := sX S) (by decide) (by decide) (by decide) (U_trans (ok.so.uT (by decide) U_refl) u)) (fun h266 m266 e266_1 e266_2 e266_3 => ?_)
    have ok266 := m266.ok
    have M266 := Mo.tr ok (Mo.refl (A := (fun ζ => U S (sT S 1284 (sX S)) ζ ∨ U S (sT S 1285 (sX S)) ζ ∨ U S (sT S 1286 (sX S)) ζ ∨ U S (sT S 1288 (sX S)) ζ ∨ ζ = (sT S 1281 (sX S)))) ok) m266 (fun z q => q.elim (fun q => Or.inr (Or.inr (Or.inl (U_trans (ok.so.uT (by decide) U_refl) q)))) (fun q => Or.inr (Or.inr (Or.inr (Or.inr q)))))
    refine w_goto d86_269 ?_
    refine w_less ?_ (L326 _ h266  rfl M266 (by unfold caS; rw [if_neg (by omega), if_neg (by omega), if_neg (by omega), if_neg (by omega), if_neg (by omega), if_neg (by omega), if_neg (by omega), if_neg (by omega), if_neg (by omega), if_pos s9]; exact D.se ok m266 (fun z q => q.elim (fun q => Or.inl (U_trans (ok.so.uT (by decide) U_refl) q)) (fun q => Or.inr (Or.inr q))) ⟨y0, sd.st2 ok m266 ks0 (fun z q => q.elim Or.inl (fun q => Or.inr (fun u => ok.so.nUT (f := 1286) (g := 1281) (x := sX S) (by decide) (by decide) (by decide) (q ▸ u)))) e266_1, sI, sL_, sY⟩) (by unfold caS; rw [if_neg (by omega), if_neg (by omega), if_neg (by omega), if_neg (by omega), if_neg (by omega), if_neg (by omega), if_neg (by omega), if_neg (by omega), if_neg (by omega), if_pos s9]; exact (by rw [e266_2, hla]; exact addBs_lat (by omega) (relTxt_len _ _ _))) e266_3)
    exact ⟨Or.inr rfl, Or.inr rfl, Or.inl rfl, trivial⟩
  by_cases s10 : t = 10
  · have rn := hok
    unfold refN at rn
    rw [if_neg (by omega), if_neg (by omega), if_neg (by omega), if_neg (by omega), if_neg (by omega), if_neg (by omega), if_neg (by omega), if_neg (by omega), if_pos (by omega)] at rn
    refine w_tsw 272 d86_24 (by rw [s10]; decide) ?_
    refine w_aload_n d86_272 rfl ?_
    refine w_dloadS d86_273 (ok.kd ok.kX) (fr1285 ok ok.kX) ?_
    refine w_aload_n d86_276 rfl ?_
    refine w_dloadS d86_277 (ok.kd ok.kX) (fr1282 ok ok.kX) ?_
    refine w_dloadS d86_280 (ok.kd (kT1282 ok ok.kX)) (fr520 ok (kT1282 ok ok.kX)) ?_
    refine w_iconst d86_283 (by decide) ?_
    refine w_aload_n d86_284 rfl ?_
    refine w_dloadS d86_285 (ok.kd ok.kX) (fr1281 ok ok.kX) ?_
    refine w_callv4 d86_288 (by omega) rfl (ok.kd (kT1285 ok ok.kX)) (by simp) (Nat.le_of_ble_eq_true rfl) ?_
    refine k_Vr_add (f := 0) ok (by omega) kv kl tg kq d2 (by omega) (by rw [hnu]; exact rn) (fun u => ok.so.nUT (f := 1285) (g := 1281) (x := sX S) (by decide) (by decide) (by decide) u) (fun h288 m288 e288_1 e288_2 e288_3 => ?_)
    have ok288 := m288.ok
    have M288 := Mo.tr ok (Mo.refl (A := (fun ζ => U S (sT S 1284 (sX S)) ζ ∨ U S (sT S 1285 (sX S)) ζ ∨ U S (sT S 1286 (sX S)) ζ ∨ U S (sT S 1288 (sX S)) ζ ∨ ζ = (sT S 1281 (sX S)))) ok) m288 (fun z q => by rcases q with q | q | q | q | q | q | q; exact Or.inr (Or.inl (q ▸ U_refl)); exact Or.inr (Or.inl (q ▸ ok.so.uT (by decide) U_refl)); exact Or.inr (Or.inl (q ▸ ok.so.uT (by decide) U_refl)); exact Or.inr (Or.inl (q ▸ ok.so.uT (by decide) U_refl)); exact Or.inr (Or.inl (q ▸ ok.so.uT (by decide) U_refl)); exact Or.inr (Or.inl (q ▸ ok.so.uT (by decide) U_refl)); exact Or.inr (Or.inr (Or.inr (Or.inr q))))
    rw [hnu] at e288_1
    have sv : ∀ z, (z = (sT S 1285 (sX S)) ∨ z = sT S 1025 (sT S 1285 (sX S)) ∨ z = sT S 1026 (sT S 1285 (sX S)) ∨ z = sT S 1027 (sT S 1285 (sX S)) ∨ z = sT S 1028 (sT S 1285 (sX S)) ∨ z = sT S 1029 (sT S 1285 (sX S)) ∨ z = sT S 1281 (sX S)) → U S (sT S 1285 (sX S)) z ∨ z = sT S 1281 (sX S) := fun z q => by rcases q with q | q | q | q | q | q | q; exact Or.inl (q ▸ U_refl); exact Or.inl (q ▸ ok.so.uT (by decide) U_refl); exact Or.inl (q ▸ ok.so.uT (by decide) U_refl); exact Or.inl (q ▸ ok.so.uT (by decide) U_refl); exact Or.inl (q ▸ ok.so.uT (by decide) U_refl); exact Or.inl (q ▸ ok.so.uT (by decide) U_refl); exact Or.inr q
    refine w_goto d86_291 ?_
    refine w_less ?_ (L326 _ h288  rfl M288 (by unfold caS; rw [if_neg (by omega), if_neg (by omega), if_neg (by omega), if_neg (by omega), if_neg (by omega), if_neg (by omega), if_neg (by omega), if_neg (by omega), if_neg (by omega), if_neg (by omega), if_pos s10]; exact D.vr ok m288 sv e288_1) (by unfold caS; rw [if_neg (by omega), if_neg (by omega), if_neg (by omega), if_neg (by omega), if_neg (by omega), if_neg (by omega), if_neg (by omega), if_neg (by omega), if_neg (by omega), if_neg (by omega), if_pos s10]; exact (by rw [e288_2, hla]; exact addBs_lat (by omega) (by have d2l := dec_len v.2.1.length (by have := d2.2.1; omega); have t2l : (txt 20).length = 5 := (by decide); rw [List.length_append]; omega))) e288_3)
    exact ⟨Or.inr rfl, Or.inr rfl, Or.inl rfl, trivial⟩
  by_cases s11 : t = 11
  · have rn := hok
    unfold refN at rn
    rw [if_neg (by omega), if_neg (by omega), if_neg (by omega), if_neg (by omega), if_neg (by omega), if_neg (by omega), if_neg (by omega), if_neg (by omega), if_neg (by omega), if_pos (by omega)] at rn
    refine w_tsw 294 d86_24 (by rw [s11]; decide) ?_
    refine w_aload_n d86_294 rfl ?_
    refine w_dloadS d86_295 (ok.kd ok.kX) (fr1285 ok ok.kX) ?_
    refine w_aload_n d86_298 rfl ?_
    refine w_dloadS d86_299 (ok.kd ok.kX) (fr1282 ok ok.kX) ?_
    refine w_dloadS d86_302 (ok.kd (kT1282 ok ok.kX)) (fr520 ok (kT1282 ok ok.kX)) ?_
    refine w_iconst d86_305 (by decide) ?_
    refine w_aload_n d86_306 rfl ?_
    refine w_dloadS d86_307 (ok.kd ok.kX) (fr1281 ok ok.kX) ?_
    refine w_callv4 d86_310 (by omega) rfl (ok.kd (kT1285 ok ok.kX)) (by simp) (Nat.le_of_ble_eq_true rfl) ?_
    refine k_Vr_add (f := 2) ok (by omega) kv kl tg kq d2 (by omega) (by rw [hnu]; exact rn) (fun u => ok.so.nUT (f := 1285) (g := 1281) (x := sX S) (by decide) (by decide) (by decide) u) (fun h310 m310 e310_1 e310_2 e310_3 => ?_)
    have ok310 := m310.ok
    have M310 := Mo.tr ok (Mo.refl (A := (fun ζ => U S (sT S 1284 (sX S)) ζ ∨ U S (sT S 1285 (sX S)) ζ ∨ U S (sT S 1286 (sX S)) ζ ∨ U S (sT S 1288 (sX S)) ζ ∨ ζ = (sT S 1281 (sX S)))) ok) m310 (fun z q => by rcases q with q | q | q | q | q | q | q; exact Or.inr (Or.inl (q ▸ U_refl)); exact Or.inr (Or.inl (q ▸ ok.so.uT (by decide) U_refl)); exact Or.inr (Or.inl (q ▸ ok.so.uT (by decide) U_refl)); exact Or.inr (Or.inl (q ▸ ok.so.uT (by decide) U_refl)); exact Or.inr (Or.inl (q ▸ ok.so.uT (by decide) U_refl)); exact Or.inr (Or.inl (q ▸ ok.so.uT (by decide) U_refl)); exact Or.inr (Or.inr (Or.inr (Or.inr q))))
    rw [hnu] at e310_1
    have sv : ∀ z, (z = (sT S 1285 (sX S)) ∨ z = sT S 1025 (sT S 1285 (sX S)) ∨ z = sT S 1026 (sT S 1285 (sX S)) ∨ z = sT S 1027 (sT S 1285 (sX S)) ∨ z = sT S 1028 (sT S 1285 (sX S)) ∨ z = sT S 1029 (sT S 1285 (sX S)) ∨ z = sT S 1281 (sX S)) → U S (sT S 1285 (sX S)) z ∨ z = sT S 1281 (sX S) := fun z q => by rcases q with q | q | q | q | q | q | q; exact Or.inl (q ▸ U_refl); exact Or.inl (q ▸ ok.so.uT (by decide) U_refl); exact Or.inl (q ▸ ok.so.uT (by decide) U_refl); exact Or.inl (q ▸ ok.so.uT (by decide) U_refl); exact Or.inl (q ▸ ok.so.uT (by decide) U_refl); exact Or.inl (q ▸ ok.so.uT (by decide) U_refl); exact Or.inr q
    refine w_goto d86_313 ?_
    refine w_less ?_ (L326 _ h310  rfl M310 (by unfold caS; rw [if_neg (by omega), if_neg (by omega), if_neg (by omega), if_neg (by omega), if_neg (by omega), if_neg (by omega), if_neg (by omega), if_neg (by omega), if_neg (by omega), if_neg (by omega), if_neg (by omega), if_pos s11]; exact D.vr ok m310 sv e310_1) (by unfold caS; rw [if_neg (by omega), if_neg (by omega), if_neg (by omega), if_neg (by omega), if_neg (by omega), if_neg (by omega), if_neg (by omega), if_neg (by omega), if_neg (by omega), if_neg (by omega), if_neg (by omega), if_pos s11]; exact (by rw [e310_2, hla]; exact addBs_lat (by omega) (by have d2l := dec_len v.2.1.length (by have := d2.2.1; omega); have t2l : (txt 20).length = 5 := (by decide); rw [List.length_append]; omega))) e310_3)
    exact ⟨Or.inr rfl, Or.inr rfl, Or.inl rfl, trivial⟩
  by_cases s12 : t = 12
  · have rn := hok
    unfold refN at rn
    rw [if_neg (by omega), if_neg (by omega), if_neg (by omega), if_neg (by omega), if_neg (by omega), if_neg (by omega), if_neg (by omega), if_neg (by omega), if_neg (by omega), if_neg (by omega), if_pos (by omega)] at rn
    refine w_tsw 316 d86_24 (by rw [s12]; decide) ?_
    refine w_aload_n d86_316 rfl ?_
    refine w_dloadS d86_317 (ok.kd ok.kX) (fr1285 ok ok.kX) ?_
    refine w_callv1 d86_320 (by omega) rfl (ok.kd (kT1285 ok ok.kX)) (by simp) (Nat.le_of_ble_eq_true rfl) ?_
    refine k_Vr_removeLatest ok (by omega) kv d2 (fun h320 m320 e320_1 e320_2 => ?_)
    have ok320 := m320.ok
    have M320 := Mo.tr ok (Mo.refl (A := (fun ζ => U S (sT S 1284 (sX S)) ζ ∨ U S (sT S 1285 (sX S)) ζ ∨ U S (sT S 1286 (sX S)) ζ ∨ U S (sT S 1288 (sX S)) ζ ∨ ζ = (sT S 1281 (sX S)))) ok) m320 (fun ζ e => (Or.inr (Or.inl (e ▸ U_refl))))
    refine w_goto d86_323 ?_
    refine w_less ?_ (L326 _ h320  rfl M320 (by unfold caS; rw [if_neg (by omega), if_neg (by omega), if_neg (by omega), if_neg (by omega), if_neg (by omega), if_neg (by omega), if_neg (by omega), if_neg (by omega), if_neg (by omega), if_neg (by omega), if_neg (by omega), if_neg (by omega)]; exact D.vr ok m320 (fun z q => Or.inl (q ▸ U_refl)) e320_1) (by unfold caS; rw [if_neg (by omega), if_neg (by omega), if_neg (by omega), if_neg (by omega), if_neg (by omega), if_neg (by omega), if_neg (by omega), if_neg (by omega), if_neg (by omega), if_neg (by omega), if_neg (by omega), if_neg (by omega)]; exact (by rw [m320.rb ok kl (fun q => ok.so.ou (by decide) (by decide) (Or.inl (by decide)) q)]; exact hla)) (by rw [(m320.cp ok kl).2 (fun q => ok.so.ou (by decide) (by decide) (Or.inl (by decide)) q)]))
    exact ⟨Or.inr rfl, Or.inr rfl, Or.inl rfl, trivial⟩
  have s0 : t = 0 := by omega
  refine w_tsw 92 d86_24 (by rw [show t = 0 by omega]; decide) ?_
  refine w_aload_n d86_92 rfl ?_
  refine w_callv1 d86_93 (by omega) rfl (ok.kd ok.kX) (by simp) (Nat.le_of_ble_eq_true rfl) ?_
  refine k_Ho_forget ok (by omega) D (fun h93 m93 e93_1 => ?_)
  have ok93 := m93.ok
  have M93 := Mo.tr ok (Mo.refl (A := (fun ζ => U S (sT S 1284 (sX S)) ζ ∨ U S (sT S 1285 (sX S)) ζ ∨ U S (sT S 1286 (sX S)) ζ ∨ U S (sT S 1288 (sX S)) ζ ∨ ζ = (sT S 1281 (sX S)))) ok) m93 (fun z q => by rcases q with q | q | q; exact Or.inl q; exact Or.inr (Or.inl (q ▸ U_refl)); exact Or.inr (Or.inr (Or.inl q)))
  have nl0 : ¬ (U S (sT S 1284 (sX S)) (sT S 1281 (sX S)) ∨ sT S 1281 (sX S) = sT S 1285 (sX S) ∨ U S (sT S 1286 (sX S)) (sT S 1281 (sX S))) := fun q => by rcases q with q | q | q; exact ok.so.nUT (f := 1284) (g := 1281) (x := sX S) (by decide) (by decide) (by decide) q; exact ok.so.ou (by decide) (by decide) (Or.inl (by decide)) q; exact ok.so.nUT (f := 1286) (g := 1281) (x := sX S) (by decide) (by decide) (by decide) q
  refine w_goto d86_96 ?_
  refine w_less ?_ (L326 _ h93  rfl M93 (by unfold caS; rw [if_pos s0]; exact e93_1) (by unfold caS; rw [if_pos s0]; exact (by rw [m93.rb ok kl nl0]; exact hla)) (by rw [(m93.cp ok kl).2 nl0]))
  exact ⟨Or.inr rfl, Or.inr rfl, Or.inl rfl, trivial⟩
