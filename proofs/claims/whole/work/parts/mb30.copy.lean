/-! the reference: definitions copied -/
theorem d244_0 : dc 244 0 = some (.iconst 0, 1) := by decide +kernel
theorem d244_1 : dc 244 1 = some (.istore_n 2, 2) := by decide +kernel
theorem d244_2 : dc 244 2 = some (.iload_n 2, 3) := by decide +kernel
theorem d244_3 : dc 244 3 = some (.aload_n 0, 4) := by decide +kernel
theorem d244_4 : dc 244 4 = some (.arraylength, 5) := by decide +kernel
theorem d244_5 : dc 244 5 = some (.if_icmp .ge ((20 : Nat) : Int), 8) := by decide +kernel
theorem d244_8 : dc 244 8 = some (.aload_n 1, 9) := by decide +kernel
theorem d244_9 : dc 244 9 = some (.iload_n 2, 10) := by decide +kernel
theorem d244_10 : dc 244 10 = some (.aload_n 0, 11) := by decide +kernel
theorem d244_11 : dc 244 11 = some (.iload_n 2, 12) := by decide +kernel
theorem d244_12 : dc 244 12 = some (.iaload, 13) := by decide +kernel
theorem d244_13 : dc 244 13 = some (.iastore, 14) := by decide +kernel
theorem d244_14 : dc 244 14 = some (.iinc 2 1, 17) := by decide +kernel
theorem d244_17 : dc 244 17 = some (.goto ((2 : Nat) : Int), 20) := by decide +kernel
theorem d244_20 : dc 244 20 = some (.return_, 21) := by decide +kernel
theorem k_D_copyRow {S : Shp} {G : Nat → Option Nat} {d : Nat} {h : Hp} {Q : Option MV → Hp → Prop} {d1 d2 f n : Nat} (ok : Ok S h) (h1 : 0 ≤ d) (hk1d : sK S d1 = 12) (hk2d : sK S d2 = 12) (nd : d1 ≠ d2) (hf : fk f = 40) (hf4 : f < 4096) (hkf : kFld f = 12) (hl : fl f = n) (hn : n ≠ 0) (hn2 : n < 100000)
    (kk : ∀ h', Mo S (fun ζ => ζ = (sT S f d2)) h h' → (∀ j, j < n → AI h' (sT S f d2) j = AI h (sT S f d1) j) → Q none h') : Cl G d 244 [vR (some (sT S f d1)), vR (some (sT S f d2))] h Q := by
  show Wp G d 244 0 [some (vR (some (sT S f d1))), some (vR (some (sT S f d2))), none] [] h Q
  have hd1 : sK S d1 = kFld f := hk1d.trans hkf.symm
  have hd2 : sK S d2 = kFld f := hk2d.trans hkf.symm
  have hia : isArr (fk f) = true := by rw [hf]; rfl
  have hk1 : sK S (sT S f d1) ≠ 0 ∧ sK S (sT S f d1) ≠ 6 := by
    have := g_kT ok hd1 hf (by decide)
    omega
  have M0 : Mo S (fun ζ => ζ = (sT S f d2)) h h := Mo.refl ok
  refine w_iconst d244_0 (by decide) ?_
  refine w_istore2 d244_1 rfl ?_
  have L2 : ∀ (m2 : Nat) (g : Hp) (i : Nat), n - i = m2 → Mo S (fun ζ => ζ = (sT S f d2)) h g → (i ≤ n) → (∀ j, j < i → AI g (sT S f d2) j = AI h (sT S f d1) j) → Wp G d 244 2 [some (vR (some (sT S f d1))), some (vR (some (sT S f d2))), some (vI (i : Nat))] [] g Q := by
    intro m2
    induction m2 using Nat.strongRecOn with | ind m2 IH2 => ?_
    intro g i hm2 Mg il hc
    have okg := Mg.ok
    have es := Mg.ai ok hk1 (fun z => nd ((ok.so.inj hf4 hf4).mp z).2)
    refine w_iload_n d244_2 rfl ?_
    refine w_aload_n d244_3 rfl ?_
    refine p_len d244_4 okg hd1 hia hl hn ?_
    refine w_icmpge d244_5 (fun c5 => ?_) (fun c5 => ?_)
    · have ei : i = n := by omega
      refine w_return d244_20 ?_
      exact kk g Mg (fun j hj => hc j (by omega))
    · have hi : i < n := by omega
      refine w_aload_n d244_8 rfl ?_
      refine w_iload_n d244_9 rfl ?_
      refine w_aload_n d244_10 rfl ?_
      refine w_iload_n d244_11 rfl ?_
      refine w_ialoadV (x := (AI h (sT S f d1) i)) d244_12 (by obtain ⟨a, b⟩ := g_ix okg hd1 (by omega) hl (i := ((i : Nat) : Int)) (by omega); exact ⟨by rw [a, hf]; rfl, b⟩) (congrFun es i) ?_
      have rg := g_ra ok hd1 (Or.inl hf) rfl rfl i
      refine p_AI d244_13 okg hd2 hf hl (by omega) rg (fun h13 e13 m13 => ?_)
      have e13 : h13 = sAI g (sT S f d2) i (AI h (sT S f d1) i) := e13
      have ok13 := m13.ok
      have M13 := Mo.tr ok Mg m13 (fun ζ e => e)
      refine w_iinc2 d244_14 rfl (by constructor <;> omega) ?_
      refine w_goto d244_17 ?_
      rw [show ((i : Nat) : Int) + 1 = ((i + 1 : Nat) : Int) by omega]
      refine w_less ?_ (IH2 _ (by omega) h13 (i + 1) rfl M13 (by omega) (fun j hj => by rw [e13, sArr]; by_cases q : j = i; rw [if_pos q, q]; rw [if_neg q]; exact hc j (by omega)))
      exact ⟨Or.inr rfl, Or.inr rfl, Or.inr rfl, trivial⟩
  have M0 : Mo S (fun ζ => ζ = (sT S f d2)) h h := Mo.refl ok
  refine w_less ?_ (L2 _ h 0 rfl M0 (Nat.zero_le _) (fun j hj => absurd hj (Nat.not_lt_zero _)))
  exact ⟨Or.inr rfl, Or.inr rfl, Or.inr rfl, trivial⟩
/-- rows that are copied -/
def CpD (S : Shp) (h0 h : Hp) (d1 d2 : Nat) (l : List Nat) : Prop := ∀ f, f ∈ l → ∀ j, j < fl f → AI h (sT S f d2) j = AI h0 (sT S f d1) j
theorem CpD.add {S : Shp} {h0 h h' : Hp} {d1 d2 f : Nat} {l : List Nat} (D : CpD S h0 h d1 d2 l) (ok : Ok S h) (hd2 : sK S d2 = 12) (mo : Mo S (fun ζ => ζ = (sT S f d2)) h h') (cr : ∀ j, j < fl f → AI h' (sT S f d2) j = AI h0 (sT S f d1) j) (f4 : f < 4096) (hl : ∀ g ∈ l, (fk g = 40 ∨ fk g = 42) ∧ kFld g = 12 ∧ g < 4096 ∧ g ≠ f := by decide) : CpD S h0 h' d1 d2 (f :: l) := fun g hg j hj => by
  rcases List.mem_cons.mp hg with q | q
  · subst q; exact cr j hj
  · obtain ⟨a, b, c, e⟩ := hl g q
    have k : sK S (sT S g d2) ≠ 0 ∧ sK S (sT S g d2) ≠ 6 := by
      rcases a with a | a
      · have := g_kT ok (hd2.trans b.symm) a (by decide); omega
      · have := g_kT ok (hd2.trans b.symm) a (by decide); omega
    rw [mo.ai ok k (fun z => e ((ok.so.inj c f4).mp z).1)]
    exact D g q j hj
theorem SgC.cp {S : Shp} {h0 h : Hp} {d1 d2 f i : Nat} {l : List Nat} (D : SgC S h0 (sT S f d1) i l) (ok : Ok S h) (h1 : sK S d1 = 12) (h2 : sK S d2 = 12) (cp : ∀ j, j < fl f → AI h (sT S f d2) j = AI h0 (sT S f d1) j) (hf : fk f = 40 ∧ kFld f = 12 ∧ fl f ≠ 0 := by decide) : SgC S h (sT S f d2) i l := by
  obtain ⟨a, b, c, e⟩ := D
  have l1 := sLT ok (h1.trans hf.2.1.symm) (by omega) rfl hf.2.2
  have l2 := sLT ok (h2.trans hf.2.1.symm) (by omega) rfl hf.2.2
  refine ⟨g_kT ok (h2.trans hf.2.1.symm) hf.1 (by decide), by omega, by omega, fun k hk => ?_⟩
  rw [cp _ (by omega)]
  exact e k hk
theorem DfC.cp {S : Shp} {h0 h : Hp} {d1 d2 : Nat} {P : PlV} (D : DfC S h0 d1 P) (ok : Ok S h) (h1 : sK S d1 = 12) (h2 : sK S d2 = 12) (e1 : FI h 1408 d2 = FI h0 1408 d1) (e2 : FI h 1413 d2 = FI h0 1413 d1) (e3 : FI h 1417 d2 = FI h0 1417 d1) (C : ∀ f, f ∈ [1409, 1410, 1411, 1412, 1414, 1415, 1416, 1418, 1419, 1421, 1422, 1423, 1424, 1426, 1427, 1428, 1429, 1430, 1420, 1425] → ∀ j, j < fl f → AI h (sT S f d2) j = AI h0 (sT S f d1) j) : DfC S h d2 P := by
  obtain ⟨⟨f1, f2, f3⟩, ⟨g1, g2, g3⟩, ⟨t1, t2, t3⟩⟩ := D
  have c := fun f (hf : f ∈ [1409, 1410, 1411, 1412, 1414, 1415, 1416, 1418, 1419, 1421, 1422, 1423, 1424, 1426, 1427, 1428, 1429, 1430, 1420, 1425]) => C f hf
  refine ⟨⟨e1.trans f1, f2, fun i hi => ?_⟩, ⟨e2.trans g1, g2, fun i hi => ?_⟩, ⟨e3.trans t1, t2, fun t ht => ?_⟩⟩
  · obtain ⟨a1, a2, a3, a4, a5, a6⟩ := f3 i hi
    exact ⟨(c 1410 (by decide) i (by show i < 16; omega)).trans a1, a2, a3.cp ok h1 h2 (c 1409 (by decide)), (c 1412 (by decide) i (by show i < 16; omega)).trans a4, a5, a6.cp ok h1 h2 (c 1411 (by decide))⟩
  · obtain ⟨a1, a2, a3, a4, a5⟩ := g3 i hi
    exact ⟨(c 1415 (by decide) i (by show i < 6; omega)).trans a1, a2, a3.cp ok h1 h2 (c 1414 (by decide)), (c 1416 (by decide) i (by show i < 6; omega)).trans a4, a5⟩
  · obtain ⟨a1, a2, a3, a4, a5, a6, a7, a8, a9, a10, a11, a12, a13, a14, a15, a16, a17⟩ := t3 t ht
    have z : ∀ f, fl f = 14 → t < fl f := fun f e => by omega
    refine ⟨(c 1419 (by decide) t (z _ rfl)).trans a1, a2, a3.cp ok h1 h2 (c 1418 (by decide)), (c 1420 (by decide) t (z _ rfl)).trans a4, (c 1421 (by decide) t (z _ rfl)).trans a5, a6, (c 1423 (by decide) t (z _ rfl)).trans a7, a8, a9.cp ok h1 h2 (c 1422 (by decide)), (c 1424 (by decide) t (z _ rfl)).trans a10, a11, fun k hk => ?_, (c 1429 (by decide) t (z _ rfl)).trans a13, a14, a15.cp ok h1 h2 (c 1428 (by decide)), (c 1430 (by decide) t (z _ rfl)).trans a16, a17⟩
    obtain ⟨b1, b2, b3, b4⟩ := a12 k hk
    exact ⟨(c 1425 (by decide) _ (by show 6 * t + k < 84; omega)).trans b1, (c 1427 (by decide) _ (by show 6 * t + k < 84; omega)).trans b2, b3, b4.cp ok h1 h2 (c 1426 (by decide))⟩
theorem d243_0 : dc 243 0 = some (.aload_n 0, 1) := by decide +kernel
theorem d243_1 : dc 243 1 = some (.aload_n 1, 2) := by decide +kernel
theorem d243_2 : dc 243 2 = some (.getfield 1408, 5) := by decide +kernel
theorem d243_5 : dc 243 5 = some (.putfield 1408, 8) := by decide +kernel
theorem d243_8 : dc 243 8 = some (.aload_n 0, 9) := by decide +kernel
theorem d243_9 : dc 243 9 = some (.aload_n 1, 10) := by decide +kernel
theorem d243_10 : dc 243 10 = some (.getfield 1413, 13) := by decide +kernel
theorem d243_13 : dc 243 13 = some (.putfield 1413, 16) := by decide +kernel
theorem d243_16 : dc 243 16 = some (.aload_n 0, 17) := by decide +kernel
theorem d243_17 : dc 243 17 = some (.aload_n 1, 18) := by decide +kernel
theorem d243_18 : dc 243 18 = some (.getfield 1417, 21) := by decide +kernel
theorem d243_21 : dc 243 21 = some (.putfield 1417, 24) := by decide +kernel
theorem d243_24 : dc 243 24 = some (.aload_n 1, 25) := by decide +kernel
theorem d243_25 : dc 243 25 = some (.dload 1409, 28) := by decide +kernel
theorem d243_28 : dc 243 28 = some (.aload_n 0, 29) := by decide +kernel
theorem d243_29 : dc 243 29 = some (.dload 1409, 32) := by decide +kernel
theorem d243_32 : dc 243 32 = some (.invokevirtual 244, 35) := by decide +kernel
theorem d243_35 : dc 243 35 = some (.aload_n 1, 36) := by decide +kernel
theorem d243_36 : dc 243 36 = some (.dload 1410, 39) := by decide +kernel
theorem d243_39 : dc 243 39 = some (.aload_n 0, 40) := by decide +kernel
theorem d243_40 : dc 243 40 = some (.dload 1410, 43) := by decide +kernel
theorem d243_43 : dc 243 43 = some (.invokevirtual 244, 46) := by decide +kernel
theorem d243_46 : dc 243 46 = some (.aload_n 1, 47) := by decide +kernel
theorem d243_47 : dc 243 47 = some (.dload 1411, 50) := by decide +kernel
theorem d243_50 : dc 243 50 = some (.aload_n 0, 51) := by decide +kernel
theorem d243_51 : dc 243 51 = some (.dload 1411, 54) := by decide +kernel
theorem d243_54 : dc 243 54 = some (.invokevirtual 244, 57) := by decide +kernel
theorem d243_57 : dc 243 57 = some (.aload_n 1, 58) := by decide +kernel
theorem d243_58 : dc 243 58 = some (.dload 1412, 61) := by decide +kernel
theorem d243_61 : dc 243 61 = some (.aload_n 0, 62) := by decide +kernel
theorem d243_62 : dc 243 62 = some (.dload 1412, 65) := by decide +kernel
theorem d243_65 : dc 243 65 = some (.invokevirtual 244, 68) := by decide +kernel
theorem d243_68 : dc 243 68 = some (.aload_n 1, 69) := by decide +kernel
theorem d243_69 : dc 243 69 = some (.dload 1414, 72) := by decide +kernel
theorem d243_72 : dc 243 72 = some (.aload_n 0, 73) := by decide +kernel
theorem d243_73 : dc 243 73 = some (.dload 1414, 76) := by decide +kernel
theorem d243_76 : dc 243 76 = some (.invokevirtual 244, 79) := by decide +kernel
theorem d243_79 : dc 243 79 = some (.aload_n 1, 80) := by decide +kernel
theorem d243_80 : dc 243 80 = some (.dload 1415, 83) := by decide +kernel
theorem d243_83 : dc 243 83 = some (.aload_n 0, 84) := by decide +kernel
theorem d243_84 : dc 243 84 = some (.dload 1415, 87) := by decide +kernel
theorem d243_87 : dc 243 87 = some (.invokevirtual 244, 90) := by decide +kernel
theorem d243_90 : dc 243 90 = some (.aload_n 1, 91) := by decide +kernel
theorem d243_91 : dc 243 91 = some (.dload 1416, 94) := by decide +kernel
theorem d243_94 : dc 243 94 = some (.aload_n 0, 95) := by decide +kernel
theorem d243_95 : dc 243 95 = some (.dload 1416, 98) := by decide +kernel
theorem d243_98 : dc 243 98 = some (.invokevirtual 244, 101) := by decide +kernel
theorem d243_101 : dc 243 101 = some (.aload_n 1, 102) := by decide +kernel
theorem d243_102 : dc 243 102 = some (.dload 1418, 105) := by decide +kernel
theorem d243_105 : dc 243 105 = some (.aload_n 0, 106) := by decide +kernel
theorem d243_106 : dc 243 106 = some (.dload 1418, 109) := by decide +kernel
theorem d243_109 : dc 243 109 = some (.invokevirtual 244, 112) := by decide +kernel
theorem d243_112 : dc 243 112 = some (.aload_n 1, 113) := by decide +kernel
theorem d243_113 : dc 243 113 = some (.dload 1419, 116) := by decide +kernel
theorem d243_116 : dc 243 116 = some (.aload_n 0, 117) := by decide +kernel
theorem d243_117 : dc 243 117 = some (.dload 1419, 120) := by decide +kernel
theorem d243_120 : dc 243 120 = some (.invokevirtual 244, 123) := by decide +kernel
theorem d243_123 : dc 243 123 = some (.aload_n 1, 124) := by decide +kernel
theorem d243_124 : dc 243 124 = some (.dload 1421, 127) := by decide +kernel
theorem d243_127 : dc 243 127 = some (.aload_n 0, 128) := by decide +kernel
theorem d243_128 : dc 243 128 = some (.dload 1421, 131) := by decide +kernel
theorem d243_131 : dc 243 131 = some (.invokevirtual 244, 134) := by decide +kernel
theorem d243_134 : dc 243 134 = some (.aload_n 1, 135) := by decide +kernel
theorem d243_135 : dc 243 135 = some (.dload 1422, 138) := by decide +kernel
theorem d243_138 : dc 243 138 = some (.aload_n 0, 139) := by decide +kernel
theorem d243_139 : dc 243 139 = some (.dload 1422, 142) := by decide +kernel
theorem d243_142 : dc 243 142 = some (.invokevirtual 244, 145) := by decide +kernel
theorem d243_145 : dc 243 145 = some (.aload_n 1, 146) := by decide +kernel
theorem d243_146 : dc 243 146 = some (.dload 1423, 149) := by decide +kernel
theorem d243_149 : dc 243 149 = some (.aload_n 0, 150) := by decide +kernel
theorem d243_150 : dc 243 150 = some (.dload 1423, 153) := by decide +kernel
theorem d243_153 : dc 243 153 = some (.invokevirtual 244, 156) := by decide +kernel
theorem d243_156 : dc 243 156 = some (.aload_n 1, 157) := by decide +kernel
theorem d243_157 : dc 243 157 = some (.dload 1424, 160) := by decide +kernel
theorem d243_160 : dc 243 160 = some (.aload_n 0, 161) := by decide +kernel
theorem d243_161 : dc 243 161 = some (.dload 1424, 164) := by decide +kernel
theorem d243_164 : dc 243 164 = some (.invokevirtual 244, 167) := by decide +kernel
theorem d243_167 : dc 243 167 = some (.aload_n 1, 168) := by decide +kernel
theorem d243_168 : dc 243 168 = some (.dload 1426, 171) := by decide +kernel
theorem d243_171 : dc 243 171 = some (.aload_n 0, 172) := by decide +kernel
theorem d243_172 : dc 243 172 = some (.dload 1426, 175) := by decide +kernel
theorem d243_175 : dc 243 175 = some (.invokevirtual 244, 178) := by decide +kernel
theorem d243_178 : dc 243 178 = some (.aload_n 1, 179) := by decide +kernel
theorem d243_179 : dc 243 179 = some (.dload 1427, 182) := by decide +kernel
theorem d243_182 : dc 243 182 = some (.aload_n 0, 183) := by decide +kernel
theorem d243_183 : dc 243 183 = some (.dload 1427, 186) := by decide +kernel
theorem d243_186 : dc 243 186 = some (.invokevirtual 244, 189) := by decide +kernel
theorem d243_189 : dc 243 189 = some (.aload_n 1, 190) := by decide +kernel
theorem d243_190 : dc 243 190 = some (.dload 1428, 193) := by decide +kernel
theorem d243_193 : dc 243 193 = some (.aload_n 0, 194) := by decide +kernel
theorem d243_194 : dc 243 194 = some (.dload 1428, 197) := by decide +kernel
theorem d243_197 : dc 243 197 = some (.invokevirtual 244, 200) := by decide +kernel
theorem d243_200 : dc 243 200 = some (.aload_n 1, 201) := by decide +kernel
theorem d243_201 : dc 243 201 = some (.dload 1429, 204) := by decide +kernel
theorem d243_204 : dc 243 204 = some (.aload_n 0, 205) := by decide +kernel
theorem d243_205 : dc 243 205 = some (.dload 1429, 208) := by decide +kernel
theorem d243_208 : dc 243 208 = some (.invokevirtual 244, 211) := by decide +kernel
theorem d243_211 : dc 243 211 = some (.aload_n 1, 212) := by decide +kernel
theorem d243_212 : dc 243 212 = some (.dload 1430, 215) := by decide +kernel
theorem d243_215 : dc 243 215 = some (.aload_n 0, 216) := by decide +kernel
theorem d243_216 : dc 243 216 = some (.dload 1430, 219) := by decide +kernel
theorem d243_219 : dc 243 219 = some (.invokevirtual 244, 222) := by decide +kernel
theorem d243_222 : dc 243 222 = some (.iconst 0, 223) := by decide +kernel
theorem d243_223 : dc 243 223 = some (.istore_n 2, 224) := by decide +kernel
theorem d243_224 : dc 243 224 = some (.iload_n 2, 225) := by decide +kernel
theorem d243_225 : dc 243 225 = some (.bipush 14, 227) := by decide +kernel
theorem d243_227 : dc 243 227 = some (.if_icmp .ge ((248 : Nat) : Int), 230) := by decide +kernel
theorem d243_230 : dc 243 230 = some (.aload_n 0, 231) := by decide +kernel
theorem d243_231 : dc 243 231 = some (.dload 1420, 234) := by decide +kernel
theorem d243_234 : dc 243 234 = some (.iload_n 2, 235) := by decide +kernel
theorem d243_235 : dc 243 235 = some (.aload_n 1, 236) := by decide +kernel
theorem d243_236 : dc 243 236 = some (.dload 1420, 239) := by decide +kernel
theorem d243_239 : dc 243 239 = some (.iload_n 2, 240) := by decide +kernel
theorem d243_240 : dc 243 240 = some (.baload, 241) := by decide +kernel
theorem d243_241 : dc 243 241 = some (.bastore, 242) := by decide +kernel
theorem d243_242 : dc 243 242 = some (.iinc 2 1, 245) := by decide +kernel
theorem d243_245 : dc 243 245 = some (.goto ((224 : Nat) : Int), 248) := by decide +kernel
theorem d243_248 : dc 243 248 = some (.iconst 0, 249) := by decide +kernel
theorem d243_249 : dc 243 249 = some (.istore_n 2, 250) := by decide +kernel
theorem d243_250 : dc 243 250 = some (.iload_n 2, 251) := by decide +kernel
theorem d243_251 : dc 243 251 = some (.bipush 84, 253) := by decide +kernel
theorem d243_253 : dc 243 253 = some (.if_icmp .ge ((274 : Nat) : Int), 256) := by decide +kernel
theorem d243_256 : dc 243 256 = some (.aload_n 0, 257) := by decide +kernel
theorem d243_257 : dc 243 257 = some (.dload 1425, 260) := by decide +kernel
theorem d243_260 : dc 243 260 = some (.iload_n 2, 261) := by decide +kernel
theorem d243_261 : dc 243 261 = some (.aload_n 1, 262) := by decide +kernel
theorem d243_262 : dc 243 262 = some (.dload 1425, 265) := by decide +kernel
theorem d243_265 : dc 243 265 = some (.iload_n 2, 266) := by decide +kernel
theorem d243_266 : dc 243 266 = some (.baload, 267) := by decide +kernel
theorem d243_267 : dc 243 267 = some (.bastore, 268) := by decide +kernel
theorem d243_268 : dc 243 268 = some (.iinc 2 1, 271) := by decide +kernel
theorem d243_271 : dc 243 271 = some (.goto ((250 : Nat) : Int), 274) := by decide +kernel
theorem d243_274 : dc 243 274 = some (.return_, 275) := by decide +kernel
theorem k_D_copy {S : Shp} {G : Nat → Option Nat} {d : Nat} {h : Hp} {Q : Option MV → Hp → Prop} {d2 : Nat} {d1 : Nat} {P : PlV} (ok : Ok S h) (h1 : 1 ≤ d) (hd2 : sK S d2 = 12) (hd1 : sK S d1 = 12) (D : DfC S h d1 P) (ndu : ∀ y, U S d1 y → ¬ U S d2 y)
    (kk : ∀ h', Mo S (fun y => U S d2 y) h h' → DfC S h' d2 P → Q none h') : Cl G d 243 [vR (some d2), vR (some d1)] h Q := by
  show Wp G d 243 0 [some (vR (some d2)), some (vR (some d1)), none] [] h Q
  have nd12 : d1 ≠ d2 := fun z => ndu d1 U_refl (z ▸ U_refl)
  have CP : CpD S h h d1 d2 [] := fun f hf => absurd hf List.not_mem_nil
  have rf := rg1408 ok hd1
  have rf2 := rg1413 ok hd1
  have rf3 := rg1417 ok hd1
  refine w_aload_n d243_0 rfl ?_
  refine w_aload_n d243_1 rfl ?_
  refine w_getI (x := (FI h 1408 d1)) d243_2 (ok.kd hd1) rfl ?_
  refine wf1408 d243_5 ok hd2 (by omega) (fun h5 e5 m5 => ?_)
  have ok5 := m5.ok
  have M5 := Mo.tr ok (Mo.refl (A := (fun ζ => U S d2 ζ)) ok) m5 (fun ζ e => (e ▸ U_refl))
  refine w_aload_n d243_8 rfl ?_
  refine w_aload_n d243_9 rfl ?_
  refine w_getI (x := (FI h 1413 d1)) d243_10 (ok5.kd hd1) (m5.fi ok (by omega) (fun z => nd12 z) 1413) ?_
  refine wf1413 d243_13 ok5 hd2 (by omega) (fun h13 e13 m13 => ?_)
  have ok13 := m13.ok
  have M13 := Mo.tr ok M5 m13 (fun ζ e => (e ▸ U_refl))
  refine w_aload_n d243_16 rfl ?_
  refine w_aload_n d243_17 rfl ?_
  refine w_getI (x := (FI h 1417 d1)) d243_18 (ok13.kd hd1) ((m13.fi ok5 (by omega) (fun z => nd12 z) 1417).trans (m5.fi ok (by omega) (fun z => nd12 z) 1417)) ?_
  refine wf1417 d243_21 ok13 hd2 (by omega) (fun h21 e21 m21 => ?_)
  have ok21 := m21.ok
  have M21 := Mo.tr ok M13 m21 (fun ζ e => (e ▸ U_refl))
  have CP : CpD S h h21 d1 d2 [] := fun f hf => absurd hf List.not_mem_nil
  have fe : FI h21 1408 d2 = FI h 1408 d1 ∧ FI h21 1413 d2 = FI h 1413 d1 ∧ FI h21 1417 d2 = FI h 1417 d1 := ⟨by rw [e21, FI_sFI, if_neg (by simp), e13, FI_sFI, if_neg (by simp), e5, FI_sFI, if_pos ⟨rfl, rfl⟩], by rw [e21, FI_sFI, if_neg (by simp), e13, FI_sFI, if_pos ⟨rfl, rfl⟩], by rw [e21, FI_sFI, if_pos ⟨rfl, rfl⟩]⟩
  refine w_aload_n d243_24 rfl ?_
  refine w_dloadS d243_25 (ok21.kd hd1) (fr1409 ok21 hd1) ?_
  refine w_aload_n d243_28 rfl ?_
  refine w_dloadS d243_29 (ok21.kd hd2) (fr1409 ok21 hd2) ?_
  have okb32 := ok21
  have Mb := M21
  refine w_calls2 d243_32 (by omega) rfl rfl (by simp) (Nat.le_of_ble_eq_true rfl) ?_
  refine k_D_copyRow (f := 1409) ok21 (by omega) hd1 hd2 nd12 rfl (by decide) rfl rfl (by decide) (by decide) (fun h32 m32 CR => ?_)
  have ok32 := m32.ok
  have M32 := Mo.tr ok M21 m32 (fun ζ e => (e ▸ (ok.so.uT (by decide) U_refl)))
  have CP := CP.add okb32 hd2 m32 (fun j hj => (CR j hj).trans (congrFun (Mb.ai ok (by have := kT1409 ok hd1; omega) (ndu _ (ok.so.uT (by decide) U_refl))) j)) (by decide)
  have nn2 : ¬ d2 = sT S 1409 d2 := fun z => ok.so.pT (f := 1409) (by decide) z.symm
  have fe := And.intro ((m32.fi okb32 (by omega) nn2 1408).trans fe.1) (And.intro ((m32.fi okb32 (by omega) nn2 1413).trans fe.2.1) ((m32.fi okb32 (by omega) nn2 1417).trans fe.2.2))
  refine w_aload_n d243_35 rfl ?_
  refine w_dloadS d243_36 (ok32.kd hd1) (fr1410 ok32 hd1) ?_
  refine w_aload_n d243_39 rfl ?_
  refine w_dloadS d243_40 (ok32.kd hd2) (fr1410 ok32 hd2) ?_
  have okb43 := ok32
  have Mb := M32
  refine w_calls2 d243_43 (by omega) rfl rfl (by simp) (Nat.le_of_ble_eq_true rfl) ?_
  refine k_D_copyRow (f := 1410) ok32 (by omega) hd1 hd2 nd12 rfl (by decide) rfl rfl (by decide) (by decide) (fun h43 m43 CR => ?_)
  have ok43 := m43.ok
  have M43 := Mo.tr ok M32 m43 (fun ζ e => (e ▸ (ok.so.uT (by decide) U_refl)))
  have CP := CP.add okb43 hd2 m43 (fun j hj => (CR j hj).trans (congrFun (Mb.ai ok (by have := kT1410 ok hd1; omega) (ndu _ (ok.so.uT (by decide) U_refl))) j)) (by decide)
  have nn2 : ¬ d2 = sT S 1410 d2 := fun z => ok.so.pT (f := 1410) (by decide) z.symm
  have fe := And.intro ((m43.fi okb43 (by omega) nn2 1408).trans fe.1) (And.intro ((m43.fi okb43 (by omega) nn2 1413).trans fe.2.1) ((m43.fi okb43 (by omega) nn2 1417).trans fe.2.2))
  refine w_aload_n d243_46 rfl ?_
  refine w_dloadS d243_47 (ok43.kd hd1) (fr1411 ok43 hd1) ?_
  refine w_aload_n d243_50 rfl ?_
  refine w_dloadS d243_51 (ok43.kd hd2) (fr1411 ok43 hd2) ?_
  have okb54 := ok43
  have Mb := M43
  refine w_calls2 d243_54 (by omega) rfl rfl (by simp) (Nat.le_of_ble_eq_true rfl) ?_
  refine k_D_copyRow (f := 1411) ok43 (by omega) hd1 hd2 nd12 rfl (by decide) rfl rfl (by decide) (by decide) (fun h54 m54 CR => ?_)
  have ok54 := m54.ok
  have M54 := Mo.tr ok M43 m54 (fun ζ e => (e ▸ (ok.so.uT (by decide) U_refl)))
  have CP := CP.add okb54 hd2 m54 (fun j hj => (CR j hj).trans (congrFun (Mb.ai ok (by have := kT1411 ok hd1; omega) (ndu _ (ok.so.uT (by decide) U_refl))) j)) (by decide)
  have nn2 : ¬ d2 = sT S 1411 d2 := fun z => ok.so.pT (f := 1411) (by decide) z.symm
  have fe := And.intro ((m54.fi okb54 (by omega) nn2 1408).trans fe.1) (And.intro ((m54.fi okb54 (by omega) nn2 1413).trans fe.2.1) ((m54.fi okb54 (by omega) nn2 1417).trans fe.2.2))
  refine w_aload_n d243_57 rfl ?_
  refine w_dloadS d243_58 (ok54.kd hd1) (fr1412 ok54 hd1) ?_
  refine w_aload_n d243_61 rfl ?_
  refine w_dloadS d243_62 (ok54.kd hd2) (fr1412 ok54 hd2) ?_
  have okb65 := ok54
  have Mb := M54
  refine w_calls2 d243_65 (by omega) rfl rfl (by simp) (Nat.le_of_ble_eq_true rfl) ?_
  refine k_D_copyRow (f := 1412) ok54 (by omega) hd1 hd2 nd12 rfl (by decide) rfl rfl (by decide) (by decide) (fun h65 m65 CR => ?_)
  have ok65 := m65.ok
  have M65 := Mo.tr ok M54 m65 (fun ζ e => (e ▸ (ok.so.uT (by decide) U_refl)))
  have CP := CP.add okb65 hd2 m65 (fun j hj => (CR j hj).trans (congrFun (Mb.ai ok (by have := kT1412 ok hd1; omega) (ndu _ (ok.so.uT (by decide) U_refl))) j)) (by decide)
  have nn2 : ¬ d2 = sT S 1412 d2 := fun z => ok.so.pT (f := 1412) (by decide) z.symm
  have fe := And.intro ((m65.fi okb65 (by omega) nn2 1408).trans fe.1) (And.intro ((m65.fi okb65 (by omega) nn2 1413).trans fe.2.1) ((m65.fi okb65 (by omega) nn2 1417).trans fe.2.2))
  refine w_aload_n d243_68 rfl ?_
  refine w_dloadS d243_69 (ok65.kd hd1) (fr1414 ok65 hd1) ?_
  refine w_aload_n d243_72 rfl ?_
  refine w_dloadS d243_73 (ok65.kd hd2) (fr1414 ok65 hd2) ?_
  have okb76 := ok65
  have Mb := M65
  refine w_calls2 d243_76 (by omega) rfl rfl (by simp) (Nat.le_of_ble_eq_true rfl) ?_
  refine k_D_copyRow (f := 1414) ok65 (by omega) hd1 hd2 nd12 rfl (by decide) rfl rfl (by decide) (by decide) (fun h76 m76 CR => ?_)
  have ok76 := m76.ok
  have M76 := Mo.tr ok M65 m76 (fun ζ e => (e ▸ (ok.so.uT (by decide) U_refl)))
  have CP := CP.add okb76 hd2 m76 (fun j hj => (CR j hj).trans (congrFun (Mb.ai ok (by have := kT1414 ok hd1; omega) (ndu _ (ok.so.uT (by decide) U_refl))) j)) (by decide)
  have nn2 : ¬ d2 = sT S 1414 d2 := fun z => ok.so.pT (f := 1414) (by decide) z.symm
  have fe := And.intro ((m76.fi okb76 (by omega) nn2 1408).trans fe.1) (And.intro ((m76.fi okb76 (by omega) nn2 1413).trans fe.2.1) ((m76.fi okb76 (by omega) nn2 1417).trans fe.2.2))
  refine w_aload_n d243_79 rfl ?_
  refine w_dloadS d243_80 (ok76.kd hd1) (fr1415 ok76 hd1) ?_
  refine w_aload_n d243_83 rfl ?_
  refine w_dloadS d243_84 (ok76.kd hd2) (fr1415 ok76 hd2) ?_
  have okb87 := ok76
  have Mb := M76
  refine w_calls2 d243_87 (by omega) rfl rfl (by simp) (Nat.le_of_ble_eq_true rfl) ?_
  refine k_D_copyRow (f := 1415) ok76 (by omega) hd1 hd2 nd12 rfl (by decide) rfl rfl (by decide) (by decide) (fun h87 m87 CR => ?_)
  have ok87 := m87.ok
  have M87 := Mo.tr ok M76 m87 (fun ζ e => (e ▸ (ok.so.uT (by decide) U_refl)))
  have CP := CP.add okb87 hd2 m87 (fun j hj => (CR j hj).trans (congrFun (Mb.ai ok (by have := kT1415 ok hd1; omega) (ndu _ (ok.so.uT (by decide) U_refl))) j)) (by decide)
  have nn2 : ¬ d2 = sT S 1415 d2 := fun z => ok.so.pT (f := 1415) (by decide) z.symm
  have fe := And.intro ((m87.fi okb87 (by omega) nn2 1408).trans fe.1) (And.intro ((m87.fi okb87 (by omega) nn2 1413).trans fe.2.1) ((m87.fi okb87 (by omega) nn2 1417).trans fe.2.2))
  refine w_aload_n d243_90 rfl ?_
  refine w_dloadS d243_91 (ok87.kd hd1) (fr1416 ok87 hd1) ?_
  refine w_aload_n d243_94 rfl ?_
  refine w_dloadS d243_95 (ok87.kd hd2) (fr1416 ok87 hd2) ?_
  have okb98 := ok87
  have Mb := M87
  refine w_calls2 d243_98 (by omega) rfl rfl (by simp) (Nat.le_of_ble_eq_true rfl) ?_
  refine k_D_copyRow (f := 1416) ok87 (by omega) hd1 hd2 nd12 rfl (by decide) rfl rfl (by decide) (by decide) (fun h98 m98 CR => ?_)
  have ok98 := m98.ok
  have M98 := Mo.tr ok M87 m98 (fun ζ e => (e ▸ (ok.so.uT (by decide) U_refl)))
  have CP := CP.add okb98 hd2 m98 (fun j hj => (CR j hj).trans (congrFun (Mb.ai ok (by have := kT1416 ok hd1; omega) (ndu _ (ok.so.uT (by decide) U_refl))) j)) (by decide)
  have nn2 : ¬ d2 = sT S 1416 d2 := fun z => ok.so.pT (f := 1416) (by decide) z.symm
  have fe := And.intro ((m98.fi okb98 (by omega) nn2 1408).trans fe.1) (And.intro ((m98.fi okb98 (by omega) nn2 1413).trans fe.2.1) ((m98.fi okb98 (by omega) nn2 1417).trans fe.2.2))
  refine w_aload_n d243_101 rfl ?_
  refine w_dloadS d243_102 (ok98.kd hd1) (fr1418 ok98 hd1) ?_
  refine w_aload_n d243_105 rfl ?_
  refine w_dloadS d243_106 (ok98.kd hd2) (fr1418 ok98 hd2) ?_
  have okb109 := ok98
  have Mb := M98
  refine w_calls2 d243_109 (by omega) rfl rfl (by simp) (Nat.le_of_ble_eq_true rfl) ?_
  refine k_D_copyRow (f := 1418) ok98 (by omega) hd1 hd2 nd12 rfl (by decide) rfl rfl (by decide) (by decide) (fun h109 m109 CR => ?_)
  have ok109 := m109.ok
  have M109 := Mo.tr ok M98 m109 (fun ζ e => (e ▸ (ok.so.uT (by decide) U_refl)))
  have CP := CP.add okb109 hd2 m109 (fun j hj => (CR j hj).trans (congrFun (Mb.ai ok (by have := kT1418 ok hd1; omega) (ndu _ (ok.so.uT (by decide) U_refl))) j)) (by decide)
  have nn2 : ¬ d2 = sT S 1418 d2 := fun z => ok.so.pT (f := 1418) (by decide) z.symm
  have fe := And.intro ((m109.fi okb109 (by omega) nn2 1408).trans fe.1) (And.intro ((m109.fi okb109 (by omega) nn2 1413).trans fe.2.1) ((m109.fi okb109 (by omega) nn2 1417).trans fe.2.2))
  refine w_aload_n d243_112 rfl ?_
  refine w_dloadS d243_113 (ok109.kd hd1) (fr1419 ok109 hd1) ?_
  refine w_aload_n d243_116 rfl ?_
  refine w_dloadS d243_117 (ok109.kd hd2) (fr1419 ok109 hd2) ?_
  have okb120 := ok109
  have Mb := M109
  refine w_calls2 d243_120 (by omega) rfl rfl (by simp) (Nat.le_of_ble_eq_true rfl) ?_
  refine k_D_copyRow (f := 1419) ok109 (by omega) hd1 hd2 nd12 rfl (by decide) rfl rfl (by decide) (by decide) (fun h120 m120 CR => ?_)
  have ok120 := m120.ok
  have M120 := Mo.tr ok M109 m120 (fun ζ e => (e ▸ (ok.so.uT (by decide) U_refl)))
  have CP := CP.add okb120 hd2 m120 (fun j hj => (CR j hj).trans (congrFun (Mb.ai ok (by have := kT1419 ok hd1; omega) (ndu _ (ok.so.uT (by decide) U_refl))) j)) (by decide)
  have nn2 : ¬ d2 = sT S 1419 d2 := fun z => ok.so.pT (f := 1419) (by decide) z.symm
  have fe := And.intro ((m120.fi okb120 (by omega) nn2 1408).trans fe.1) (And.intro ((m120.fi okb120 (by omega) nn2 1413).trans fe.2.1) ((m120.fi okb120 (by omega) nn2 1417).trans fe.2.2))
  refine w_aload_n d243_123 rfl ?_
  refine w_dloadS d243_124 (ok120.kd hd1) (fr1421 ok120 hd1) ?_
  refine w_aload_n d243_127 rfl ?_
  refine w_dloadS d243_128 (ok120.kd hd2) (fr1421 ok120 hd2) ?_
  have okb131 := ok120
  have Mb := M120
  refine w_calls2 d243_131 (by omega) rfl rfl (by simp) (Nat.le_of_ble_eq_true rfl) ?_
  refine k_D_copyRow (f := 1421) ok120 (by omega) hd1 hd2 nd12 rfl (by decide) rfl rfl (by decide) (by decide) (fun h131 m131 CR => ?_)
  have ok131 := m131.ok
  have M131 := Mo.tr ok M120 m131 (fun ζ e => (e ▸ (ok.so.uT (by decide) U_refl)))
  have CP := CP.add okb131 hd2 m131 (fun j hj => (CR j hj).trans (congrFun (Mb.ai ok (by have := kT1421 ok hd1; omega) (ndu _ (ok.so.uT (by decide) U_refl))) j)) (by decide)
  have nn2 : ¬ d2 = sT S 1421 d2 := fun z => ok.so.pT (f := 1421) (by decide) z.symm
  have fe := And.intro ((m131.fi okb131 (by omega) nn2 1408).trans fe.1) (And.intro ((m131.fi okb131 (by omega) nn2 1413).trans fe.2.1) ((m131.fi okb131 (by omega) nn2 1417).trans fe.2.2))
  refine w_aload_n d243_134 rfl ?_
  refine w_dloadS d243_135 (ok131.kd hd1) (fr1422 ok131 hd1) ?_
  refine w_aload_n d243_138 rfl ?_
  refine w_dloadS d243_139 (ok131.kd hd2) (fr1422 ok131 hd2) ?_
  have okb142 := ok131
  have Mb := M131
  refine w_calls2 d243_142 (by omega) rfl rfl (by simp) (Nat.le_of_ble_eq_true rfl) ?_
  refine k_D_copyRow (f := 1422) ok131 (by omega) hd1 hd2 nd12 rfl (by decide) rfl rfl (by decide) (by decide) (fun h142 m142 CR => ?_)
  have ok142 := m142.ok
  have M142 := Mo.tr ok M131 m142 (fun ζ e => (e ▸ (ok.so.uT (by decide) U_refl)))
  have CP := CP.add okb142 hd2 m142 (fun j hj => (CR j hj).trans (congrFun (Mb.ai ok (by have := kT1422 ok hd1; omega) (ndu _ (ok.so.uT (by decide) U_refl))) j)) (by decide)
  have nn2 : ¬ d2 = sT S 1422 d2 := fun z => ok.so.pT (f := 1422) (by decide) z.symm
  have fe := And.intro ((m142.fi okb142 (by omega) nn2 1408).trans fe.1) (And.intro ((m142.fi okb142 (by omega) nn2 1413).trans fe.2.1) ((m142.fi okb142 (by omega) nn2 1417).trans fe.2.2))
  refine w_aload_n d243_145 rfl ?_
  refine w_dloadS d243_146 (ok142.kd hd1) (fr1423 ok142 hd1) ?_
  refine w_aload_n d243_149 rfl ?_
  refine w_dloadS d243_150 (ok142.kd hd2) (fr1423 ok142 hd2) ?_
  have okb153 := ok142
  have Mb := M142
  refine w_calls2 d243_153 (by omega) rfl rfl (by simp) (Nat.le_of_ble_eq_true rfl) ?_
  refine k_D_copyRow (f := 1423) ok142 (by omega) hd1 hd2 nd12 rfl (by decide) rfl rfl (by decide) (by decide) (fun h153 m153 CR => ?_)
  have ok153 := m153.ok
  have M153 := Mo.tr ok M142 m153 (fun ζ e => (e ▸ (ok.so.uT (by decide) U_refl)))
  have CP := CP.add okb153 hd2 m153 (fun j hj => (CR j hj).trans (congrFun (Mb.ai ok (by have := kT1423 ok hd1; omega) (ndu _ (ok.so.uT (by decide) U_refl))) j)) (by decide)
  have nn2 : ¬ d2 = sT S 1423 d2 := fun z => ok.so.pT (f := 1423) (by decide) z.symm
  have fe := And.intro ((m153.fi okb153 (by omega) nn2 1408).trans fe.1) (And.intro ((m153.fi okb153 (by omega) nn2 1413).trans fe.2.1) ((m153.fi okb153 (by omega) nn2 1417).trans fe.2.2))
  refine w_aload_n d243_156 rfl ?_
  refine w_dloadS d243_157 (ok153.kd hd1) (fr1424 ok153 hd1) ?_
  refine w_aload_n d243_160 rfl ?_
  refine w_dloadS d243_161 (ok153.kd hd2) (fr1424 ok153 hd2) ?_
  have okb164 := ok153
  have Mb := M153
  refine w_calls2 d243_164 (by omega) rfl rfl (by simp) (Nat.le_of_ble_eq_true rfl) ?_
  refine k_D_copyRow (f := 1424) ok153 (by omega) hd1 hd2 nd12 rfl (by decide) rfl rfl (by decide) (by decide) (fun h164 m164 CR => ?_)
  have ok164 := m164.ok
  have M164 := Mo.tr ok M153 m164 (fun ζ e => (e ▸ (ok.so.uT (by decide) U_refl)))
  have CP := CP.add okb164 hd2 m164 (fun j hj => (CR j hj).trans (congrFun (Mb.ai ok (by have := kT1424 ok hd1; omega) (ndu _ (ok.so.uT (by decide) U_refl))) j)) (by decide)
  have nn2 : ¬ d2 = sT S 1424 d2 := fun z => ok.so.pT (f := 1424) (by decide) z.symm
  have fe := And.intro ((m164.fi okb164 (by omega) nn2 1408).trans fe.1) (And.intro ((m164.fi okb164 (by omega) nn2 1413).trans fe.2.1) ((m164.fi okb164 (by omega) nn2 1417).trans fe.2.2))
  refine w_aload_n d243_167 rfl ?_
  refine w_dloadS d243_168 (ok164.kd hd1) (fr1426 ok164 hd1) ?_
  refine w_aload_n d243_171 rfl ?_
  refine w_dloadS d243_172 (ok164.kd hd2) (fr1426 ok164 hd2) ?_
  have okb175 := ok164
  have Mb := M164
  refine w_calls2 d243_175 (by omega) rfl rfl (by simp) (Nat.le_of_ble_eq_true rfl) ?_
  refine k_D_copyRow (f := 1426) ok164 (by omega) hd1 hd2 nd12 rfl (by decide) rfl rfl (by decide) (by decide) (fun h175 m175 CR => ?_)
  have ok175 := m175.ok
  have M175 := Mo.tr ok M164 m175 (fun ζ e => (e ▸ (ok.so.uT (by decide) U_refl)))
  have CP := CP.add okb175 hd2 m175 (fun j hj => (CR j hj).trans (congrFun (Mb.ai ok (by have := kT1426 ok hd1; omega) (ndu _ (ok.so.uT (by decide) U_refl))) j)) (by decide)
  have nn2 : ¬ d2 = sT S 1426 d2 := fun z => ok.so.pT (f := 1426) (by decide) z.symm
  have fe := And.intro ((m175.fi okb175 (by omega) nn2 1408).trans fe.1) (And.intro ((m175.fi okb175 (by omega) nn2 1413).trans fe.2.1) ((m175.fi okb175 (by omega) nn2 1417).trans fe.2.2))
  refine w_aload_n d243_178 rfl ?_
  refine w_dloadS d243_179 (ok175.kd hd1) (fr1427 ok175 hd1) ?_
  refine w_aload_n d243_182 rfl ?_
  refine w_dloadS d243_183 (ok175.kd hd2) (fr1427 ok175 hd2) ?_
  have okb186 := ok175
  have Mb := M175
  refine w_calls2 d243_186 (by omega) rfl rfl (by simp) (Nat.le_of_ble_eq_true rfl) ?_
  refine k_D_copyRow (f := 1427) ok175 (by omega) hd1 hd2 nd12 rfl (by decide) rfl rfl (by decide) (by decide) (fun h186 m186 CR => ?_)
  have ok186 := m186.ok
  have M186 := Mo.tr ok M175 m186 (fun ζ e => (e ▸ (ok.so.uT (by decide) U_refl)))
  have CP := CP.add okb186 hd2 m186 (fun j hj => (CR j hj).trans (congrFun (Mb.ai ok (by have := kT1427 ok hd1; omega) (ndu _ (ok.so.uT (by decide) U_refl))) j)) (by decide)
  have nn2 : ¬ d2 = sT S 1427 d2 := fun z => ok.so.pT (f := 1427) (by decide) z.symm
  have fe := And.intro ((m186.fi okb186 (by omega) nn2 1408).trans fe.1) (And.intro ((m186.fi okb186 (by omega) nn2 1413).trans fe.2.1) ((m186.fi okb186 (by omega) nn2 1417).trans fe.2.2))
  refine w_aload_n d243_189 rfl ?_
  refine w_dloadS d243_190 (ok186.kd hd1) (fr1428 ok186 hd1) ?_
  refine w_aload_n d243_193 rfl ?_
  refine w_dloadS d243_194 (ok186.kd hd2) (fr1428 ok186 hd2) ?_
  have okb197 := ok186
  have Mb := M186
  refine w_calls2 d243_197 (by omega) rfl rfl (by simp) (Nat.le_of_ble_eq_true rfl) ?_
  refine k_D_copyRow (f := 1428) ok186 (by omega) hd1 hd2 nd12 rfl (by decide) rfl rfl (by decide) (by decide) (fun h197 m197 CR => ?_)
  have ok197 := m197.ok
  have M197 := Mo.tr ok M186 m197 (fun ζ e => (e ▸ (ok.so.uT (by decide) U_refl)))
  have CP := CP.add okb197 hd2 m197 (fun j hj => (CR j hj).trans (congrFun (Mb.ai ok (by have := kT1428 ok hd1; omega) (ndu _ (ok.so.uT (by decide) U_refl))) j)) (by decide)
  have nn2 : ¬ d2 = sT S 1428 d2 := fun z => ok.so.pT (f := 1428) (by decide) z.symm
  have fe := And.intro ((m197.fi okb197 (by omega) nn2 1408).trans fe.1) (And.intro ((m197.fi okb197 (by omega) nn2 1413).trans fe.2.1) ((m197.fi okb197 (by omega) nn2 1417).trans fe.2.2))
  refine w_aload_n d243_200 rfl ?_
  refine w_dloadS d243_201 (ok197.kd hd1) (fr1429 ok197 hd1) ?_
  refine w_aload_n d243_204 rfl ?_
  refine w_dloadS d243_205 (ok197.kd hd2) (fr1429 ok197 hd2) ?_
  have okb208 := ok197
  have Mb := M197
  refine w_calls2 d243_208 (by omega) rfl rfl (by simp) (Nat.le_of_ble_eq_true rfl) ?_
  refine k_D_copyRow (f := 1429) ok197 (by omega) hd1 hd2 nd12 rfl (by decide) rfl rfl (by decide) (by decide) (fun h208 m208 CR => ?_)
  have ok208 := m208.ok
  have M208 := Mo.tr ok M197 m208 (fun ζ e => (e ▸ (ok.so.uT (by decide) U_refl)))
  have CP := CP.add okb208 hd2 m208 (fun j hj => (CR j hj).trans (congrFun (Mb.ai ok (by have := kT1429 ok hd1; omega) (ndu _ (ok.so.uT (by decide) U_refl))) j)) (by decide)
  have nn2 : ¬ d2 = sT S 1429 d2 := fun z => ok.so.pT (f := 1429) (by decide) z.symm
  have fe := And.intro ((m208.fi okb208 (by omega) nn2 1408).trans fe.1) (And.intro ((m208.fi okb208 (by omega) nn2 1413).trans fe.2.1) ((m208.fi okb208 (by omega) nn2 1417).trans fe.2.2))
  refine w_aload_n d243_211 rfl ?_
  refine w_dloadS d243_212 (ok208.kd hd1) (fr1430 ok208 hd1) ?_
  refine w_aload_n d243_215 rfl ?_
  refine w_dloadS d243_216 (ok208.kd hd2) (fr1430 ok208 hd2) ?_
  have okb219 := ok208
  have Mb := M208
  refine w_calls2 d243_219 (by omega) rfl rfl (by simp) (Nat.le_of_ble_eq_true rfl) ?_
  refine k_D_copyRow (f := 1430) ok208 (by omega) hd1 hd2 nd12 rfl (by decide) rfl rfl (by decide) (by decide) (fun h219 m219 CR => ?_)
  have ok219 := m219.ok
  have M219 := Mo.tr ok M208 m219 (fun ζ e => (e ▸ (ok.so.uT (by decide) U_refl)))
  have CP := CP.add okb219 hd2 m219 (fun j hj => (CR j hj).trans (congrFun (Mb.ai ok (by have := kT1430 ok hd1; omega) (ndu _ (ok.so.uT (by decide) U_refl))) j)) (by decide)
  have nn2 : ¬ d2 = sT S 1430 d2 := fun z => ok.so.pT (f := 1430) (by decide) z.symm
  have fe := And.intro ((m219.fi okb219 (by omega) nn2 1408).trans fe.1) (And.intro ((m219.fi okb219 (by omega) nn2 1413).trans fe.2.1) ((m219.fi okb219 (by omega) nn2 1417).trans fe.2.2))
  refine w_iconst d243_222 (by decide) ?_
  refine w_istore2 d243_223 rfl ?_
  have L224 : ∀ (m224 : Nat) (g224 : Hp) (i : Nat), 14 - i = m224 → Mo S (fun ζ => U S d2 ζ) h g224 → (i ≤ 14) → (CpD S h g224 d1 d2 [1430, 1429, 1428, 1427, 1426, 1424, 1423, 1422, 1421, 1419, 1418, 1416, 1415, 1414, 1412, 1411, 1410, 1409]) → (∀ j, j < i → AI g224 (sT S 1420 d2) j = AI h (sT S 1420 d1) j) → (FI g224 1408 d2 = FI h 1408 d1 ∧ FI g224 1413 d2 = FI h 1413 d1 ∧ FI g224 1417 d2 = FI h 1417 d1) → Wp G d 243 224 [some (vR (some d2)), some (vR (some d1)), some (vI (i : Nat))] [] g224 Q := by
    intro m224
    induction m224 using Nat.strongRecOn with | ind m224 IH224 => ?_
    intro g224 i hm224 Mg224 il CP hc fe
    have okg224 := Mg224.ok
    have rb := fun j => ra1420 ok hd1 j
    have rd : ∀ j, AI g224 (sT S 1420 d1) j = AI h (sT S 1420 d1) j := fun j => congrFun (Mg224.ai ok (by have := kT1420 ok hd1; omega) (ndu _ (ok.so.uT (by decide) U_refl))) j
    have n2 : ¬ d2 = sT S 1420 d2 := fun z => ok.so.pT (f := 1420) (by decide) z.symm
    have kz : ∀ z, z ∈ [1430, 1429, 1428, 1427, 1426, 1424, 1423, 1422, 1421, 1419, 1418, 1416, 1415, 1414, 1412, 1411, 1410, 1409] → sK S (sT S z d2) ≠ 0 ∧ sK S (sT S z d2) ≠ 6 := fun z hz => by
      have a : (fk z = 40 ∨ fk z = 42) ∧ kFld z = 12 := (show ∀ z ∈ [1430, 1429, 1428, 1427, 1426, 1424, 1423, 1422, 1421, 1419, 1418, 1416, 1415, 1414, 1412, 1411, 1410, 1409], (fk z = 40 ∨ fk z = 42) ∧ kFld z = 12 by decide) z hz
      rcases a.1 with b | b
      · have := g_kT ok (hd2.trans a.2.symm) b (by decide); omega
      · have := g_kT ok (hd2.trans a.2.symm) b (by decide); omega
    have nz : ∀ z, z ∈ [1430, 1429, 1428, 1427, 1426, 1424, 1423, 1422, 1421, 1419, 1418, 1416, 1415, 1414, 1412, 1411, 1410, 1409] → ¬ sT S z d2 = sT S 1420 d2 := fun z hz e => by
      have a : z < 4096 ∧ z ≠ 1420 := (show ∀ z ∈ [1430, 1429, 1428, 1427, 1426, 1424, 1423, 1422, 1421, 1419, 1418, 1416, 1415, 1414, 1412, 1411, 1410, 1409], z < 4096 ∧ z ≠ 1420 by decide) z hz
      exact a.2 ((ok.so.inj a.1 (by decide)).mp e).1
    refine w_iload_n d243_224 rfl ?_
    refine w_bipush d243_225 (by decide) ?_
    refine w_icmpge d243_227 (fun c227 => ?_) (fun c227 => ?_)
    · have CP2 : CpD S h g224 d1 d2 [1420, 1430, 1429, 1428, 1427, 1426, 1424, 1423, 1422, 1421, 1419, 1418, 1416, 1415, 1414, 1412, 1411, 1410, 1409] := fun z hz j hj => by
        rcases List.mem_cons.mp hz with q | q
        · subst q; exact hc j (by have : fl 1420 = 14 := rfl; omega)
        · exact CP z q j hj
      have CP := CP2
      refine w_iconst d243_248 (by decide) ?_
      refine w_istore2 d243_249 rfl ?_
      have L250 : ∀ (m250 : Nat) (g250 : Hp) (i : Nat), 84 - i = m250 → Mo S (fun ζ => U S d2 ζ) h g250 → (i ≤ 84) → (CpD S h g250 d1 d2 [1420, 1430, 1429, 1428, 1427, 1426, 1424, 1423, 1422, 1421, 1419, 1418, 1416, 1415, 1414, 1412, 1411, 1410, 1409]) → (∀ j, j < i → AI g250 (sT S 1425 d2) j = AI h (sT S 1425 d1) j) → (FI g250 1408 d2 = FI h 1408 d1 ∧ FI g250 1413 d2 = FI h 1413 d1 ∧ FI g250 1417 d2 = FI h 1417 d1) → Wp G d 243 250 [some (vR (some d2)), some (vR (some d1)), some (vI (i : Nat))] [] g250 Q := by
        intro m250
        induction m250 using Nat.strongRecOn with | ind m250 IH250 => ?_
        intro g250 i hm250 Mg250 il CP hc fe
        have okg250 := Mg250.ok
        have rb := fun j => ra1425 ok hd1 j
        have rd : ∀ j, AI g250 (sT S 1425 d1) j = AI h (sT S 1425 d1) j := fun j => congrFun (Mg250.ai ok (by have := kT1425 ok hd1; omega) (ndu _ (ok.so.uT (by decide) U_refl))) j
        have n2 : ¬ d2 = sT S 1425 d2 := fun z => ok.so.pT (f := 1425) (by decide) z.symm
        have kz : ∀ z, z ∈ [1420, 1430, 1429, 1428, 1427, 1426, 1424, 1423, 1422, 1421, 1419, 1418, 1416, 1415, 1414, 1412, 1411, 1410, 1409] → sK S (sT S z d2) ≠ 0 ∧ sK S (sT S z d2) ≠ 6 := fun z hz => by
          have a : (fk z = 40 ∨ fk z = 42) ∧ kFld z = 12 := (show ∀ z ∈ [1420, 1430, 1429, 1428, 1427, 1426, 1424, 1423, 1422, 1421, 1419, 1418, 1416, 1415, 1414, 1412, 1411, 1410, 1409], (fk z = 40 ∨ fk z = 42) ∧ kFld z = 12 by decide) z hz
          rcases a.1 with b | b
          · have := g_kT ok (hd2.trans a.2.symm) b (by decide); omega
          · have := g_kT ok (hd2.trans a.2.symm) b (by decide); omega
        have nz : ∀ z, z ∈ [1420, 1430, 1429, 1428, 1427, 1426, 1424, 1423, 1422, 1421, 1419, 1418, 1416, 1415, 1414, 1412, 1411, 1410, 1409] → ¬ sT S z d2 = sT S 1425 d2 := fun z hz e => by
          have a : z < 4096 ∧ z ≠ 1425 := (show ∀ z ∈ [1420, 1430, 1429, 1428, 1427, 1426, 1424, 1423, 1422, 1421, 1419, 1418, 1416, 1415, 1414, 1412, 1411, 1410, 1409], z < 4096 ∧ z ≠ 1425 by decide) z hz
          exact a.2 ((ok.so.inj a.1 (by decide)).mp e).1
        refine w_iload_n d243_250 rfl ?_
        refine w_bipush d243_251 (by decide) ?_
        refine w_icmpge d243_253 (fun c253 => ?_) (fun c253 => ?_)
        · refine w_return d243_274 ?_
          refine kk g250 Mg250 (D.cp okg250 hd1 hd2 fe.1 fe.2.1 fe.2.2 (fun z hz j hj => ?_))
          have q : z = 1425 ∨ z ∈ [1420, 1430, 1429, 1428, 1427, 1426, 1424, 1423, 1422, 1421, 1419, 1418, 1416, 1415, 1414, 1412, 1411, 1410, 1409] := (show ∀ z ∈ [1409, 1410, 1411, 1412, 1414, 1415, 1416, 1418, 1419, 1421, 1422, 1423, 1424, 1426, 1427, 1428, 1429, 1430, 1420, 1425], z = 1425 ∨ z ∈ [1420, 1430, 1429, 1428, 1427, 1426, 1424, 1423, 1422, 1421, 1419, 1418, 1416, 1415, 1414, 1412, 1411, 1410, 1409] by decide) z hz
          rcases q with q | q
          · subst q; exact hc j (by have : fl 1425 = 84 := rfl; omega)
          · exact CP z q j hj
        · have hi : i < 84 := by omega
          have rbi := rb i
          refine w_aload_n d243_256 rfl ?_
          refine w_dloadS d243_257 (okg250.kd hd2) (fr1425 okg250 hd2) ?_
          refine w_iload_n d243_260 rfl ?_
          refine w_aload_n d243_261 rfl ?_
          refine w_dloadS d243_262 (okg250.kd hd1) (fr1425 okg250 hd1) ?_
          refine w_iload_n d243_265 rfl ?_
          refine w_baloadV (x := (AI h (sT S 1425 d1) i)) d243_266 (gi1425 okg250 hd1 (by omega)) (rd i) ?_
          refine wa1425 d243_267 okg250 hd2 (by omega) (by omega) (fun h267 e267 m267 => ?_)
          have e267 : h267 = sAI g250 (sT S 1425 d2) i (AI h (sT S 1425 d1) i) := e267
          have ok267 := m267.ok
          have M267 := Mo.tr ok Mg250 m267 (fun ζ e => (e ▸ (ok.so.uT (by decide) U_refl)))
          refine w_iinc2 d243_268 rfl (by constructor <;> omega) ?_
          refine w_goto d243_271 ?_
          rw [show ((i : Nat) : Int) + 1 = ((i + 1 : Nat) : Int) by omega]
          have st := 1425
          refine w_less ?_ (IH250 _ (by omega) h267 (i + 1) rfl M267 (by omega) (fun z hz j hj => (congrFun (m267.ai okg250 (kz z hz) (nz z hz)) j).trans (CP z hz j hj)) (fun j hj => by rw [e267, sArr]; by_cases q : j = i; rw [if_pos q, q]; rw [if_neg q]; exact hc j (by omega)) ⟨(m267.fi okg250 (by omega) n2 1408).trans fe.1, (m267.fi okg250 (by omega) n2 1413).trans fe.2.1, (m267.fi okg250 (by omega) n2 1417).trans fe.2.2⟩)
          exact ⟨Or.inr rfl, Or.inr rfl, Or.inr rfl, trivial⟩
      refine w_less ?_ (L250 _ g224 0 rfl Mg224 (Nat.zero_le _) CP (fun j hj => absurd hj (Nat.not_lt_zero _)) fe)
      exact ⟨Or.inr rfl, Or.inr rfl, Or.inr rfl, trivial⟩
    · have hi : i < 14 := by omega
      have rbi := rb i
      refine w_aload_n d243_230 rfl ?_
      refine w_dloadS d243_231 (okg224.kd hd2) (fr1420 okg224 hd2) ?_
      refine w_iload_n d243_234 rfl ?_
      refine w_aload_n d243_235 rfl ?_
      refine w_dloadS d243_236 (okg224.kd hd1) (fr1420 okg224 hd1) ?_
      refine w_iload_n d243_239 rfl ?_
      refine w_baloadV (x := (AI h (sT S 1420 d1) i)) d243_240 (gi1420 okg224 hd1 (by omega)) (rd i) ?_
      refine wa1420 d243_241 okg224 hd2 (by omega) (by omega) (fun h241 e241 m241 => ?_)
      have e241 : h241 = sAI g224 (sT S 1420 d2) i (AI h (sT S 1420 d1) i) := e241
      have ok241 := m241.ok
      have M241 := Mo.tr ok Mg224 m241 (fun ζ e => (e ▸ (ok.so.uT (by decide) U_refl)))
      refine w_iinc2 d243_242 rfl (by constructor <;> omega) ?_
      refine w_goto d243_245 ?_
      rw [show ((i : Nat) : Int) + 1 = ((i + 1 : Nat) : Int) by omega]
      have st := 1420
      refine w_less ?_ (IH224 _ (by omega) h241 (i + 1) rfl M241 (by omega) (fun z hz j hj => (congrFun (m241.ai okg224 (kz z hz) (nz z hz)) j).trans (CP z hz j hj)) (fun j hj => by rw [e241, sArr]; by_cases q : j = i; rw [if_pos q, q]; rw [if_neg q]; exact hc j (by omega)) ⟨(m241.fi okg224 (by omega) n2 1408).trans fe.1, (m241.fi okg224 (by omega) n2 1413).trans fe.2.1, (m241.fi okg224 (by omega) n2 1417).trans fe.2.2⟩)
      exact ⟨Or.inr rfl, Or.inr rfl, Or.inr rfl, trivial⟩
  refine w_less ?_ (L224 _ h219 0 rfl M219 (Nat.zero_le _) CP (fun j hj => absurd hj (Nat.not_lt_zero _)) fe)
  exact ⟨Or.inr rfl, Or.inr rfl, Or.inr rfl, trivial⟩
