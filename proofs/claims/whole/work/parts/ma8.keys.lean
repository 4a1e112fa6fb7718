/-! the reference: parts and keys -/
def PaR (S : Shp) (h : Hp) (m : Nat) (ps : List Int64) : Prop := FI h 1679 m = ps.length ∧ ps.length ≤ 7 ∧ ∀ i, i < ps.length → AL h (sT S 1678 m) i = ps.getD i 0
theorem PaR.f {S : Shp} {A : Nat → Prop} {F : List Nat} {h h' : Hp} {m : Nat} {ps : List Int64} (ok : Ok S h) (mo : Mo S A h h') (k : FK F m h h') (hm : sK S m = 14) (hA : ¬ A (sT S 1678 m)) (D : PaR S h m ps) (hF : 1679 ∉ F := by decide) : PaR S h' m ps := ⟨(k.i _ hF).trans D.1, D.2.1, fun i hi => by rw [mo.al ok (by have := kT1678 ok hm; omega) hA]; exact D.2.2 i hi⟩
/-- an outcome of the reference as one of the class -/
def oV (x : OmV) : OutV := (decide (x.2.2 = []), x.1, x.2.1, x.2.2)
/-- the outcomes of an array -/
def OmS (S : Shp) (h : Hp) (b : Nat) (bu : Nat → OmV) : Prop := ∀ j, j < 14 → OmC S h (sE S b j) (bu j)
theorem OmS.u {S : Shp} {A : Nat → Prop} {h h' : Hp} {b : Nat} {bu : Nat → OmV} (ok : Ok S h) (m : Mo S A h h') (hb : ∀ j, j < 14 → sK S (sE S b j) = 13) (hA : ∀ y, U S b y → ¬ A y) (D : OmS S h b bu) : OmS S h' b bu := fun j hj => (D j hj).u ok m (hb j hj) (fun y u => hA y (U_trans (ok.so.uE (by omega) U_refl) u))
/-- the arrays of outcomes that actions read -/
theorem oth {S : Shp} {h : Hp} {f m j : Nat} (ok : Ok S h) (hm : sK S m = 14) (hf : f = 1668 ∨ f = 1669) (hj : j < 14) : (isRA (KD h (sT S f m)) = true ∧ bnd ((j : Nat) : Int) (LN h (sT S f m))) ∧ AR h (sT S f m) j = some (sE S (sT S f m) j) ∧ sK S (sE S (sT S f m) j) = 13 ∧ f < 4096 := by
  rcases hf with rfl | rfl
  · exact ⟨gi1668 ok hm (by omega), er1668 ok hm hj, kE1668 ok hm hj, by decide⟩
  · exact ⟨gi1669 ok hm (by omega), er1669 ok hm hj, kE1669 ok hm hj, by decide⟩
/-- no input is missing -/
def noMis (fs : List (List Nat × List Nat)) (ts : List (Bool × TgV)) (D : TgV) : Prop := ∀ k, k < (tgI D).length → misP (fix fs) ts D k = false
theorem noMis_of {fs : List (List Nat × List Nat)} {gs : List (List Nat × Nat)} {ts : List (Bool × TgV)} {D : TgV} (h : ahead (fix fs) gs ts D = []) : noMis fs ts D := by
  unfold ahead at h
  by_cases q : tgC D ≠ [] ∧ gval gs (tgC D) ≠ tgK D
  · rw [if_pos q] at h; exact absurd h txl.2.2.2.1
  · rw [if_neg q] at h
    by_cases q2 : misI (fix fs) ts D < 0
    · have e : misI (fix fs) ts D = -1 := by
        rcases srF_rg (p := misP (fix fs) ts D) (n := (tgI D).length) (i := 0) with z | ⟨j, -, -, z, -⟩
        · exact z
        · have : misI (fix fs) ts D = (j : Int) := z
          omega
      exact fun k hk => srF_none.mp e k (Nat.zero_le _) hk
    · rw [if_neg q2] at h
      have := (List.append_eq_nil_iff.mp h).1
      split at this
      · exact absurd this txl.2.2.2.2.1
      · exact absurd this txl.2.2.2.2.2
theorem noMis.at {fs : List (List Nat × List Nat)} {ts : List (Bool × TgV)} {D : TgV} (h : noMis fs ts D) {k : Nat} (hk : k < (tgI D).length) : if inB (tgI D) k = true then 0 ≤ tat ts (inN (tgI D) k) else 0 ≤ fix fs (inN (tgI D) k) := by
  have := h k hk
  unfold misP at this
  split
  · rename_i q
    rw [if_pos q] at this
    have := of_decide_eq_false this
    omega
  · rename_i q
    rw [if_neg q] at this
    have := of_decide_eq_false this
    omega
theorem inpR_at {fs : List (List Nat × List Nat)} {ts : List (Bool × TgV)} {pu : Nat → OutV} {D : TgV} (h : noMis fs ts D) {k : Nat} (hk : k < (tgI D).length) : (inpL fs ts pu D).getD k [] = if inB (tgI D) k = true then (if rix (tgR D) = 7 then oF (pu (tat ts (inN (tgI D) k)).toNat) else oO (pu (tat ts (inN (tgI D) k)).toNat)) else fB fs (fix fs (inN (tgI D) k)).toNat := by
  have n := h.at hk
  unfold inpL
  rw [getD_map _ _ k (false, []) [] hk]
  unfold inpV
  by_cases q : inB (tgI D) k = true
  · rw [if_pos q] at n ⊢
    rw [if_pos (show ((tgI D).getD k (false, [])).1 = true from q), show ((tgI D).getD k (false, [])).2 = inN (tgI D) k from rfl, if_pos n]
    by_cases q7 : rix (tgR D) = 7
    · rw [if_pos q7, if_pos (decide_eq_true q7)]
    · rw [if_neg q7, if_neg (by rw [decide_eq_false q7]; decide)]
  · rw [if_neg q] at n ⊢
    rw [if_neg (show ¬ ((tgI D).getD k (false, [])).1 = true from q), show ((tgI D).getD k (false, [])).2 = inN (tgI D) k from rfl, if_pos n]
theorem d261_0 : dc 261 0 = some (.aload_n 0, 1) := by decide +kernel
theorem d261_1 : dc 261 1 = some (.dload 1678, 4) := by decide +kernel
theorem d261_4 : dc 261 4 = some (.aload_n 0, 5) := by decide +kernel
theorem d261_5 : dc 261 5 = some (.getfield 1679, 8) := by decide +kernel
theorem d261_8 : dc 261 8 = some (.aload_n 0, 9) := by decide +kernel
theorem d261_9 : dc 261 9 = some (.fload 1677, 12) := by decide +kernel
theorem d261_12 : dc 261 12 = some (.lastore, 13) := by decide +kernel
theorem d261_13 : dc 261 13 = some (.aload_n 0, 14) := by decide +kernel
theorem d261_14 : dc 261 14 = some (.dup, 15) := by decide +kernel
theorem d261_15 : dc 261 15 = some (.getfield 1679, 18) := by decide +kernel
theorem d261_18 : dc 261 18 = some (.iconst 1, 19) := by decide +kernel
theorem d261_19 : dc 261 19 = some (.iadd, 20) := by decide +kernel
theorem d261_20 : dc 261 20 = some (.putfield 1679, 23) := by decide +kernel
theorem d261_23 : dc 261 23 = some (.return_, 24) := by decide +kernel
theorem k_M_addPart {S : Shp} {G : Nat → Option Nat} {d : Nat} {h : Hp} {Q : Option MV → Hp → Prop} {m : Nat} {l : List Nat} {ps : List Int64} (ok : Ok S h) (h1 : 0 ≤ d) (hm : sK S m = 14) (DG : DgC h m l) (PR : PaR S h m ps) (h7 : ps.length < 7)
    (kk : ∀ h', Mo S (fun z => z = m ∨ z = (sT S 1678 m)) h h' → FK [1679] m h h' → PaR S h' m (ps ++ [dig l]) → Q none h') : Cl G d 261 [vR (some m)] h Q := by
  show Wp G d 261 0 [some (vR (some m))] [] h Q
  obtain ⟨p1, p2, p3⟩ := id PR
  have nO : ¬ m = sT S 1678 m := fun z => ok.so.pT (f := 1678) (by decide) z.symm
  refine w_aload_n d261_0 rfl ?_
  refine w_dloadS d261_1 (ok.kd hm) (fr1678 ok hm) ?_
  refine w_aload_n d261_4 rfl ?_
  refine w_getI (x := ((ps.length : Nat) : Int)) d261_5 (ok.kd hm) p1 ?_
  refine w_aload_n d261_8 rfl ?_
  refine w_floadV (x := (dig l)) d261_9 (ok.kd hm) DG ?_
  refine wa1678 d261_12 ok hm (by omega) (fun h12 e12 m12 => ?_)
  have e12 : h12 = sAL h (sT S 1678 m) ps.length (dig l) := e12
  have ok12 := m12.ok
  have M12 := Mo.tr ok (Mo.refl (A := (fun ζ => ζ = m ∨ ζ = (sT S 1678 m))) ok) m12 (fun ζ e => (Or.inr e))
  have K12 := FK.tr (F := [1679]) FK.refl (FK.of ok m12 hm (fun z => Nat.lt_irrefl _ (Nat.lt_of_lt_of_eq (ok.so.ltT (by decide)) z.symm))) (by decide)
  refine w_aload_n d261_13 rfl ?_
  refine w_dupR d261_14 ?_
  refine w_getI (x := ((ps.length : Nat) : Int)) d261_15 (ok12.kd hm) ((m12.fi ok (by omega) nO 1679).trans p1) ?_
  refine w_iconst d261_18 (by decide) ?_
  refine w_iadd d261_19 (by constructor <;> omega) ?_
  refine wf1679 d261_20 ok12 hm (by omega) (fun h20 e20 m20 => ?_)
  have ok20 := m20.ok
  have M20 := Mo.tr ok M12 m20 (fun ζ e => (Or.inl e))
  have K20 := FK.tr (F := [1679]) K12 (FK.pI e20) (by decide)
  refine w_return d261_23 ?_
  refine kk h20 M20 K20 ⟨by rw [e20, FI_sFI, if_pos ⟨rfl, rfl⟩]; simp, by simp; omega, fun i hi => ?_⟩
  rw [m20.al ok12 (by have := kT1678 ok hm; omega) (fun z => nO z.symm), e12]
  show up2 (AL h) (sT S 1678 m) ps.length (dig l) (sT S 1678 m) i = _
  unfold up2
  rw [List.length_append, List.length_singleton] at hi
  rw [getD_snoc]
  by_cases q : i = ps.length
  · rw [if_pos ⟨rfl, q⟩, if_pos q]
  · rw [if_neg (fun z => q z.2), if_neg q]; exact p3 i (by omega)
theorem d256_0 : dc 256 0 = some (.aload_n 0, 1) := by decide +kernel
theorem d256_1 : dc 256 1 = some (.iconst 0, 2) := by decide +kernel
theorem d256_2 : dc 256 2 = some (.putfield 1679, 5) := by decide +kernel
theorem d256_5 : dc 256 5 = some (.aload_n 0, 6) := by decide +kernel
theorem d256_6 : dc 256 6 = some (.invokevirtual 257, 9) := by decide +kernel
theorem d256_9 : dc 256 9 = some (.aload_n 0, 10) := by decide +kernel
theorem d256_10 : dc 256 10 = some (.aload_n 1, 11) := by decide +kernel
theorem d256_11 : dc 256 11 = some (.dload 1421, 14) := by decide +kernel
theorem d256_14 : dc 256 14 = some (.iload_n 2, 15) := by decide +kernel
theorem d256_15 : dc 256 15 = some (.iaload, 16) := by decide +kernel
theorem d256_16 : dc 256 16 = some (.invokevirtual 258, 19) := by decide +kernel
theorem d256_19 : dc 256 19 = some (.aload_n 0, 20) := by decide +kernel
theorem d256_20 : dc 256 20 = some (.bipush 46, 22) := by decide +kernel
theorem d256_22 : dc 256 22 = some (.invokevirtual 259, 25) := by decide +kernel
theorem d256_25 : dc 256 25 = some (.aload_n 0, 26) := by decide +kernel
theorem d256_26 : dc 256 26 = some (.aload_n 1, 27) := by decide +kernel
theorem d256_27 : dc 256 27 = some (.dload 1422, 30) := by decide +kernel
theorem d256_30 : dc 256 30 = some (.bipush 8, 32) := by decide +kernel
theorem d256_32 : dc 256 32 = some (.iload_n 2, 33) := by decide +kernel
theorem d256_33 : dc 256 33 = some (.imul, 34) := by decide +kernel
theorem d256_34 : dc 256 34 = some (.aload_n 1, 35) := by decide +kernel
theorem d256_35 : dc 256 35 = some (.dload 1423, 38) := by decide +kernel
theorem d256_38 : dc 256 38 = some (.iload_n 2, 39) := by decide +kernel
theorem d256_39 : dc 256 39 = some (.iaload, 40) := by decide +kernel
theorem d256_40 : dc 256 40 = some (.invokevirtual 260, 43) := by decide +kernel
theorem d256_43 : dc 256 43 = some (.aload_n 0, 44) := by decide +kernel
theorem d256_44 : dc 256 44 = some (.invokevirtual 261, 47) := by decide +kernel
theorem d256_47 : dc 256 47 = some (.iconst 0, 48) := by decide +kernel
theorem d256_48 : dc 256 48 = some (.istore 4, 50) := by decide +kernel
theorem d256_50 : dc 256 50 = some (.iload 4, 52) := by decide +kernel
theorem d256_52 : dc 256 52 = some (.aload_n 1, 53) := by decide +kernel
theorem d256_53 : dc 256 53 = some (.dload 1424, 56) := by decide +kernel
theorem d256_56 : dc 256 56 = some (.iload_n 2, 57) := by decide +kernel
theorem d256_57 : dc 256 57 = some (.iaload, 58) := by decide +kernel
theorem d256_58 : dc 256 58 = some (.if_icmp .ge ((224 : Nat) : Int), 61) := by decide +kernel
theorem d256_61 : dc 256 61 = some (.bipush 6, 63) := by decide +kernel
theorem d256_63 : dc 256 63 = some (.iload_n 2, 64) := by decide +kernel
theorem d256_64 : dc 256 64 = some (.imul, 65) := by decide +kernel
theorem d256_65 : dc 256 65 = some (.iload 4, 67) := by decide +kernel
theorem d256_67 : dc 256 67 = some (.iadd, 68) := by decide +kernel
theorem d256_68 : dc 256 68 = some (.istore 5, 70) := by decide +kernel
theorem d256_70 : dc 256 70 = some (.aload_n 0, 71) := by decide +kernel
theorem d256_71 : dc 256 71 = some (.invokevirtual 257, 74) := by decide +kernel
theorem d256_74 : dc 256 74 = some (.aload_n 0, 75) := by decide +kernel
theorem d256_75 : dc 256 75 = some (.aload_n 1, 76) := by decide +kernel
theorem d256_76 : dc 256 76 = some (.dload 1425, 79) := by decide +kernel
theorem d256_79 : dc 256 79 = some (.iload 5, 81) := by decide +kernel
theorem d256_81 : dc 256 81 = some (.baload, 82) := by decide +kernel
theorem d256_82 : dc 256 82 = some (.ifCond .eq ((90 : Nat) : Int), 85) := by decide +kernel
theorem d256_85 : dc 256 85 = some (.bipush 116, 87) := by decide +kernel
theorem d256_87 : dc 256 87 = some (.goto ((92 : Nat) : Int), 90) := by decide +kernel
theorem d256_90 : dc 256 90 = some (.bipush 102, 92) := by decide +kernel
theorem d256_92 : dc 256 92 = some (.invokevirtual 259, 95) := by decide +kernel
theorem d256_95 : dc 256 95 = some (.aload_n 0, 96) := by decide +kernel
theorem d256_96 : dc 256 96 = some (.aload_n 1, 97) := by decide +kernel
theorem d256_97 : dc 256 97 = some (.dload 1426, 100) := by decide +kernel
theorem d256_100 : dc 256 100 = some (.bipush 12, 102) := by decide +kernel
theorem d256_102 : dc 256 102 = some (.iload 5, 104) := by decide +kernel
theorem d256_104 : dc 256 104 = some (.imul, 105) := by decide +kernel
theorem d256_105 : dc 256 105 = some (.aload_n 1, 106) := by decide +kernel
theorem d256_106 : dc 256 106 = some (.dload 1427, 109) := by decide +kernel
theorem d256_109 : dc 256 109 = some (.iload 5, 111) := by decide +kernel
theorem d256_111 : dc 256 111 = some (.iaload, 112) := by decide +kernel
theorem d256_112 : dc 256 112 = some (.invokevirtual 260, 115) := by decide +kernel
theorem d256_115 : dc 256 115 = some (.aload_n 0, 116) := by decide +kernel
theorem d256_116 : dc 256 116 = some (.bipush 10, 118) := by decide +kernel
theorem d256_118 : dc 256 118 = some (.invokevirtual 259, 121) := by decide +kernel
theorem d256_121 : dc 256 121 = some (.aload_n 1, 122) := by decide +kernel
theorem d256_122 : dc 256 122 = some (.iload_n 2, 123) := by decide +kernel
theorem d256_123 : dc 256 123 = some (.iload 4, 125) := by decide +kernel
theorem d256_125 : dc 256 125 = some (.invokevirtual 251, 128) := by decide +kernel
theorem d256_128 : dc 256 128 = some (.istore 6, 130) := by decide +kernel
theorem d256_130 : dc 256 130 = some (.iload 6, 132) := by decide +kernel
theorem d256_132 : dc 256 132 = some (.ifCond .lt ((159 : Nat) : Int), 135) := by decide +kernel
theorem d256_135 : dc 256 135 = some (.aload_n 0, 136) := by decide +kernel
theorem d256_136 : dc 256 136 = some (.aload_n 1, 137) := by decide +kernel
theorem d256_137 : dc 256 137 = some (.dload 1411, 140) := by decide +kernel
theorem d256_140 : dc 256 140 = some (.sipush 160, 143) := by decide +kernel
theorem d256_143 : dc 256 143 = some (.iload 6, 145) := by decide +kernel
theorem d256_145 : dc 256 145 = some (.imul, 146) := by decide +kernel
theorem d256_146 : dc 256 146 = some (.aload_n 1, 147) := by decide +kernel
theorem d256_147 : dc 256 147 = some (.dload 1412, 150) := by decide +kernel
theorem d256_150 : dc 256 150 = some (.iload 6, 152) := by decide +kernel
theorem d256_152 : dc 256 152 = some (.iaload, 153) := by decide +kernel
theorem d256_153 : dc 256 153 = some (.invokevirtual 260, 156) := by decide +kernel
theorem d256_156 : dc 256 156 = some (.goto ((214 : Nat) : Int), 159) := by decide +kernel
theorem d256_159 : dc 256 159 = some (.aload_n 3, 160) := by decide +kernel
theorem d256_160 : dc 256 160 = some (.aload_n 1, 161) := by decide +kernel
theorem d256_161 : dc 256 161 = some (.iload_n 2, 162) := by decide +kernel
theorem d256_162 : dc 256 162 = some (.iload 4, 164) := by decide +kernel
theorem d256_164 : dc 256 164 = some (.invokevirtual 231, 167) := by decide +kernel
theorem d256_167 : dc 256 167 = some (.aaload, 168) := by decide +kernel
theorem d256_168 : dc 256 168 = some (.astore 7, 170) := by decide +kernel
theorem d256_170 : dc 256 170 = some (.aload_n 1, 171) := by decide +kernel
theorem d256_171 : dc 256 171 = some (.dload 1421, 174) := by decide +kernel
theorem d256_174 : dc 256 174 = some (.iload_n 2, 175) := by decide +kernel
theorem d256_175 : dc 256 175 = some (.iaload, 176) := by decide +kernel
theorem d256_176 : dc 256 176 = some (.bipush 7, 178) := by decide +kernel
theorem d256_178 : dc 256 178 = some (.if_icmp .ne ((199 : Nat) : Int), 181) := by decide +kernel
theorem d256_181 : dc 256 181 = some (.aload_n 0, 182) := by decide +kernel
theorem d256_182 : dc 256 182 = some (.aload 7, 184) := by decide +kernel
theorem d256_184 : dc 256 184 = some (.dload 1538, 187) := by decide +kernel
theorem d256_187 : dc 256 187 = some (.iconst 0, 188) := by decide +kernel
theorem d256_188 : dc 256 188 = some (.aload 7, 190) := by decide +kernel
theorem d256_190 : dc 256 190 = some (.getfield 1539, 193) := by decide +kernel
theorem d256_193 : dc 256 193 = some (.invokevirtual 260, 196) := by decide +kernel
theorem d256_196 : dc 256 196 = some (.goto ((214 : Nat) : Int), 199) := by decide +kernel
theorem d256_199 : dc 256 199 = some (.aload_n 0, 200) := by decide +kernel
theorem d256_200 : dc 256 200 = some (.aload 7, 202) := by decide +kernel
theorem d256_202 : dc 256 202 = some (.dload 1536, 205) := by decide +kernel
theorem d256_205 : dc 256 205 = some (.iconst 0, 206) := by decide +kernel
theorem d256_206 : dc 256 206 = some (.aload 7, 208) := by decide +kernel
theorem d256_208 : dc 256 208 = some (.getfield 1537, 211) := by decide +kernel
theorem d256_211 : dc 256 211 = some (.invokevirtual 260, 214) := by decide +kernel
theorem d256_214 : dc 256 214 = some (.aload_n 0, 215) := by decide +kernel
theorem d256_215 : dc 256 215 = some (.invokevirtual 261, 218) := by decide +kernel
theorem d256_218 : dc 256 218 = some (.iinc 4 1, 221) := by decide +kernel
theorem d256_221 : dc 256 221 = some (.goto ((50 : Nat) : Int), 224) := by decide +kernel
theorem d256_224 : dc 256 224 = some (.aload_n 0, 225) := by decide +kernel
theorem d256_225 : dc 256 225 = some (.invokevirtual 257, 228) := by decide +kernel
theorem d256_228 : dc 256 228 = some (.iconst 0, 229) := by decide +kernel
theorem d256_229 : dc 256 229 = some (.istore 4, 231) := by decide +kernel
theorem d256_231 : dc 256 231 = some (.iload 4, 233) := by decide +kernel
theorem d256_233 : dc 256 233 = some (.aload_n 0, 234) := by decide +kernel
theorem d256_234 : dc 256 234 = some (.getfield 1679, 237) := by decide +kernel
theorem d256_237 : dc 256 237 = some (.if_icmp .ge ((280 : Nat) : Int), 240) := by decide +kernel
theorem d256_240 : dc 256 240 = some (.bipush 56, 242) := by decide +kernel
theorem d256_242 : dc 256 242 = some (.istore 5, 244) := by decide +kernel
theorem d256_244 : dc 256 244 = some (.iload 5, 246) := by decide +kernel
theorem d256_246 : dc 256 246 = some (.ifCond .lt ((274 : Nat) : Int), 249) := by decide +kernel
theorem d256_249 : dc 256 249 = some (.aload_n 0, 250) := by decide +kernel
theorem d256_250 : dc 256 250 = some (.aload_n 0, 251) := by decide +kernel
theorem d256_251 : dc 256 251 = some (.dload 1678, 254) := by decide +kernel
theorem d256_254 : dc 256 254 = some (.iload 4, 256) := by decide +kernel
theorem d256_256 : dc 256 256 = some (.laload, 257) := by decide +kernel
theorem d256_257 : dc 256 257 = some (.iload 5, 259) := by decide +kernel
theorem d256_259 : dc 256 259 = some (.lushr, 260) := by decide +kernel
theorem d256_260 : dc 256 260 = some (.ldc2_w 6, 263) := by decide +kernel
theorem d256_263 : dc 256 263 = some (.land, 264) := by decide +kernel
theorem d256_264 : dc 256 264 = some (.l2i, 265) := by decide +kernel
theorem d256_265 : dc 256 265 = some (.invokevirtual 259, 268) := by decide +kernel
theorem d256_268 : dc 256 268 = some (.iinc 5 (-8), 271) := by decide +kernel
theorem d256_271 : dc 256 271 = some (.goto ((244 : Nat) : Int), 274) := by decide +kernel
theorem d256_274 : dc 256 274 = some (.iinc 4 1, 277) := by decide +kernel
theorem d256_277 : dc 256 277 = some (.goto ((231 : Nat) : Int), 280) := by decide +kernel
theorem d256_280 : dc 256 280 = some (.aload_n 0, 281) := by decide +kernel
theorem d256_281 : dc 256 281 = some (.aload_n 0, 282) := by decide +kernel
theorem d256_282 : dc 256 282 = some (.fload 1677, 285) := by decide +kernel
theorem d256_285 : dc 256 285 = some (.fstore 1680, 288) := by decide +kernel
theorem d256_288 : dc 256 288 = some (.return_, 289) := by decide +kernel
theorem k_M_findKey {S : Shp} {G : Nat → Option Nat} {d : Nat} {h : Hp} {Q : Option MV → Hp → Prop} {m : Nat} {d0 : Nat} {t : Nat} {of : Nat} {fs : List (List Nat × List Nat)} {ts : List (Bool × TgV)} {bu : Nat → OmV} (ok : Ok S h) (h1 : 6 ≤ d) (hm : sK S m = 14) (hd0 : sK S d0 = 12) (tg : Tg S G) (hof : of = 1668 ∨ of = 1669) (DF : DFi S h d0 fs) (DT : DTs S h d0 ts) (ht : t < ts.length) (OS : OmS S h (sT S of m) bu) (nom : noMis fs ts (tD ts t)) (nd : ∀ y, U S d0 y → ¬ (y = m ∨ y = sT S 1678 m))
    (kk : ∀ h', Mo S (fun z => z = m ∨ z = (sT S 1678 m)) h h' → FK [1677, 1679, 1680] m h h' → PaR S h' m (ptL (tD ts t) (inpL fs ts (fun u => oV (bu u)) (tD ts t)) (tgI (tD ts t)).length) → FL h' 1680 m = keyW (ptL (tD ts t) (inpL fs ts (fun u => oV (bu u)) (tD ts t)) (tgI (tD ts t)).length) → Q none h') : Cl G d 256 [vR (some m), vR (some d0), vI (t : Nat), vR (some (sT S of m))] h Q := by
  show Wp G d 256 0 [some (vR (some m)), some (vR (some d0)), some (vI (t : Nat)), some (vR (some (sT S of m))), none, none, none, none] [] h Q
  have ht14 : t < 14 := by have := DT.2.1; omega
  have nO : ¬ m = sT S 1678 m := fun z => ok.so.pT (f := 1678) (by decide) z.symm
  obtain ⟨a1, a2, a3, a4, a5, a6, a7, a8, a9, a10, a11, a12, a13, a14, a15, a16, a17⟩ := DT.2.2 t ht
  obtain ⟨r, hr⟩ : ∃ r : Nat, rix (tgR (tD ts t)) = (r : Int) := ⟨(rix (tgR (tD ts t))).toNat, by omega⟩
  obtain ⟨hkr, hr8⟩ := rixK_nm hr
  have ndT : ∀ f, f < 4096 → sT S f d0 ≠ m := fun f hf z => nd _ (ok.so.uT hf U_refl) (Or.inl z)
  have ek13 : ∀ j, j < 14 → sK S (sE S (sT S of m) j) = 13 := fun j hj => (oth ok hm hof hj).2.2.1
  have of4 : of < 4096 := (oth ok hm hof (j := 0) (by decide)).2.2.2
  have nb : ∀ y, U S (sT S of m) y → ¬ (y = m ∨ y = sT S 1678 m) := fun y u q => by
    rcases q with q | q
    · have := ok.so.uLe u; have := ok.so.ltT (f := of) (a := m) of4; omega
    · exact ok.so.nUT (f := of) (g := 1678) (x := m) of4 (by decide) (by omega) (q ▸ u)
  have neE : ∀ f, f < 4096 → ∀ j, j < 14 → sT S f (sE S (sT S of m) j) ≠ m := fun f hf j hj z => nb _ (ok.so.uT hf (ok.so.uE (by omega) U_refl)) (Or.inl z)
  refine w_aload_n d256_0 rfl ?_
  refine w_iconst d256_1 (by decide) ?_
  refine wf1679 d256_2 ok hm (by omega) (fun h2 e2 m2 => ?_)
  have ok2 := m2.ok
  have M2 := Mo.tr ok (Mo.refl (A := (fun ζ => ζ = m ∨ ζ = (sT S 1678 m))) ok) m2 (fun ζ e => (Or.inl e))
  have K2 := FK.tr (F := [1677, 1679, 1680]) FK.refl (FK.pI e2) (by decide)
  have PR : PaR S h2 m [] := ⟨by rw [e2, FI_sFI, if_pos ⟨rfl, rfl⟩]; rfl, by decide, fun i hi => absurd hi (Nat.not_lt_zero _)⟩
  refine w_aload_n d256_5 rfl ?_
  have okP := ok2
  refine w_callv1 d256_6 (by omega) rfl (ok2.kd hm) (by simp) (Nat.le_of_ble_eq_true rfl) ?_
  refine k_M_beginDigest ok2 (by omega) hm (fun h6 m6 q6 DG => ?_)
  have ok6 := m6.ok
  have M6 := Mo.tr ok M2 m6 (fun ζ e => (Or.inl e))
  have K6 := FK.tr (F := [1677, 1679, 1680]) K2 q6 (by decide)
  have PR := PR.f okP m6 q6 hm (fun z => nO z.symm)
  refine w_aload_n d256_9 rfl ?_
  refine w_aload_n d256_10 rfl ?_
  refine w_dloadS d256_11 (ok6.kd hd0) (fr1421 ok6 hd0) ?_
  refine w_iload_n d256_14 rfl ?_
  refine w_ialoadV (x := ((r : Nat) : Int)) d256_15 (gi1421 ok6 hd0 (by omega)) (((((((DT.u ok M6 hd0 nd).2.2 t ht).2).2).2).2).1.trans hr) ?_
  have okP := ok6
  refine w_callv2 d256_16 (by omega) rfl (ok6.kd hm) (by simp) (Nat.le_of_ble_eq_true rfl) ?_
  refine k_M_digestRuleName (r := r) ok6 (by omega) hm tg DG hr8 (fun h16 m16 q16 DG => ?_)
  have ok16 := m16.ok
  have M16 := Mo.tr ok M6 m16 (fun ζ e => (Or.inl e))
  have K16 := FK.tr (F := [1677, 1679, 1680]) K6 q16 (by decide)
  have PR := PR.f okP m16 q16 hm (fun z => nO z.symm)
  refine w_aload_n d256_19 rfl ?_
  refine w_bipush d256_20 (by decide) ?_
  have okP := ok16
  refine w_callv2 d256_22 (by omega) rfl (ok16.kd hm) (by simp) (Nat.le_of_ble_eq_true rfl) ?_
  refine k_M_digestByte (c := 46) ok16 (by omega) hm DG (fun h22 m22 q22 DG => ?_)
  have ok22 := m22.ok
  have M22 := Mo.tr ok M16 m22 (fun ζ e => (Or.inl e))
  have K22 := FK.tr (F := [1677, 1679, 1680]) K16 q22 (by decide)
  have PR := PR.f okP m22 q22 hm (fun z => nO z.symm)
  refine w_aload_n d256_25 rfl ?_
  refine w_aload_n d256_26 rfl ?_
  refine w_dloadS d256_27 (ok22.kd hd0) (fr1422 ok22 hd0) ?_
  refine w_bipush d256_30 (by decide) ?_
  refine w_iload_n d256_32 rfl ?_
  refine w_imul d256_33 (by constructor <;> omega) ?_
  rw [show (8 : Int) * ((t : Nat) : Int) = ((8 * t : Nat) : Int) by omega]
  refine w_aload_n d256_34 rfl ?_
  refine w_dloadS d256_35 (ok22.kd hd0) (fr1423 ok22 hd0) ?_
  refine w_iload_n d256_38 rfl ?_
  refine w_ialoadV (x := ((tgW (tD ts t)).length : Int)) d256_39 (gi1423 ok22 hd0 (by omega)) ((DT.u ok M22 hd0 nd).2.2 t ht).2.2.2.2.2.2.1 ?_
  have okP := ok22
  refine w_callv4 d256_40 (by omega) rfl (ok22.kd hm) (by simp) (Nat.le_of_ble_eq_true rfl) ?_
  refine k_M_digestRow ok22 (by omega) hm DG rfl ((DT.u ok M22 hd0 nd).2.2 t ht).2.2.2.2.2.2.2.2.1 (ndT 1422 (by decide)) (fun h40 m40 q40 DG => ?_)
  have ok40 := m40.ok
  have M40 := Mo.tr ok M22 m40 (fun ζ e => (Or.inl e))
  have K40 := FK.tr (F := [1677, 1679, 1680]) K22 q40 (by decide)
  have PR := PR.f okP m40 q40 hm (fun z => nO z.symm)
  rw [List.nil_append, hkr, List.append_assoc] at DG
  refine w_aload_n d256_43 rfl ?_
  refine w_callv1 d256_44 (by omega) rfl (ok40.kd hm) (by simp) (Nat.le_of_ble_eq_true rfl) ?_
  refine k_M_addPart ok40 (by omega) hm DG PR (by decide) (fun h44 m44 q44 PR => ?_)
  have ok44 := m44.ok
  have M44 := Mo.tr ok M40 m44 (fun ζ q => q.elim ((fun ζ e => (Or.inl e)) ζ) ((fun ζ e => (Or.inr e)) ζ))
  have K44 := FK.tr (F := [1677, 1679, 1680]) K40 q44 (by decide)
  refine w_iconst d256_47 (by decide) ?_
  refine w_istore4 d256_48 rfl ?_
  have L50 : ∀ (m50 : Nat) (g50 : Hp) (k : Nat), (tgI (tD ts t)).length - k = m50 → Mo S (fun ζ => ζ = m ∨ ζ = (sT S 1678 m)) h g50 → FK [1677, 1679, 1680] m h g50 → (k ≤ (tgI (tD ts t)).length) → (PaR S g50 m (ptL (tD ts t) (inpL fs ts (fun u => oV (bu u)) (tD ts t)) k)) → Wp G d 256 50 [some (vR (some m)), some (vR (some d0)), some (vI (t : Nat)), some (vR (some (sT S of m))), some (vI (k : Nat)), none, none, none] [] g50 Q := by
    intro m50
    induction m50 using Nat.strongRecOn with | ind m50 IH50 => ?_
    intro g50 k hm50 Mg50 Kg50 kl PR
    have okg50 := Mg50.ok
    refine w_iload d256_50 rfl ?_
    refine w_aload_n d256_52 rfl ?_
    refine w_dloadS d256_53 (okg50.kd hd0) (fr1424 okg50 hd0) ?_
    refine w_iload_n d256_56 rfl ?_
    refine w_ialoadV (x := ((tgI (tD ts t)).length : Int)) d256_57 (gi1424 okg50 hd0 (by omega)) ((DT.u ok Mg50 hd0 nd).2.2 t ht).2.2.2.2.2.2.2.2.2.1 ?_
    refine w_icmpge d256_58 (fun c58 => ?_) (fun c58 => ?_)
    · have ek : k = (tgI (tD ts t)).length := by omega
      rw [ek] at PR
      generalize hps : (ptL (tD ts t) (inpL fs ts (fun u => oV (bu u)) (tD ts t)) (tgI (tD ts t)).length) = ps at PR kk
      refine w_aload_n d256_224 rfl ?_
      have okP := okg50
      refine w_callv1 d256_225 (by omega) rfl (okg50.kd hm) (by simp) (Nat.le_of_ble_eq_true rfl) ?_
      refine k_M_beginDigest okg50 (by omega) hm (fun h225 m225 q225 DG => ?_)
      have ok225 := m225.ok
      have M225 := Mo.tr ok Mg50 m225 (fun ζ e => (Or.inl e))
      have K225 := FK.tr (F := [1677, 1679, 1680]) Kg50 q225 (by decide)
      have PR := PR.f okP m225 q225 hm (fun z => nO z.symm)
      refine w_iconst d256_228 (by decide) ?_
      refine w_istore4 d256_229 rfl ?_
      have L231 : ∀ (m231 : Nat) (g231 : Hp) (i : Nat), ps.length - i = m231 → Mo S (fun ζ => ζ = m ∨ ζ = (sT S 1678 m)) h g231 → FK [1677, 1679, 1680] m h g231 → (i ≤ ps.length) → (PaR S g231 m ps) → (DgC g231 m (kyB ps i)) → Wp G d 256 231 [some (vR (some m)), some (vR (some d0)), some (vI (t : Nat)), some (vR (some (sT S of m))), some (vI (i : Nat)), none, none, none] [] g231 Q := by
        intro m231
        induction m231 using Nat.strongRecOn with | ind m231 IH231 => ?_
        intro g231 i hm231 Mg231 Kg231 il PR DG
        have okg231 := Mg231.ok
        have p7 := PR.2.1
        refine w_iload d256_231 rfl ?_
        refine w_aload_n d256_233 rfl ?_
        refine w_getI (x := ((ps.length : Nat) : Int)) d256_234 (okg231.kd hm) PR.1 ?_
        refine w_icmpge d256_237 (fun c237 => ?_) (fun c237 => ?_)
        · have ei : i = ps.length := by omega
          rw [ei] at DG
          refine w_aload_n d256_280 rfl ?_
          refine w_aload_n d256_281 rfl ?_
          refine w_floadV (x := (keyW ps)) d256_282 (okg231.kd hm) DG ?_
          refine wf1680 d256_285 okg231 hm (fun h285 e285 m285 => ?_)
          have ok285 := m285.ok
          have M285 := Mo.tr ok Mg231 m285 (fun ζ e => (Or.inl e))
          have K285 := FK.tr (F := [1677, 1679, 1680]) Kg231 (FK.pL e285) (by decide)
          refine w_return d256_288 ?_
          refine kk h285 M285 K285 (PR.f okg231 m285 (FK.pL e285) hm (fun z => nO z.symm)) ?_
          rw [e285]; show up2 _ 1680 m _ 1680 m = _; unfold up2; rw [if_pos ⟨rfl, rfl⟩]
        · have hi : i < ps.length := by omega
          refine w_bipush d256_240 (by decide) ?_
          refine w_istore5 d256_242 rfl ?_
          have L244 : ∀ (m244 : Nat) (g244 : Hp) (j : Nat), 8 - j = m244 → Mo S (fun ζ => ζ = m ∨ ζ = (sT S 1678 m)) h g244 → FK [1677, 1679, 1680] m h g244 → (j ≤ 8) → (PaR S g244 m ps) → (DgC g244 m (kyB ps i ++ by8 (ps.getD i 0) j)) → Wp G d 256 244 [some (vR (some m)), some (vR (some d0)), some (vI (t : Nat)), some (vR (some (sT S of m))), some (vI (i : Nat)), some (vI (56 - 8 * ((j : Nat) : Int))), none, none] [] g244 Q := by
            intro m244
            induction m244 using Nat.strongRecOn with | ind m244 IH244 => ?_
            intro g244 j hm244 Mg244 Kg244 jl PR DG
            have okg244 := Mg244.ok
            refine w_iload d256_244 rfl ?_
            refine w_iflt d256_246 (fun c246 => ?_) (fun c246 => ?_)
            · have ej : j = 8 := by omega
              rw [ej, ← kyB_8] at DG
              refine w_iinc4 d256_274 rfl (by constructor <;> omega) ?_
              refine w_goto d256_277 ?_
              rw [show ((i : Nat) : Int) + 1 = ((i + 1 : Nat) : Int) by omega]
              refine w_less ?_ (IH231 _ (by omega) g244 (i + 1) rfl Mg244 Kg244 (by omega) PR DG)
              exact ⟨Or.inr rfl, Or.inr rfl, Or.inr rfl, Or.inr rfl, Or.inr rfl, Or.inl rfl, Or.inl rfl, Or.inl rfl, trivial⟩
            · have hj : j < 8 := by omega
              have e8 := byJ_ok (x := ps.getD i 0) (s := 56 - 8 * j) (q := 8) (lngV 6) (by decide) (by decide) (by omega)
              rw [show (((56 - 8 * j : Nat)) : Int) = 56 - 8 * ((j : Nat) : Int) by omega] at e8
              have l8 := pcJ_lt (ps.getD i 0) (56 - 8 * j) 8
              refine w_aload_n d256_249 rfl ?_
              refine w_aload_n d256_250 rfl ?_
              refine w_dloadS d256_251 (okg244.kd hm) (fr1678 okg244 hm) ?_
              refine w_iload d256_254 rfl ?_
              refine w_laloadV (x := (ps.getD i 0)) d256_256 (gi1678 okg244 hm (by omega)) (PR.2.2 i hi) ?_
              refine w_iload d256_257 rfl ?_
              refine w_lushr d256_259 ?_
              refine w_ldc2_w d256_260 ?_
              refine w_land d256_263 ?_
              refine w_l2i d256_264 ?_
              rw [e8]
              have okP := okg244
              refine w_callv2 d256_265 (by omega) rfl (okg244.kd hm) (by simp) (Nat.le_of_ble_eq_true rfl) ?_
              refine k_M_digestByte (c := (pcJ (ps.getD i 0) (56 - 8 * j) 8)) okg244 (by omega) hm DG (fun h265 m265 q265 DG => ?_)
              have ok265 := m265.ok
              have M265 := Mo.tr ok Mg244 m265 (fun ζ e => (Or.inl e))
              have K265 := FK.tr (F := [1677, 1679, 1680]) Kg244 q265 (by decide)
              have PR := PR.f okP m265 q265 hm (fun z => nO z.symm)
              refine w_iinc5 d256_268 rfl (by constructor <;> omega) ?_
              refine w_goto d256_271 ?_
              rw [show (56 : Int) - 8 * ((j : Nat) : Int) + (-8) = 56 - 8 * ((j + 1 : Nat) : Int) by omega]
              rw [List.append_assoc, ← by8_snoc] at DG
              refine w_less ?_ (IH244 _ (by omega) h265 (j + 1) rfl M265 K265 (by omega) PR DG)
              exact ⟨Or.inr rfl, Or.inr rfl, Or.inr rfl, Or.inr rfl, Or.inr rfl, Or.inr rfl, Or.inl rfl, Or.inl rfl, trivial⟩
          refine w_less ?_ (L244 _ g231 0 rfl Mg231 Kg231 (Nat.zero_le _) PR (by rw [show by8 (ps.getD i 0) 0 = [] from rfl, List.append_nil]; exact DG))
          exact ⟨Or.inr rfl, Or.inr rfl, Or.inr rfl, Or.inr rfl, Or.inr rfl, Or.inr rfl, Or.inl rfl, Or.inl rfl, trivial⟩
      refine w_less ?_ (L231 _ h225 0 rfl M225 K225 (Nat.zero_le _) PR DG)
      exact ⟨Or.inr rfl, Or.inr rfl, Or.inr rfl, Or.inr rfl, Or.inr rfl, Or.inl rfl, Or.inl rfl, Or.inl rfl, trivial⟩
    · have hk : k < (tgI (tD ts t)).length := by omega
      have nm := nom.at hk
      have ia := inpR_at (pu := fun u => oV (bu u)) nom hk
      have pl := ptL_len (t := tD ts t) (ins := inpL fs ts (fun u => oV (bu u)) (tD ts t)) k
      refine w_bipush d256_61 (by decide) ?_
      refine w_iload_n d256_63 rfl ?_
      refine w_imul d256_64 (by constructor <;> omega) ?_
      rw [show (6 : Int) * ((t : Nat) : Int) = ((6 * t : Nat) : Int) by omega]
      refine w_iload d256_65 rfl ?_
      refine w_iadd d256_67 (by constructor <;> omega) ?_
      rw [show ((6 * t : Nat) : Int) + ((k : Nat) : Int) = ((6 * t + k : Nat) : Int) by omega]
      refine w_istore5 d256_68 rfl ?_
      refine w_aload_n d256_70 rfl ?_
      have okP := okg50
      refine w_callv1 d256_71 (by omega) rfl (okg50.kd hm) (by simp) (Nat.le_of_ble_eq_true rfl) ?_
      refine k_M_beginDigest okg50 (by omega) hm (fun h71 m71 q71 DG => ?_)
      have ok71 := m71.ok
      have M71 := Mo.tr ok Mg50 m71 (fun ζ e => (Or.inl e))
      have K71 := FK.tr (F := [1677, 1679, 1680]) Kg50 q71 (by decide)
      have PR := PR.f okP m71 q71 hm (fun z => nO z.symm)
      refine w_aload_n d256_74 rfl ?_
      refine w_aload_n d256_75 rfl ?_
      refine w_dloadS d256_76 (ok71.kd hd0) (fr1425 ok71 hd0) ?_
      refine w_iload d256_79 rfl ?_
      refine w_baloadV (x := (b2i (inB (tgI (tD ts t)) k))) d256_81 (gi1425 ok71 hd0 (by omega)) (((DT.u ok M71 hd0 nd).2.2 t ht).2.2.2.2.2.2.2.2.2.2.2.1 k hk).1 ?_
      refine w_ifeq d256_82 (fun c82 => ?_) (fun c82 => ?_)
      · have q : ¬ inB (tgI (tD ts t)) k = true := fun z => by rw [z] at c82; exact absurd c82 (by decide)
        rw [if_neg q] at nm ia
        have eb : (if inB (tgI (tD ts t)) k = true then [116] else [102]) = [102] := if_neg q
        refine w_bipush d256_90 (by decide) ?_
        have okP := ok71
        refine w_callv2 d256_92 (by omega) rfl (ok71.kd hm) (by simp) (Nat.le_of_ble_eq_true rfl) ?_
        refine k_M_digestByte (c := 102) ok71 (by omega) hm DG (fun h92 m92 q92 DG => ?_)
        have ok92 := m92.ok
        have M92 := Mo.tr ok M71 m92 (fun ζ e => (Or.inl e))
        have K92 := FK.tr (F := [1677, 1679, 1680]) K71 q92 (by decide)
        have PR := PR.f okP m92 q92 hm (fun z => nO z.symm)
        refine w_aload_n d256_95 rfl ?_
        refine w_aload_n d256_96 rfl ?_
        refine w_dloadS d256_97 (ok92.kd hd0) (fr1426 ok92 hd0) ?_
        refine w_bipush d256_100 (by decide) ?_
        refine w_iload d256_102 rfl ?_
        refine w_imul d256_104 (by constructor <;> omega) ?_
        rw [show (12 : Int) * (((6 * t + k) : Nat) : Int) = ((12 * (6 * t + k) : Nat) : Int) by omega]
        refine w_aload_n d256_105 rfl ?_
        refine w_dloadS d256_106 (ok92.kd hd0) (fr1427 ok92 hd0) ?_
        refine w_iload d256_109 rfl ?_
        refine w_ialoadV (x := ((inN (tgI (tD ts t)) k).length : Int)) d256_111 (gi1427 ok92 hd0 (by omega)) (((DT.u ok M92 hd0 nd).2.2 t ht).2.2.2.2.2.2.2.2.2.2.2.1 k hk).2.1 ?_
        have okP := ok92
        refine w_callv4 d256_112 (by omega) rfl (ok92.kd hm) (by simp) (Nat.le_of_ble_eq_true rfl) ?_
        refine k_M_digestRow ok92 (by omega) hm DG rfl (((DT.u ok M92 hd0 nd).2.2 t ht).2.2.2.2.2.2.2.2.2.2.2.1 k hk).2.2.2 (ndT 1426 (by decide)) (fun h112 m112 q112 DG => ?_)
        have ok112 := m112.ok
        have M112 := Mo.tr ok M92 m112 (fun ζ e => (Or.inl e))
        have K112 := FK.tr (F := [1677, 1679, 1680]) K92 q112 (by decide)
        have PR := PR.f okP m112 q112 hm (fun z => nO z.symm)
        refine w_aload_n d256_115 rfl ?_
        refine w_bipush d256_116 (by decide) ?_
        have okP := ok112
        refine w_callv2 d256_118 (by omega) rfl (ok112.kd hm) (by simp) (Nat.le_of_ble_eq_true rfl) ?_
        refine k_M_digestByte (c := 10) ok112 (by omega) hm DG (fun h118 m118 q118 DG => ?_)
        have ok118 := m118.ok
        have M118 := Mo.tr ok M112 m118 (fun ζ e => (Or.inl e))
        have K118 := FK.tr (F := [1677, 1679, 1680]) K112 q118 (by decide)
        have PR := PR.f okP m118 q118 hm (fun z => nO z.symm)
        refine w_aload_n d256_121 rfl ?_
        refine w_iload_n d256_122 rfl ?_
        refine w_iload d256_123 rfl ?_
        refine w_callv3 d256_125 (by omega) rfl (ok118.kd hd0) (by simp) (Nat.le_of_ble_eq_true rfl) ?_
        refine k_D_fileAt ok118 (by omega) hd0 (DF.u ok M118 hd0 nd) (DT.u ok M118 hd0 nd) ht hk ?_
        refine w_istore6 d256_128 rfl ?_
        refine w_iload d256_130 rfl ?_
        refine w_iflt d256_132 (fun c132 => ?_) (fun c132 => ?_)
        · unfold fiT at c132; rw [if_neg q] at c132; omega
        · have ef : fiT fs ts t k = fix fs (inN (tgI (tD ts t)) k) := if_neg q
          have fr : fix fs (inN (tgI (tD ts t)) k) = -1 ∨ ∃ j, 0 ≤ j ∧ j < fs.length ∧ fix fs (inN (tgI (tD ts t)) k) = (j : Int) ∧ _ := srF_rg (p := fun i => fP fs i == inN (tgI (tD ts t)) k) (n := fs.length) (i := 0)
          obtain ⟨u, hul, hu⟩ : ∃ u : Nat, u < fs.length ∧ fix fs (inN (tgI (tD ts t)) k) = (u : Int) := by
            rcases fr with z | ⟨j, j1, j2, j3, j4⟩
            · omega
            · exact ⟨j, j2, j3⟩
          rw [hu] at ia
          rw [show ((u : Nat) : Int).toNat = u by omega] at ia
          rw [ef, hu]
          have hfl := DF.2.1
          refine w_aload_n d256_135 rfl ?_
          refine w_aload_n d256_136 rfl ?_
          refine w_dloadS d256_137 (ok118.kd hd0) (fr1411 ok118 hd0) ?_
          refine w_sipush d256_140 (by decide) ?_
          refine w_iload d256_143 rfl ?_
          refine w_imul d256_145 (by constructor <;> omega) ?_
          rw [show (160 : Int) * ((u : Nat) : Int) = ((160 * u : Nat) : Int) by omega]
          refine w_aload_n d256_146 rfl ?_
          refine w_dloadS d256_147 (ok118.kd hd0) (fr1412 ok118 hd0) ?_
          refine w_iload d256_150 rfl ?_
          refine w_ialoadV (x := ((fB fs u).length : Int)) d256_152 (gi1412 ok118 hd0 (by omega)) ((DF.u ok M118 hd0 nd).2.2 u hul).2.2.2.1 ?_
          have okP := ok118
          refine w_callv4 d256_153 (by omega) rfl (ok118.kd hm) (by simp) (Nat.le_of_ble_eq_true rfl) ?_
          refine k_M_digestRow ok118 (by omega) hm DG rfl ((DF.u ok M118 hd0 nd).2.2 u hul).2.2.2.2.2 (ndT 1411 (by decide)) (fun h153 m153 q153 DG => ?_)
          have ok153 := m153.ok
          have M153 := Mo.tr ok M118 m153 (fun ζ e => (Or.inl e))
          have K153 := FK.tr (F := [1677, 1679, 1680]) K118 q153 (by decide)
          have PR := PR.f okP m153 q153 hm (fun z => nO z.symm)
          refine w_goto d256_156 ?_
          refine w_aload_n d256_214 rfl ?_
          have DG2 : DgC h153 m ((if inB (tgI (tD ts t)) k = true then [116] else [102]) ++ (inN (tgI (tD ts t)) k ++ ([10] ++ (inpL fs ts (fun u => oV (bu u)) (tD ts t)).getD k []))) := by
            rw [ia]
            first | rw [if_pos q] | rw [if_neg q]
            simp only [List.nil_append, List.append_assoc] at DG ⊢
            exact DG
          refine w_callv1 d256_215 (by omega) rfl (ok153.kd hm) (by simp) (Nat.le_of_ble_eq_true rfl) ?_
          refine k_M_addPart ok153 (by omega) hm DG2 PR (by rw [pl]; omega) (fun h215 m215 q215 PR => ?_)
          have ok215 := m215.ok
          have M215 := Mo.tr ok M153 m215 (fun ζ q => q.elim ((fun ζ e => (Or.inl e)) ζ) ((fun ζ e => (Or.inr e)) ζ))
          have K215 := FK.tr (F := [1677, 1679, 1680]) K153 q215 (by decide)
          refine w_iinc4 d256_218 rfl (by constructor <;> omega) ?_
          refine w_goto d256_221 ?_
          rw [show ((k : Nat) : Int) + 1 = ((k + 1 : Nat) : Int) by omega]
          refine w_less ?_ (IH50 _ (by omega) h215 (k + 1) rfl M215 K215 (by omega) PR)
          exact ⟨Or.inr rfl, Or.inr rfl, Or.inr rfl, Or.inr rfl, Or.inr rfl, Or.inl rfl, Or.inl rfl, Or.inl rfl, trivial⟩
      · have q : inB (tgI (tD ts t)) k = true := by
          rcases Bool.eq_false_or_eq_true (inB (tgI (tD ts t)) k) with z | z
          · exact z
          · rw [z] at c82; exact absurd rfl c82
        rw [if_pos q] at nm ia
        have eb : (if inB (tgI (tD ts t)) k = true then [116] else [102]) = [116] := if_pos q
        refine w_bipush d256_85 (by decide) ?_
        refine w_goto d256_87 ?_
        have okP := ok71
        refine w_callv2 d256_92 (by omega) rfl (ok71.kd hm) (by simp) (Nat.le_of_ble_eq_true rfl) ?_
        refine k_M_digestByte (c := 116) ok71 (by omega) hm DG (fun h92 m92 q92 DG => ?_)
        have ok92 := m92.ok
        have M92 := Mo.tr ok M71 m92 (fun ζ e => (Or.inl e))
        have K92 := FK.tr (F := [1677, 1679, 1680]) K71 q92 (by decide)
        have PR := PR.f okP m92 q92 hm (fun z => nO z.symm)
        refine w_aload_n d256_95 rfl ?_
        refine w_aload_n d256_96 rfl ?_
        refine w_dloadS d256_97 (ok92.kd hd0) (fr1426 ok92 hd0) ?_
        refine w_bipush d256_100 (by decide) ?_
        refine w_iload d256_102 rfl ?_
        refine w_imul d256_104 (by constructor <;> omega) ?_
        rw [show (12 : Int) * (((6 * t + k) : Nat) : Int) = ((12 * (6 * t + k) : Nat) : Int) by omega]
        refine w_aload_n d256_105 rfl ?_
        refine w_dloadS d256_106 (ok92.kd hd0) (fr1427 ok92 hd0) ?_
        refine w_iload d256_109 rfl ?_
        refine w_ialoadV (x := ((inN (tgI (tD ts t)) k).length : Int)) d256_111 (gi1427 ok92 hd0 (by omega)) (((DT.u ok M92 hd0 nd).2.2 t ht).2.2.2.2.2.2.2.2.2.2.2.1 k hk).2.1 ?_
        have okP := ok92
        refine w_callv4 d256_112 (by omega) rfl (ok92.kd hm) (by simp) (Nat.le_of_ble_eq_true rfl) ?_
        refine k_M_digestRow ok92 (by omega) hm DG rfl (((DT.u ok M92 hd0 nd).2.2 t ht).2.2.2.2.2.2.2.2.2.2.2.1 k hk).2.2.2 (ndT 1426 (by decide)) (fun h112 m112 q112 DG => ?_)
        have ok112 := m112.ok
        have M112 := Mo.tr ok M92 m112 (fun ζ e => (Or.inl e))
        have K112 := FK.tr (F := [1677, 1679, 1680]) K92 q112 (by decide)
        have PR := PR.f okP m112 q112 hm (fun z => nO z.symm)
        refine w_aload_n d256_115 rfl ?_
        refine w_bipush d256_116 (by decide) ?_
        have okP := ok112
        refine w_callv2 d256_118 (by omega) rfl (ok112.kd hm) (by simp) (Nat.le_of_ble_eq_true rfl) ?_
        refine k_M_digestByte (c := 10) ok112 (by omega) hm DG (fun h118 m118 q118 DG => ?_)
        have ok118 := m118.ok
        have M118 := Mo.tr ok M112 m118 (fun ζ e => (Or.inl e))
        have K118 := FK.tr (F := [1677, 1679, 1680]) K112 q118 (by decide)
        have PR := PR.f okP m118 q118 hm (fun z => nO z.symm)
        refine w_aload_n d256_121 rfl ?_
        refine w_iload_n d256_122 rfl ?_
        refine w_iload d256_123 rfl ?_
        refine w_callv3 d256_125 (by omega) rfl (ok118.kd hd0) (by simp) (Nat.le_of_ble_eq_true rfl) ?_
        refine k_D_fileAt ok118 (by omega) hd0 (DF.u ok M118 hd0 nd) (DT.u ok M118 hd0 nd) ht hk ?_
        refine w_istore6 d256_128 rfl ?_
        refine w_iload d256_130 rfl ?_
        refine w_iflt d256_132 (fun c132 => ?_) (fun c132 => ?_)
        · have tr := tat_rg ts (inN (tgI (tD ts t)) k)
          obtain ⟨u, hu⟩ : ∃ u : Nat, tat ts (inN (tgI (tD ts t)) k) = (u : Int) := ⟨(tat ts (inN (tgI (tD ts t)) k)).toNat, by omega⟩
          rw [hu] at ia tr
          rw [show ((u : Nat) : Int).toNat = u by omega] at ia
          have htl := DT.2.1
          have hu14 : u < 14 := by omega
          refine w_aload_n d256_159 rfl ?_
          refine w_aload_n d256_160 rfl ?_
          refine w_iload_n d256_161 rfl ?_
          refine w_iload d256_162 rfl ?_
          refine w_callv3 d256_164 (by omega) rfl (ok118.kd hd0) (by simp) (Nat.le_of_ble_eq_true rfl) ?_
          refine k_D_targetAt ok118 (by omega) hd0 (DT.u ok M118 hd0 nd) ht hk ?_
          rw [show taT ts t k = tat ts (inN (tgI (tD ts t)) k) from if_pos q, hu]
          refine w_aaloadSN d256_167 (oth ok118 hm hof hu14).1 (oth ok118 hm hof hu14).2.1 ?_
          refine w_astore7 d256_168 rfl ?_
          refine w_aload_n d256_170 rfl ?_
          refine w_dloadS d256_171 (ok118.kd hd0) (fr1421 ok118 hd0) ?_
          refine w_iload_n d256_174 rfl ?_
          refine w_ialoadV (x := (rix (tgR (tD ts t)))) d256_175 (gi1421 ok118 hd0 (by omega)) ((((((DT.u ok M118 hd0 nd).2.2 t ht).2).2).2).2).1 ?_
          refine w_bipush d256_176 (by decide) ?_
          refine w_icmpne d256_178 (fun c178 => ?_) (fun c178 => ?_)
          · rw [if_neg (show ¬ rix (tgR (tD ts t)) = 7 by omega)] at ia
            refine w_aload_n d256_199 rfl ?_
            refine w_aload d256_200 rfl ?_
            refine w_dloadS d256_202 (ok118.kd (oth ok hm hof hu14).2.2.1) (fr1536 ok118 (oth ok hm hof hu14).2.2.1) ?_
            refine w_iconst d256_205 (by decide) ?_
            refine w_aload d256_206 rfl ?_
            refine w_getI (x := ((bu u).1.length : Int)) d256_208 (ok118.kd (oth ok hm hof hu14).2.2.1) ((OS.u ok M118 ek13 nb) u hu14).1 ?_
            have okP := ok118
            refine w_callv4 d256_211 (by omega) rfl (ok118.kd hm) (by simp) (Nat.le_of_ble_eq_true rfl) ?_
            refine k_M_digestRow ok118 (by omega) hm DG rfl ((OS.u ok M118 ek13 nb) u hu14).2.2.2.1 (neE 1536 (by decide) u hu14) (fun h211 m211 q211 DG => ?_)
            have ok211 := m211.ok
            have M211 := Mo.tr ok M118 m211 (fun ζ e => (Or.inl e))
            have K211 := FK.tr (F := [1677, 1679, 1680]) K118 q211 (by decide)
            have PR := PR.f okP m211 q211 hm (fun z => nO z.symm)
            refine w_aload_n d256_214 rfl ?_
            have DG2 : DgC h211 m ((if inB (tgI (tD ts t)) k = true then [116] else [102]) ++ (inN (tgI (tD ts t)) k ++ ([10] ++ (inpL fs ts (fun u => oV (bu u)) (tD ts t)).getD k []))) := by
              rw [ia]
              first | rw [if_pos q] | rw [if_neg q]
              simp only [List.nil_append, List.append_assoc] at DG ⊢
              exact DG
            refine w_callv1 d256_215 (by omega) rfl (ok211.kd hm) (by simp) (Nat.le_of_ble_eq_true rfl) ?_
            refine k_M_addPart ok211 (by omega) hm DG2 PR (by rw [pl]; omega) (fun h215 m215 q215 PR => ?_)
            have ok215 := m215.ok
            have M215 := Mo.tr ok M211 m215 (fun ζ q => q.elim ((fun ζ e => (Or.inl e)) ζ) ((fun ζ e => (Or.inr e)) ζ))
            have K215 := FK.tr (F := [1677, 1679, 1680]) K211 q215 (by decide)
            refine w_iinc4 d256_218 rfl (by constructor <;> omega) ?_
            refine w_goto d256_221 ?_
            rw [show ((k : Nat) : Int) + 1 = ((k + 1 : Nat) : Int) by omega]
            refine w_less ?_ (IH50 _ (by omega) h215 (k + 1) rfl M215 K215 (by omega) PR)
            exact ⟨Or.inr rfl, Or.inr rfl, Or.inr rfl, Or.inr rfl, Or.inr rfl, Or.inl rfl, Or.inl rfl, Or.inl rfl, trivial⟩
          · rw [if_pos (show rix (tgR (tD ts t)) = 7 by omega)] at ia
            refine w_aload_n d256_181 rfl ?_
            refine w_aload d256_182 rfl ?_
            refine w_dloadS d256_184 (ok118.kd (oth ok hm hof hu14).2.2.1) (fr1538 ok118 (oth ok hm hof hu14).2.2.1) ?_
            refine w_iconst d256_187 (by decide) ?_
            refine w_aload d256_188 rfl ?_
            refine w_getI (x := ((bu u).2.1.length : Int)) d256_190 (ok118.kd (oth ok hm hof hu14).2.2.1) ((OS.u ok M118 ek13 nb) u hu14).2.1 ?_
            have okP := ok118
            refine w_callv4 d256_193 (by omega) rfl (ok118.kd hm) (by simp) (Nat.le_of_ble_eq_true rfl) ?_
            refine k_M_digestRow ok118 (by omega) hm DG rfl ((OS.u ok M118 ek13 nb) u hu14).2.2.2.2.1 (neE 1538 (by decide) u hu14) (fun h193 m193 q193 DG => ?_)
            have ok193 := m193.ok
            have M193 := Mo.tr ok M118 m193 (fun ζ e => (Or.inl e))
            have K193 := FK.tr (F := [1677, 1679, 1680]) K118 q193 (by decide)
            have PR := PR.f okP m193 q193 hm (fun z => nO z.symm)
            refine w_goto d256_196 ?_
            refine w_aload_n d256_214 rfl ?_
            have DG2 : DgC h193 m ((if inB (tgI (tD ts t)) k = true then [116] else [102]) ++ (inN (tgI (tD ts t)) k ++ ([10] ++ (inpL fs ts (fun u => oV (bu u)) (tD ts t)).getD k []))) := by
              rw [ia]
              first | rw [if_pos q] | rw [if_neg q]
              simp only [List.nil_append, List.append_assoc] at DG ⊢
              exact DG
            refine w_callv1 d256_215 (by omega) rfl (ok193.kd hm) (by simp) (Nat.le_of_ble_eq_true rfl) ?_
            refine k_M_addPart ok193 (by omega) hm DG2 PR (by rw [pl]; omega) (fun h215 m215 q215 PR => ?_)
            have ok215 := m215.ok
            have M215 := Mo.tr ok M193 m215 (fun ζ q => q.elim ((fun ζ e => (Or.inl e)) ζ) ((fun ζ e => (Or.inr e)) ζ))
            have K215 := FK.tr (F := [1677, 1679, 1680]) K193 q215 (by decide)
            refine w_iinc4 d256_218 rfl (by constructor <;> omega) ?_
            refine w_goto d256_221 ?_
            rw [show ((k : Nat) : Int) + 1 = ((k + 1 : Nat) : Int) by omega]
            refine w_less ?_ (IH50 _ (by omega) h215 (k + 1) rfl M215 K215 (by omega) PR)
            exact ⟨Or.inr rfl, Or.inr rfl, Or.inr rfl, Or.inr rfl, Or.inr rfl, Or.inl rfl, Or.inl rfl, Or.inl rfl, trivial⟩
        · unfold fiT at c132; rw [if_pos q] at c132; omega
  refine w_less ?_ (L50 _ h44 0 rfl M44 K44 (Nat.zero_le _) PR)
  exact ⟨Or.inr rfl, Or.inr rfl, Or.inr rfl, Or.inr rfl, Or.inr rfl, Or.inl rfl, Or.inl rfl, Or.inl rfl, trivial⟩
