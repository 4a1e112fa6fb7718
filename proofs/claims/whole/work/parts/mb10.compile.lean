/-! the reference: compile -/
def wtL (ys : List (List Nat)) : Nat := (ys.map fun y => y.length + 1).sum
theorem wtL_take (ys : List (List Nat)) (j : Nat) : wtL (ys.take j) ≤ wtL ys := by
  have e : wtL ys = wtL (ys.take j) + wtL (ys.drop j) := by
    unfold wtL
    rw [← List.sum_append, ← List.map_append, List.take_append_drop]
  omega
theorem wtL_succ {ys : List (List Nat)} {j : Nat} (h : j < ys.length) : wtL (ys.take (j + 1)) = wtL (ys.take j) + ((ys.getD j []).length + 1) := by
  unfold wtL
  rw [List.take_succ, List.map_append, List.sum_append, List.getElem?_eq_getElem h, List.getD_eq_getElem?_getD, List.getElem?_eq_getElem h]
  simp
theorem wtL_lns (x : List Nat) : ∀ (n f : Nat), x.length - f = n → f ≤ x.length → wtL (lns (x.drop f)) ≤ x.length - f + 1 := by
  intro n
  induction n using Nat.strongRecOn with | ind n IH => ?_
  intro f hn hf
  rcases Nat.lt_or_ge f x.length with q | q
  · rw [lns_at q]
    have g := lineE_ge x f
    have l := lineE_le (l := x) (i := f) hf
    have sn := sl_len (l := x) (f := f) (e := lineE x f) ⟨g, l⟩
    show (sl x f (lineE x f)).length + 1 + wtL (lns (x.drop (lineE x f + 1))) ≤ _
    rcases Nat.lt_or_ge (lineE x f) x.length with u | u
    · have := IH (x.length - (lineE x f + 1)) (by omega) (lineE x f + 1) rfl (by omega)
      omega
    · rw [lns_end (by omega)]
      have : wtL [] = 0 := rfl
      omega
  · rw [lns_end q]
    have : wtL [] = 0 := rfl
    omega
theorem rfK_len {y : List Nat} {n : Nat} (h : rfK y 0 y.length n = true) : 3 ≤ y.length := by
  have c := of_decide_eq_true h
  have a := c.2.1
  rw [atvI] at a
  by_cases z : wordE y 0 8 48 < y.length
  · have := (numE_rg (l := y) (a := wordE y 0 8 48 + 1) (by omega)).1
    omega
  · rw [if_neg z] at a; omega
theorem srR_len {y : List Nat} {ss : List SrV} {fs : List FaV} (hy : ∀ j, y.getD j 0 < 256) (h : (srR y 0 y.length ss fs).1 = true) : (srR y 0 y.length ss fs).2.length = ss.length ∨ ((srR y 0 y.length ss fs).2.length = ss.length + 1 ∧ 3 ≤ y.length) := by
  have ol := opF_le hy
  by_cases c : y.length = 0
  · refine Or.inl ?_
    unfold srR
    rw [if_pos (by omega)]
  by_cases d : wordE y (opF y 0) 8 48 = opF y 0 ∨ atv y (wordE y (opF y 0) 8 48 : Nat) ≠ 61 ∨ 0 ≤ sAt ss (srN y 0) ∨ 246 ≤ ss.length
  · rw [srR_b1 (by omega) d] at h
    exact absurd h (by simp)
  · cases hr : rsG ss fs y y.length (wordE y (opF y 0) 8 48) (y.length + 1) (wordE y (opF y 0) 8 48) 0 0 with
    | none =>
      rw [srR_b2 (by omega) hr] at h
      exact absurd h (by simp)
    | some z =>
      have e := srR_g (s := z.1) (q := z.2) (by omega) d hr
      refine Or.inr ⟨by rw [e]; simp, ?_⟩
      have wr := wordE_rg (l := y) (a := opF y 0) (m := 8) (lo := 48) ol
      have a : atv y (wordE y (opF y 0) 8 48 : Nat) = 61 := by
        by_cases u : atv y (wordE y (opF y 0) 8 48 : Nat) = 61
        · exact u
        · exact absurd (Or.inr (Or.inl u)) d
      have w0 : wordE y (opF y 0) 8 48 ≠ opF y 0 := fun u => d (Or.inl u)
      have lt : wordE y (opF y 0) 8 48 < y.length := by
        rw [atvI] at a
        by_cases u : wordE y (opF y 0) 8 48 < y.length
        · exact u
        · rw [if_neg u] at a; omega
      have ra : rsA y (wordE y (opF y 0) 8 48) ≠ wordE y (opF y 0) 8 48 + 1 := fun u => by
        rw [rsG_bad lt (Or.inl u)] at hr
        exact absurd hr (by simp)
      have := rsA_ge (y := y) (p := wordE y (opF y 0) 8 48) (by omega)
      omega
theorem sl_flat {ins : List (List Nat)} {k : Nat} (h : k < ins.length) : sl ins.flatten (ins.take k).flatten.length (ins.take (k + 1)).flatten.length = ins.getD k [] := by
  have e : ins.flatten = (ins.take k).flatten ++ (ins.getD k [] ++ (ins.drop (k + 1)).flatten) := by
    conv => lhs; rw [← List.take_append_drop k ins, dropL h]
    rw [List.flatten_append, List.flatten_cons]
  rw [e, flt_succ h, List.length_append]
  unfold sl
  rw [List.drop_left, Nat.add_sub_cancel_left, List.take_left]
theorem flt_tot {ins : List (List Nat)} {k : Nat} : (ins.take k).flatten.length ≤ ins.flatten.length := by
  conv => rhs; rw [← List.take_append_drop k ins]
  rw [List.flatten_append, List.length_append]
  omega
/-- how far a line of the input may go -/
def CmB (b : Bool) (ys : List (List Nat)) (j : Nat) (ss ss2 : List SrV) (fs fs2 : List FaV) : Prop := 4 * ss2.length ≤ 4 * ss.length + wtL (ys.take j) ∧ 4 * fs2.length ≤ 4 * fs.length + wtL (ys.take j) ∧ (b = true → ss2.length = ss.length) ∧ (b = false → fs2.length = fs.length)
/-- a source's row -/
def SiR (S : Shp) (h : Hp) (m i a n v : Nat) (p : Bool) : Prop := AI h (sT S 1689 m) i = (a : Nat) ∧ AI h (sT S 1690 m) i = (n : Nat) ∧ AI h (sT S 1691 m) i = (v : Nat) ∧ AI h (sT S 1692 m) i = b2i p
theorem SiR.r {S : Shp} {m i a n v : Nat} {p : Bool} {F : List Nat} {h h' : Hp} (D : SiR S h m i a n v p) (fr : Fr S m F h h') (hm : sK S m = 14) (h1 : 1689 ∉ F ∧ 1690 ∉ F ∧ 1691 ∉ F ∧ 1692 ∉ F ∧ ltF4 F := by decide) : SiR S h' m i a n v p := by
  unfold SiR
  rw [fr.ai (by have := kT1689 fr.1 hm; omega) (by decide) h1.1 h1.2.2.2.2, fr.ai (by have := kT1690 fr.1 hm; omega) (by decide) h1.2.1 h1.2.2.2.2, fr.ai (by have := kT1691 fr.1 hm; omega) (by decide) h1.2.2.1 h1.2.2.2.2, fr.ai (by have := kT1692 fr.1 hm; omega) (by decide) h1.2.2.2.1 h1.2.2.2.2]
  exact D
theorem wsT_s {ss : List SrV} {o : Bool} {i : Nat} : wsT ss o (i + 1) = wsT ss o i ++ (if o = true ∧ sO ss i = false then [] else nmB (sN ss i) 8 ++ ([61] ++ (dec (sV ss i) ++ [10]))) := rfl
theorem ws_step {ss : List SrV} {i fr c : Nat} {X : List Nat} (hX : X.length ≤ fr ∧ ((wsT ss false i).length ≤ 600 → X = wsT ss true i)) (hfr : ((wsT ss false i).take 600).length = fr) (hc : fr ≤ c ∧ c ≤ ((wsT ss false (i + 1)).take 600).length) (hp : sO ss i = false → c = fr) (he : sO ss i = true → c = ((wsT ss false (i + 1)).take 600).length) : (X ++ sl ((wsT ss false (i + 1)).take 600) fr c).length ≤ ((wsT ss false (i + 1)).take 600).length ∧ ((wsT ss false (i + 1)).length ≤ 600 → X ++ sl ((wsT ss false (i + 1)).take 600) fr c = wsT ss true (i + 1)) := by
  refine ⟨by rw [List.length_append, sl_len hc]; omega, fun h6 => ?_⟩
  have ws := wsT_s (ss := ss) (o := false) (i := i)
  rw [if_neg (by simp)] at ws
  have la : (wsT ss false i).length ≤ 600 := by rw [ws, List.length_append] at h6; omega
  rw [List.take_of_length_le la] at hfr
  rw [List.take_of_length_le h6] at hc he ⊢
  rw [hX.2 la, wsT_s (o := true)]
  cases hz : sO ss i with
  | false => rw [hp hz, sl_nil, if_pos ⟨rfl, rfl⟩]
  | true =>
    rw [he hz, if_neg (by simp), ws, ← hfr]
    congr 1
    unfold sl
    rw [List.drop_left, List.length_append, Nat.add_sub_cancel_left, List.take_length]
theorem d268_0 : dc 268 0 = some (.aload_n 0, 1) := by decide +kernel
theorem d268_1 : dc 268 1 = some (.iconst 0, 2) := by decide +kernel
theorem d268_2 : dc 268 2 = some (.putfield 1693, 5) := by decide +kernel
theorem d268_5 : dc 268 5 = some (.aload_n 0, 6) := by decide +kernel
theorem d268_6 : dc 268 6 = some (.iconst 0, 7) := by decide +kernel
theorem d268_7 : dc 268 7 = some (.putfield 1697, 10) := by decide +kernel
theorem d268_10 : dc 268 10 = some (.iconst 0, 11) := by decide +kernel
theorem d268_11 : dc 268 11 = some (.istore_n 3, 12) := by decide +kernel
theorem d268_12 : dc 268 12 = some (.iload_n 3, 13) := by decide +kernel
theorem d268_13 : dc 268 13 = some (.aload_n 1, 14) := by decide +kernel
theorem d268_14 : dc 268 14 = some (.dload 1424, 17) := by decide +kernel
theorem d268_17 : dc 268 17 = some (.iload_n 2, 18) := by decide +kernel
theorem d268_18 : dc 268 18 = some (.iaload, 19) := by decide +kernel
theorem d268_19 : dc 268 19 = some (.if_icmp .ge ((169 : Nat) : Int), 22) := by decide +kernel
theorem d268_22 : dc 268 22 = some (.aload_n 0, 23) := by decide +kernel
theorem d268_23 : dc 268 23 = some (.iconst 0, 24) := by decide +kernel
theorem d268_24 : dc 268 24 = some (.putfield 1688, 27) := by decide +kernel
theorem d268_27 : dc 268 27 = some (.aload_n 0, 28) := by decide +kernel
theorem d268_28 : dc 268 28 = some (.aload_n 0, 29) := by decide +kernel
theorem d268_29 : dc 268 29 = some (.dload 1684, 32) := by decide +kernel
theorem d268_32 : dc 268 32 = some (.iload_n 3, 33) := by decide +kernel
theorem d268_33 : dc 268 33 = some (.iaload, 34) := by decide +kernel
theorem d268_34 : dc 268 34 = some (.aload_n 0, 35) := by decide +kernel
theorem d268_35 : dc 268 35 = some (.dload 1684, 38) := by decide +kernel
theorem d268_38 : dc 268 38 = some (.iload_n 3, 39) := by decide +kernel
theorem d268_39 : dc 268 39 = some (.iconst 1, 40) := by decide +kernel
theorem d268_40 : dc 268 40 = some (.iadd, 41) := by decide +kernel
theorem d268_41 : dc 268 41 = some (.iaload, 42) := by decide +kernel
theorem d268_42 : dc 268 42 = some (.invokevirtual 269, 45) := by decide +kernel
theorem d268_45 : dc 268 45 = some (.iconst 0, 46) := by decide +kernel
theorem d268_46 : dc 268 46 = some (.istore 4, 48) := by decide +kernel
theorem d268_48 : dc 268 48 = some (.iload 4, 50) := by decide +kernel
theorem d268_50 : dc 268 50 = some (.aload_n 0, 51) := by decide +kernel
theorem d268_51 : dc 268 51 = some (.getfield 1688, 54) := by decide +kernel
theorem d268_54 : dc 268 54 = some (.if_icmp .ge ((163 : Nat) : Int), 57) := by decide +kernel
theorem d268_57 : dc 268 57 = some (.aload_n 1, 58) := by decide +kernel
theorem d268_58 : dc 268 58 = some (.dload 1425, 61) := by decide +kernel
theorem d268_61 : dc 268 61 = some (.bipush 6, 63) := by decide +kernel
theorem d268_63 : dc 268 63 = some (.iload_n 2, 64) := by decide +kernel
theorem d268_64 : dc 268 64 = some (.imul, 65) := by decide +kernel
theorem d268_65 : dc 268 65 = some (.iload_n 3, 66) := by decide +kernel
theorem d268_66 : dc 268 66 = some (.iadd, 67) := by decide +kernel
theorem d268_67 : dc 268 67 = some (.baload, 68) := by decide +kernel
theorem d268_68 : dc 268 68 = some (.ifCond .eq ((92 : Nat) : Int), 71) := by decide +kernel
theorem d268_71 : dc 268 71 = some (.aload_n 0, 72) := by decide +kernel
theorem d268_72 : dc 268 72 = some (.aload_n 0, 73) := by decide +kernel
theorem d268_73 : dc 268 73 = some (.dload 1686, 76) := by decide +kernel
theorem d268_76 : dc 268 76 = some (.iload 4, 78) := by decide +kernel
theorem d268_78 : dc 268 78 = some (.iaload, 79) := by decide +kernel
theorem d268_79 : dc 268 79 = some (.aload_n 0, 80) := by decide +kernel
theorem d268_80 : dc 268 80 = some (.dload 1687, 83) := by decide +kernel
theorem d268_83 : dc 268 83 = some (.iload 4, 85) := by decide +kernel
theorem d268_85 : dc 268 85 = some (.iaload, 86) := by decide +kernel
theorem d268_86 : dc 268 86 = some (.invokevirtual 271, 89) := by decide +kernel
theorem d268_89 : dc 268 89 = some (.goto ((110 : Nat) : Int), 92) := by decide +kernel
theorem d268_92 : dc 268 92 = some (.aload_n 0, 93) := by decide +kernel
theorem d268_93 : dc 268 93 = some (.aload_n 0, 94) := by decide +kernel
theorem d268_94 : dc 268 94 = some (.dload 1686, 97) := by decide +kernel
theorem d268_97 : dc 268 97 = some (.iload 4, 99) := by decide +kernel
theorem d268_99 : dc 268 99 = some (.iaload, 100) := by decide +kernel
theorem d268_100 : dc 268 100 = some (.aload_n 0, 101) := by decide +kernel
theorem d268_101 : dc 268 101 = some (.dload 1687, 104) := by decide +kernel
theorem d268_104 : dc 268 104 = some (.iload 4, 106) := by decide +kernel
theorem d268_106 : dc 268 106 = some (.iaload, 107) := by decide +kernel
theorem d268_107 : dc 268 107 = some (.invokevirtual 276, 110) := by decide +kernel
theorem d268_110 : dc 268 110 = some (.istore 5, 112) := by decide +kernel
theorem d268_112 : dc 268 112 = some (.iload 5, 114) := by decide +kernel
theorem d268_114 : dc 268 114 = some (.ifCond .eq ((120 : Nat) : Int), 117) := by decide +kernel
theorem d268_117 : dc 268 117 = some (.goto ((157 : Nat) : Int), 120) := by decide +kernel
theorem d268_120 : dc 268 120 = some (.aload_n 0, 121) := by decide +kernel
theorem d268_121 : dc 268 121 = some (.dload 1683, 124) := by decide +kernel
theorem d268_124 : dc 268 124 = some (.getstatic 77, 127) := by decide +kernel
theorem d268_127 : dc 268 127 = some (.invokevirtual 253, 130) := by decide +kernel
theorem d268_130 : dc 268 130 = some (.aload_n 0, 131) := by decide +kernel
theorem d268_131 : dc 268 131 = some (.dload 1683, 134) := by decide +kernel
theorem d268_134 : dc 268 134 = some (.iload_n 3, 135) := by decide +kernel
theorem d268_135 : dc 268 135 = some (.invokevirtual 281, 138) := by decide +kernel
theorem d268_138 : dc 268 138 = some (.aload_n 0, 139) := by decide +kernel
theorem d268_139 : dc 268 139 = some (.dload 1683, 142) := by decide +kernel
theorem d268_142 : dc 268 142 = some (.bipush 32, 144) := by decide +kernel
theorem d268_144 : dc 268 144 = some (.invokevirtual 255, 147) := by decide +kernel
theorem d268_147 : dc 268 147 = some (.aload_n 0, 148) := by decide +kernel
theorem d268_148 : dc 268 148 = some (.dload 1683, 151) := by decide +kernel
theorem d268_151 : dc 268 151 = some (.iload 4, 153) := by decide +kernel
theorem d268_153 : dc 268 153 = some (.invokevirtual 281, 156) := by decide +kernel
theorem d268_156 : dc 268 156 = some (.return_, 157) := by decide +kernel
theorem d268_157 : dc 268 157 = some (.iinc 4 1, 160) := by decide +kernel
theorem d268_160 : dc 268 160 = some (.goto ((48 : Nat) : Int), 163) := by decide +kernel
theorem d268_163 : dc 268 163 = some (.iinc 3 1, 166) := by decide +kernel
theorem d268_166 : dc 268 166 = some (.goto ((12 : Nat) : Int), 169) := by decide +kernel
theorem d268_169 : dc 268 169 = some (.iconst 0, 170) := by decide +kernel
theorem d268_170 : dc 268 170 = some (.istore_n 3, 171) := by decide +kernel
theorem d268_171 : dc 268 171 = some (.iload_n 3, 172) := by decide +kernel
theorem d268_172 : dc 268 172 = some (.aload_n 0, 173) := by decide +kernel
theorem d268_173 : dc 268 173 = some (.getfield 1693, 176) := by decide +kernel
theorem d268_176 : dc 268 176 = some (.if_icmp .ge ((323 : Nat) : Int), 179) := by decide +kernel
theorem d268_179 : dc 268 179 = some (.aload_n 0, 180) := by decide +kernel
theorem d268_180 : dc 268 180 = some (.dload 1683, 183) := by decide +kernel
theorem d268_183 : dc 268 183 = some (.getfield 1537, 186) := by decide +kernel
theorem d268_186 : dc 268 186 = some (.istore 4, 188) := by decide +kernel
theorem d268_188 : dc 268 188 = some (.iconst 0, 189) := by decide +kernel
theorem d268_189 : dc 268 189 = some (.istore 5, 191) := by decide +kernel
theorem d268_191 : dc 268 191 = some (.iload 5, 193) := by decide +kernel
theorem d268_193 : dc 268 193 = some (.aload_n 0, 194) := by decide +kernel
theorem d268_194 : dc 268 194 = some (.dload 1690, 197) := by decide +kernel
theorem d268_197 : dc 268 197 = some (.iload_n 3, 198) := by decide +kernel
theorem d268_198 : dc 268 198 = some (.iaload, 199) := by decide +kernel
theorem d268_199 : dc 268 199 = some (.if_icmp .ge ((226 : Nat) : Int), 202) := by decide +kernel
theorem d268_202 : dc 268 202 = some (.aload_n 0, 203) := by decide +kernel
theorem d268_203 : dc 268 203 = some (.aload_n 0, 204) := by decide +kernel
theorem d268_204 : dc 268 204 = some (.dload 1681, 207) := by decide +kernel
theorem d268_207 : dc 268 207 = some (.aload_n 0, 208) := by decide +kernel
theorem d268_208 : dc 268 208 = some (.dload 1689, 211) := by decide +kernel
theorem d268_211 : dc 268 211 = some (.iload_n 3, 212) := by decide +kernel
theorem d268_212 : dc 268 212 = some (.iaload, 213) := by decide +kernel
theorem d268_213 : dc 268 213 = some (.iload 5, 215) := by decide +kernel
theorem d268_215 : dc 268 215 = some (.iadd, 216) := by decide +kernel
theorem d268_216 : dc 268 216 = some (.iaload, 217) := by decide +kernel
theorem d268_217 : dc 268 217 = some (.invokevirtual 282, 220) := by decide +kernel
theorem d268_220 : dc 268 220 = some (.iinc 5 1, 223) := by decide +kernel
theorem d268_223 : dc 268 223 = some (.goto ((191 : Nat) : Int), 226) := by decide +kernel
theorem d268_226 : dc 268 226 = some (.aload_n 0, 227) := by decide +kernel
theorem d268_227 : dc 268 227 = some (.bipush 61, 229) := by decide +kernel
theorem d268_229 : dc 268 229 = some (.invokevirtual 282, 232) := by decide +kernel
theorem d268_232 : dc 268 232 = some (.aload_n 0, 233) := by decide +kernel
theorem d268_233 : dc 268 233 = some (.aload_n 0, 234) := by decide +kernel
theorem d268_234 : dc 268 234 = some (.dload 1691, 237) := by decide +kernel
theorem d268_237 : dc 268 237 = some (.iload_n 3, 238) := by decide +kernel
theorem d268_238 : dc 268 238 = some (.iaload, 239) := by decide +kernel
theorem d268_239 : dc 268 239 = some (.invokevirtual 283, 242) := by decide +kernel
theorem d268_242 : dc 268 242 = some (.aload_n 0, 243) := by decide +kernel
theorem d268_243 : dc 268 243 = some (.bipush 10, 245) := by decide +kernel
theorem d268_245 : dc 268 245 = some (.invokevirtual 282, 248) := by decide +kernel
theorem d268_248 : dc 268 248 = some (.iload 4, 250) := by decide +kernel
theorem d268_250 : dc 268 250 = some (.istore 5, 252) := by decide +kernel
theorem d268_252 : dc 268 252 = some (.iload 5, 254) := by decide +kernel
theorem d268_254 : dc 268 254 = some (.aload_n 0, 255) := by decide +kernel
theorem d268_255 : dc 268 255 = some (.dload 1683, 258) := by decide +kernel
theorem d268_258 : dc 268 258 = some (.getfield 1537, 261) := by decide +kernel
theorem d268_261 : dc 268 261 = some (.if_icmp .ge ((317 : Nat) : Int), 264) := by decide +kernel
theorem d268_264 : dc 268 264 = some (.aload_n 0, 265) := by decide +kernel
theorem d268_265 : dc 268 265 = some (.dload 1692, 268) := by decide +kernel
theorem d268_268 : dc 268 268 = some (.iload_n 3, 269) := by decide +kernel
theorem d268_269 : dc 268 269 = some (.baload, 270) := by decide +kernel
theorem d268_270 : dc 268 270 = some (.ifCond .eq ((317 : Nat) : Int), 273) := by decide +kernel
theorem d268_273 : dc 268 273 = some (.aload_n 0, 274) := by decide +kernel
theorem d268_274 : dc 268 274 = some (.dload 1683, 277) := by decide +kernel
theorem d268_277 : dc 268 277 = some (.dload 1538, 280) := by decide +kernel
theorem d268_280 : dc 268 280 = some (.aload_n 0, 281) := by decide +kernel
theorem d268_281 : dc 268 281 = some (.dload 1683, 284) := by decide +kernel
theorem d268_284 : dc 268 284 = some (.getfield 1539, 287) := by decide +kernel
theorem d268_287 : dc 268 287 = some (.aload_n 0, 288) := by decide +kernel
theorem d268_288 : dc 268 288 = some (.dload 1683, 291) := by decide +kernel
theorem d268_291 : dc 268 291 = some (.dload 1536, 294) := by decide +kernel
theorem d268_294 : dc 268 294 = some (.iload 5, 296) := by decide +kernel
theorem d268_296 : dc 268 296 = some (.iaload, 297) := by decide +kernel
theorem d268_297 : dc 268 297 = some (.iastore, 298) := by decide +kernel
theorem d268_298 : dc 268 298 = some (.aload_n 0, 299) := by decide +kernel
theorem d268_299 : dc 268 299 = some (.dload 1683, 302) := by decide +kernel
theorem d268_302 : dc 268 302 = some (.dup, 303) := by decide +kernel
theorem d268_303 : dc 268 303 = some (.getfield 1539, 306) := by decide +kernel
theorem d268_306 : dc 268 306 = some (.iconst 1, 307) := by decide +kernel
theorem d268_307 : dc 268 307 = some (.iadd, 308) := by decide +kernel
theorem d268_308 : dc 268 308 = some (.putfield 1539, 311) := by decide +kernel
theorem d268_311 : dc 268 311 = some (.iinc 5 1, 314) := by decide +kernel
theorem d268_314 : dc 268 314 = some (.goto ((252 : Nat) : Int), 317) := by decide +kernel
theorem d268_317 : dc 268 317 = some (.iinc 3 1, 320) := by decide +kernel
theorem d268_320 : dc 268 320 = some (.goto ((171 : Nat) : Int), 323) := by decide +kernel
theorem d268_323 : dc 268 323 = some (.return_, 324) := by decide +kernel
theorem k_M_compile {S : Shp} {G : Nat → Option Nat} {d : Nat} {h : Hp} {Q : Option MV → Hp → Prop} {m : Nat} {t : Nat} {fd : Nat} {P0 : PlV} {l : List Nat} {ins : List (List Nat)} (ok : Ok S h) (h1 : 12 ≤ d) (hm : sK S m = 14) (MK : MkR S h m [] []) (AL : AlR S h m l) (BG : BgR S h m (fun k => (ins.take k).flatten.length) ((tgI (tD P0.2.2 t)).length + 1)) (DP : DfC S h (sT S fd m) P0) (tg : Tg S G) (hfd : fd = 1664 ∨ fd = 1665) (ht : t < P0.2.2.length) (hl : l = ins.flatten) (hil : ins.length = (tgI (tD P0.2.2 t)).length) (hi6 : ∀ k, k < ins.length → (ins.getD k []).length ≤ 600) (hi1 : ∀ k, k < ins.length → inB (tgI (tD P0.2.2 t)) k = false → (ins.getD k []).length ≤ 160)
    (k1 : ∀ h' z, Fr S m [1683, 1685, 1686, 1687, 1688, 1698, 1699, 1700, 1689, 1690, 1691, 1692, 1693, 1694, 1695, 1696, 1697] h h' → (cmW (tD P0.2.2 t) ins).1 = some z → OmC S h' (sT S 1683 m) ([], [], badT (some z)) → Q none h') (kk : ∀ h' X, Fr S m [1683, 1685, 1686, 1687, 1688, 1698, 1699, 1700, 1689, 1690, 1691, 1692, 1693, 1694, 1695, 1696, 1697] h h' → (cmW (tD P0.2.2 t) ins).1 = none → MkR S h' m (wsT (cmW (tD P0.2.2 t) ins).2.1 false (cmW (tD P0.2.2 t) ins).2.1.length) X → ((wsT (cmW (tD P0.2.2 t) ins).2.1 false (cmW (tD P0.2.2 t) ins).2.1.length).length ≤ 600 → X = wsT (cmW (tD P0.2.2 t) ins).2.1 true (cmW (tD P0.2.2 t) ins).2.1.length) → Q none h') : Cl G d 268 [vR (some m), vR (some (sT S fd m)), vI (t : Nat)] h Q := by
  show Wp G d 268 0 [some (vR (some m)), some (vR (some (sT S fd m))), some (vI (t : Nat)), none, none, none] [] h Q
  have MK_0 := MK
  have AL_0 := AL
  have BG_0 := BG
  have DP_0 := DP
  have ht14 : t < 14 := by have := DP.2.2.2.1; omega
  have l3 : l.length ≤ 3600 := by have sl := sLT ok (f := 1681) (n := 3600) hm (by decide) rfl (by decide); have := AL.2.2.1; omega
  have n6 : (tgI (tD P0.2.2 t)).length ≤ 6 := (DP.2.2.2.2 t ht).2.2.2.2.2.2.2.2.2.2.1
  refine w_aload_n d268_0 rfl ?_
  refine w_iconst d268_1 (by decide) ?_
  refine wf1693 d268_2 ok hm (by omega) (fun h2 e2 m2 => ?_)
  have f2 : Fr S m [1693] _ _ := Fr.wF ok m2 (FK.pI e2)
  have ok2 := f2.ok
  have FR2 := Fr.le (F := [1683, 1685, 1686, 1687, 1688, 1698, 1699, 1700, 1689, 1690, 1691, 1692, 1693, 1694, 1695, 1696, 1697]) f2 (by decide)
  have MK := MK.r f2 hm
  have AL := AL.r f2 hm
  have BG := BG.r f2 hm
  have DP := DfC.r (f := fd) f2 hm (by rcases hfd with rfl | rfl <;> decide) DP
  have SR : SrM S h2 m l [] := ⟨by rw [e2, FI_sFI, if_pos ⟨rfl, rfl⟩]; rfl, by decide, fun k hk => absurd hk (Nat.not_lt_zero _)⟩
  refine w_aload_n d268_5 rfl ?_
  refine w_iconst d268_6 (by decide) ?_
  refine wf1697 d268_7 ok2 hm (by omega) (fun h7 e7 m7 => ?_)
  have f7 : Fr S m [1697] _ _ := Fr.wF ok2 m7 (FK.pI e7)
  have ok7 := f7.ok
  have FR7 := Fr.tr (F := [1683, 1685, 1686, 1687, 1688, 1698, 1699, 1700, 1689, 1690, 1691, 1692, 1693, 1694, 1695, 1696, 1697]) FR2 f7 (by decide) (by decide)
  have MK := MK.r f7 hm
  have AL := AL.r f7 hm
  have BG := BG.r f7 hm
  have DP := DfC.r (f := fd) f7 hm (by rcases hfd with rfl | rfl <;> decide) DP
  have SR := SR.r f7 hm
  have FC : FcM S h7 m l [] := ⟨by rw [e7, FI_sFI, if_pos ⟨rfl, rfl⟩]; rfl, by decide, fun k hk => absurd hk (Nat.not_lt_zero _)⟩
  refine w_iconst d268_10 (by decide) ?_
  refine w_istore3 d268_11 rfl ?_
  have L12 : ∀ (m12 : Nat) (g12 : Hp) (k : Nat) (ss : List SrV) (fs : List FaV), (tgI (tD P0.2.2 t)).length - k = m12 → Fr S m [1683, 1685, 1686, 1687, 1688, 1698, 1699, 1700, 1689, 1690, 1691, 1692, 1693, 1694, 1695, 1696, 1697] h g12 → (k ≤ (tgI (tD P0.2.2 t)).length) → (SrM S g12 m l ss) → (FcM S g12 m l fs) → (cmG (tD P0.2.2 t) ins ((tgI (tD P0.2.2 t)).length - k) k ss fs = cmW (tD P0.2.2 t) ins) → (ss.length ≤ 40 * k ∧ fs.length ≤ 150 * k) → (MkR S g12 m [] []) → Wp G d 268 12 [some (vR (some m)), some (vR (some (sT S fd m))), some (vI (t : Nat)), some (vI (k : Nat)), none, none] [] g12 Q := by
    intro m12
    induction m12 using Nat.strongRecOn with | ind m12 IH12 => ?_
    intro g12 k ss fs hm12 FRg12 kl SR FC hg hsf MK
    have okg12 := FRg12.ok
    have AL := AL_0.r FRg12 hm
    have BG := BG_0.r FRg12 hm
    have DP := DfC.r (f := fd) FRg12 hm (by rcases hfd with rfl | rfl <;> decide) DP_0
    refine w_iload_n d268_12 rfl ?_
    refine w_aload_n d268_13 rfl ?_
    refine w_dloadS d268_14 (okg12.kd (hdK ok hm hfd)) (fr1424 okg12 (hdK ok hm hfd)) ?_
    refine w_iload_n d268_17 rfl ?_
    refine w_ialoadV (x := ((tgI (tD P0.2.2 t)).length : Int)) d268_18 (gi1424 okg12 (hdK ok hm hfd) (by omega)) (DP.2.2.2.2 t ht).2.2.2.2.2.2.2.2.2.1 ?_
    refine w_icmpge d268_19 (fun c19 => ?_) (fun c19 => ?_)
    · have ek : k = (tgI (tD P0.2.2 t)).length := by omega
      have cw : cmW (tD P0.2.2 t) ins = (none, ss, fs) := by rw [← hg, show (tgI (tD P0.2.2 t)).length - k = 0 by omega]; rfl
      rw [cw] at kk
      refine w_iconst d268_169 (by decide) ?_
      refine w_istore3 d268_170 rfl ?_
      have L171 : ∀ (m171 : Nat) (g171 : Hp) (i : Nat) (X : List Nat), ss.length - i = m171 → Fr S m [1683, 1685, 1686, 1687, 1688, 1698, 1699, 1700, 1689, 1690, 1691, 1692, 1693, 1694, 1695, 1696, 1697] h g171 → (i ≤ ss.length) → (MkR S g171 m (wsT ss false i) X) → (X.length ≤ ((wsT ss false i).take 600).length ∧ ((wsT ss false i).length ≤ 600 → X = wsT ss true i)) → (SrM S g171 m l ss) → Wp G d 268 171 [some (vR (some m)), some (vR (some (sT S fd m))), some (vI (t : Nat)), some (vI (i : Nat)), none, none] [] g171 Q := by
        intro m171
        induction m171 using Nat.strongRecOn with | ind m171 IH171 => ?_
        intro g171 i X hm171 FRg171 il MK hX SR
        have okg171 := FRg171.ok
        have AL := AL_0.r FRg171 hm
        have BG := BG_0.r FRg171 hm
        have DP := DfC.r (f := fd) FRg171 hm (by rcases hfd with rfl | rfl <;> decide) DP_0
        have nss := SR.2.1
        refine w_iload_n d268_171 rfl ?_
        refine w_aload_n d268_172 rfl ?_
        refine w_getI (x := ((ss.length : Nat) : Int)) d268_173 (okg171.kd hm) SR.1 ?_
        refine w_icmpge d268_176 (fun c176 => ?_) (fun c176 => ?_)
        · have ei : i = ss.length := by omega
          rw [ei] at MK hX
          refine w_return d268_323 ?_
          exact kk g171 X FRg171 rfl MK (fun z => (hX.2 z))
        · have hi : i < ss.length := by omega
          obtain ⟨a, n, s1, s2, s3, s4, s5, s6, s7, s8⟩ := SR.2.2 i hi
          have SI : SiR S g171 m i a n (sV ss i) (sO ss i) := ⟨s1, s2, s6, s8⟩
          have an := sl_len (l := l) (f := a) (e := a + n) ⟨by omega, s3⟩
          have nn : nmB (sN ss i) 8 = sl l a (a + n) := by rw [s5]; exact nm_hd s4
          have ws := wsT_s (ss := ss) (o := false) (i := i)
          rw [if_neg (by simp), nn] at ws
          refine w_aload_n d268_179 rfl ?_
          refine w_dloadS d268_180 (okg171.kd hm) (fr1683 okg171 hm) ?_
          refine w_getI (x := ((((wsT ss false i).take 600).length : Nat) : Int)) d268_183 (okg171.kd (kT1683 okg171 hm)) MK.1.1 ?_
          obtain ⟨fr, hfr⟩ : ∃ fr, ((wsT ss false i).take 600).length = fr := ⟨_, rfl⟩
          rw [hfr]
          rw [hfr] at hX
          refine w_istore4 d268_186 rfl ?_
          refine w_iconst d268_188 (by decide) ?_
          refine w_istore5 d268_189 rfl ?_
          have L191 : ∀ (m191 : Nat) (g191 : Hp) (c : Nat), n - c = m191 → Fr S m [1683, 1685, 1686, 1687, 1688, 1698, 1699, 1700, 1689, 1690, 1691, 1692, 1693, 1694, 1695, 1696, 1697] h g191 → (c ≤ n) → (MkR S g191 m (wsT ss false i ++ (sl l a (a + n)).take c) X) → (SrM S g191 m l ss) → (SiR S g191 m i a n (sV ss i) (sO ss i)) → Wp G d 268 191 [some (vR (some m)), some (vR (some (sT S fd m))), some (vI (t : Nat)), some (vI (i : Nat)), some (vI (fr : Nat)), some (vI (c : Nat))] [] g191 Q := by
            intro m191
            induction m191 using Nat.strongRecOn with | ind m191 IH191 => ?_
            intro g191 c hm191 FRg191 cl MK SR SI
            have okg191 := FRg191.ok
            have AL := AL_0.r FRg191 hm
            have BG := BG_0.r FRg191 hm
            have DP := DfC.r (f := fd) FRg191 hm (by rcases hfd with rfl | rfl <;> decide) DP_0
            refine w_iload d268_191 rfl ?_
            refine w_aload_n d268_193 rfl ?_
            refine w_dloadS d268_194 (okg191.kd hm) (fr1690 okg191 hm) ?_
            refine w_iload_n d268_197 rfl ?_
            refine w_ialoadV (x := ((n : Nat) : Int)) d268_198 (gi1690 okg191 hm (by omega)) SI.2.1 ?_
            refine w_icmpge d268_199 (fun c199 => ?_) (fun c199 => ?_)
            · rw [show c = n by omega, show (sl l a (a + n)).take n = sl l a (a + n) from List.take_of_length_le (by omega)] at MK
              refine w_aload_n d268_226 rfl ?_
              refine w_bipush d268_227 (by decide) ?_
              refine w_callv2 d268_229 (by omega) rfl (okg191.kd hm) (by simp) (Nat.le_of_ble_eq_true rfl) ?_
              refine k_M_out (c := 61) okg191 (by omega) hm MK (by decide) (fun h229 f229 MK => ?_)
              have ok229 := f229.ok
              have FR229 := Fr.tr (F := [1683, 1685, 1686, 1687, 1688, 1698, 1699, 1700, 1689, 1690, 1691, 1692, 1693, 1694, 1695, 1696, 1697]) FRg191 f229 (by decide) (by decide)
              have SR := SR.r f229 hm
              have SI := SI.r f229 hm
              have AL := AL.r f229 hm
              have BG := BG.r f229 hm
              have DP := DfC.r (f := fd) f229 hm (by rcases hfd with rfl | rfl <;> decide) DP
              refine w_aload_n d268_232 rfl ?_
              refine w_aload_n d268_233 rfl ?_
              refine w_dloadS d268_234 (ok229.kd hm) (fr1691 ok229 hm) ?_
              refine w_iload_n d268_237 rfl ?_
              refine w_ialoadV (x := ((sV ss i : Nat) : Int)) d268_238 (gi1691 ok229 hm (by omega)) SI.2.2.1 ?_
              refine w_callv2 d268_239 (by omega) rfl (ok229.kd hm) (by simp) (Nat.le_of_ble_eq_true rfl) ?_
              refine k_M_outNumber (n := 9) ok229 (by omega) hm MK (by omega) (by omega) (by decide) (fun h239 f239 MK => ?_)
              have ok239 := f239.ok
              have FR239 := Fr.tr (F := [1683, 1685, 1686, 1687, 1688, 1698, 1699, 1700, 1689, 1690, 1691, 1692, 1693, 1694, 1695, 1696, 1697]) FR229 f239 (by decide) (by decide)
              have SR := SR.r f239 hm
              have SI := SI.r f239 hm
              have AL := AL.r f239 hm
              have BG := BG.r f239 hm
              have DP := DfC.r (f := fd) f239 hm (by rcases hfd with rfl | rfl <;> decide) DP
              refine w_aload_n d268_242 rfl ?_
              refine w_bipush d268_243 (by decide) ?_
              refine w_callv2 d268_245 (by omega) rfl (ok239.kd hm) (by simp) (Nat.le_of_ble_eq_true rfl) ?_
              refine k_M_out (c := 10) ok239 (by omega) hm MK (by decide) (fun h245 f245 MK => ?_)
              have ok245 := f245.ok
              have FR245 := Fr.tr (F := [1683, 1685, 1686, 1687, 1688, 1698, 1699, 1700, 1689, 1690, 1691, 1692, 1693, 1694, 1695, 1696, 1697]) FR239 f245 (by decide) (by decide)
              have SR := SR.r f245 hm
              have SI := SI.r f245 hm
              have AL := AL.r f245 hm
              have BG := BG.r f245 hm
              have DP := DfC.r (f := fd) f245 hm (by rcases hfd with rfl | rfl <;> decide) DP
              simp only [List.append_assoc] at MK
              rw [← ws] at MK
              refine w_iload d268_248 rfl ?_
              refine w_istore5 d268_250 rfl ?_
              have L252 : ∀ (m252 : Nat) (g252 : Hp) (c : Nat), ((wsT ss false (i + 1)).take 600).length - c = m252 → Fr S m [1683, 1685, 1686, 1687, 1688, 1698, 1699, 1700, 1689, 1690, 1691, 1692, 1693, 1694, 1695, 1696, 1697] h g252 → (fr ≤ c ∧ c ≤ ((wsT ss false (i + 1)).take 600).length) → (MkR S g252 m (wsT ss false (i + 1)) (X ++ sl ((wsT ss false (i + 1)).take 600) fr c)) → (sO ss i = false → c = fr) → (SrM S g252 m l ss) → (SiR S g252 m i a n (sV ss i) (sO ss i)) → Wp G d 268 252 [some (vR (some m)), some (vR (some (sT S fd m))), some (vI (t : Nat)), some (vI (i : Nat)), some (vI (fr : Nat)), some (vI (c : Nat))] [] g252 Q := by
                intro m252
                induction m252 using Nat.strongRecOn with | ind m252 IH252 => ?_
                intro g252 c hm252 FRg252 cl MK hp SR SI
                have okg252 := FRg252.ok
                have AL := AL_0.r FRg252 hm
                have BG := BG_0.r FRg252 hm
                have DP := DfC.r (f := fd) FRg252 hm (by rcases hfd with rfl | rfl <;> decide) DP_0
                refine w_iload d268_252 rfl ?_
                refine w_aload_n d268_254 rfl ?_
                refine w_dloadS d268_255 (okg252.kd hm) (fr1683 okg252 hm) ?_
                refine w_getI (x := ((((wsT ss false (i + 1)).take 600).length : Nat) : Int)) d268_258 (okg252.kd (kT1683 okg252 hm)) MK.1.1 ?_
                refine w_icmpge d268_261 (fun c261 => ?_) (fun c261 => ?_)
                · have ec : c = ((wsT ss false (i + 1)).take 600).length := by omega
                  have xn := ws_step hX hfr cl hp (fun _ => ec)
                  refine w_iinc3 d268_317 rfl (by constructor <;> omega) ?_
                  refine w_goto d268_320 ?_
                  rw [show ((i : Nat) : Int) + 1 = ((i + 1 : Nat) : Int) by omega]
                  refine w_less ?_ (IH171 _ (by omega) g252 (i + 1) (X ++ sl ((wsT ss false (i + 1)).take 600) fr c) rfl FRg252 (by omega) MK xn SR)
                  exact ⟨Or.inr rfl, Or.inr rfl, Or.inr rfl, Or.inr rfl, Or.inl rfl, Or.inl rfl, trivial⟩
                · have hc : c < ((wsT ss false (i + 1)).take 600).length := by omega
                  refine w_aload_n d268_264 rfl ?_
                  refine w_dloadS d268_265 (okg252.kd hm) (fr1692 okg252 hm) ?_
                  refine w_iload_n d268_268 rfl ?_
                  refine w_baloadV (x := (b2i (sO ss i))) d268_269 (gi1692 okg252 hm (by omega)) SI.2.2.2 ?_
                  refine w_ifeq d268_270 (fun c270 => ?_) (fun c270 => ?_)
                  · have q : sO ss i = false := by
                      cases hz : sO ss i with
                      | true => rw [hz] at c270; exact absurd c270 (by decide)
                      | false => rfl
                    have xn := ws_step hX hfr cl hp (fun z => by rw [q] at z; exact absurd z (by decide))
                    refine w_iinc3 d268_317 rfl (by constructor <;> omega) ?_
                    refine w_goto d268_320 ?_
                    rw [show ((i : Nat) : Int) + 1 = ((i + 1 : Nat) : Int) by omega]
                    refine w_less ?_ (IH171 _ (by omega) g252 (i + 1) (X ++ sl ((wsT ss false (i + 1)).take 600) fr c) rfl FRg252 (by omega) MK xn SR)
                    exact ⟨Or.inr rfl, Or.inr rfl, Or.inr rfl, Or.inr rfl, Or.inl rfl, Or.inl rfl, trivial⟩
                  · have q : sO ss i = true := by
                      cases hz : sO ss i with
                      | true => rfl
                      | false => rw [hz] at c270; exact absurd rfl c270
                    have ko := kT1683 ok hm
                    have z1 := sLT ok (f := 1538) (n := 600) ko (by decide) rfl (by decide)
                    have o2 : FI g252 1539 (sT S 1683 m) = ((X ++ sl ((wsT ss false (i + 1)).take 600) fr c).length : Nat) := MK.1.2.1
                    have slc := sl_len (l := ((wsT ss false (i + 1)).take 600)) (f := fr) (e := c) ⟨by omega, by omega⟩
                    have lx : (X ++ sl ((wsT ss false (i + 1)).take 600) fr c).length = X.length + (c - fr) := by rw [List.length_append, slc]
                    have t6 : ((wsT ss false (i + 1)).take 600).length ≤ 600 := by rw [List.length_take]; omega
                    have rb := ra1536 okg252 ko c
                    have ov := MK.1.2.2.2.1.at0 hc
                    rw [ov] at rb
                    refine w_aload_n d268_273 rfl ?_
                    refine w_dloadS d268_274 (okg252.kd hm) (fr1683 okg252 hm) ?_
                    refine w_dloadS d268_277 (okg252.kd (kT1683 okg252 hm)) (fr1538 okg252 (kT1683 okg252 hm)) ?_
                    refine w_aload_n d268_280 rfl ?_
                    refine w_dloadS d268_281 (okg252.kd hm) (fr1683 okg252 hm) ?_
                    refine w_getI (x := (((X ++ sl ((wsT ss false (i + 1)).take 600) fr c).length : Nat) : Int)) d268_284 (okg252.kd (kT1683 okg252 hm)) o2 ?_
                    refine w_aload_n d268_287 rfl ?_
                    refine w_dloadS d268_288 (okg252.kd hm) (fr1683 okg252 hm) ?_
                    refine w_dloadS d268_291 (okg252.kd (kT1683 okg252 hm)) (fr1536 okg252 (kT1683 okg252 hm)) ?_
                    refine w_iload d268_294 rfl ?_
                    refine w_ialoadV (x := ((((wsT ss false (i + 1)).take 600).getD c 0 : Nat) : Int)) d268_296 (gi1536 okg252 (kT1683 okg252 hm) (by omega)) ov ?_
                    refine wa1538 d268_297 okg252 (kT1683 okg252 hm) (by omega) (by omega) (fun h297 e297 m297 => ?_)
                    have e297 : h297 = sAI g252 (sT S 1538 (sT S 1683 m)) (X ++ sl ((wsT ss false (i + 1)).take 600) fr c).length ((((wsT ss false (i + 1)).take 600).getD c 0 : Nat) : Int) := e297
                    have f297 : Fr S m [1683] _ _ := Fr.wB okg252 hm m297 (fun ζ e => ⟨1683, by decide, by decide, e ▸ (ok.so.uT (by decide) U_refl)⟩)
                    have ok297 := f297.ok
                    have FR297 := Fr.tr (F := [1683, 1685, 1686, 1687, 1688, 1698, 1699, 1700, 1689, 1690, 1691, 1692, 1693, 1694, 1695, 1696, 1697]) FRg252 f297 (by decide) (by decide)
                    have SR := SR.r f297 hm
                    have SI := SI.r f297 hm
                    have AL := AL.r f297 hm
                    have BG := BG.r f297 hm
                    have DP := DfC.r (f := fd) f297 hm (by rcases hfd with rfl | rfl <;> decide) DP
                    refine w_aload_n d268_298 rfl ?_
                    refine w_dloadS d268_299 (ok297.kd hm) (fr1683 ok297 hm) ?_
                    refine w_dupR d268_302 ?_
                    refine w_getI (x := (((X ++ sl ((wsT ss false (i + 1)).take 600) fr c).length : Nat) : Int)) d268_303 (ok297.kd (kT1683 ok297 hm)) ((m297.fi okg252 (by omega) (fun z => ok.so.pT (f := 1538) (by decide) z.symm) 1539).trans o2) ?_
                    refine w_iconst d268_306 (by decide) ?_
                    refine w_iadd d268_307 (by constructor <;> omega) ?_
                    refine wf1539 d268_308 ok297 (kT1683 ok297 hm) (by omega) (fun h308 e308 m308 => ?_)
                    have f308 : Fr S m [1683] _ _ := Fr.wB ok297 hm m308 (fun ζ e => ⟨1683, by decide, by decide, e ▸ U_refl⟩)
                    have ok308 := f308.ok
                    have FR308 := Fr.tr (F := [1683, 1685, 1686, 1687, 1688, 1698, 1699, 1700, 1689, 1690, 1691, 1692, 1693, 1694, 1695, 1696, 1697]) FR297 f308 (by decide) (by decide)
                    have SR := SR.r f308 hm
                    have SI := SI.r f308 hm
                    have AL := AL.r f308 hm
                    have BG := BG.r f308 hm
                    have DP := DfC.r (f := fd) f308 hm (by rcases hfd with rfl | rfl <;> decide) DP
                    have MK : MkR S h308 m (wsT ss false (i + 1)) (X ++ sl ((wsT ss false (i + 1)).take 600) fr (c + 1)) := by
                      obtain ⟨p1, p2, p3, p4, p5, p6⟩ := MK.1
                      have p5 : SgC S g252 (sT S 1538 (sT S 1683 m)) 0 (X ++ sl ((wsT ss false (i + 1)).take 600) fr c) := p5
                      have w9 : SgC S h297 (sT S 1538 (sT S 1683 m)) 0 ((X ++ sl ((wsT ss false (i + 1)).take 600) fr c) ++ [((wsT ss false (i + 1)).take 600).getD c 0]) := p5.snoc (by rw [e297, Nat.zero_add]) (by omega)
                      have n1 : ∀ f, f < 4096 → ¬ sT S f (sT S 1683 m) = (sT S 1683 m) := fun f hf z => ok.so.pT (f := f) hf z
                      have mv : ∀ f, f < 4096 → f ≠ 1538 → ∀ z, SgC S g252 (sT S f (sT S 1683 m)) 0 z → SgC S h308 (sT S f (sT S 1683 m)) 0 z := fun f hf nf z D => (D.mo okg252 m297 (fun y => nf ((ok.so.inj hf (by decide)).mp y).1)).mo ok297 m308 (n1 f hf)
                      have fi : ∀ f, f ≠ 641 → f ≠ 1539 → FI h308 f (sT S 1683 m) = FI g252 f (sT S 1683 m) := fun f hf nf => by rw [e308, FI_sFI, if_neg (fun z => nf z.1)]; exact m297.fi okg252 (by omega) (fun z => ok.so.pT (f := 1538) (by decide) z.symm) f hf
                      rw [sl_snoc (by omega) hc, ← List.append_assoc]
                      refine ⟨⟨(fi 1537 (by decide) (by decide)).trans p1, ?_, (fi 1541 (by decide) (by decide)).trans p3, mv 1536 (by decide) (by decide) _ p4, w9.mo ok297 m308 (n1 1538 (by decide)), mv 1540 (by decide) (by decide) _ p6⟩, ?_⟩
                      · rw [e308, FI_sFI, if_pos ⟨rfl, rfl⟩]; show _ = ((((X ++ sl ((wsT ss false (i + 1)).take 600) fr c) ++ [((wsT ss false (i + 1)).take 600).getD c 0]).length : Nat) : Int); simp only [List.length_append, List.length_singleton]; omega
                      · rw [(f308.i 1685).trans (f297.i 1685)]; exact MK.2
                    refine w_iinc5 d268_311 rfl (by constructor <;> omega) ?_
                    refine w_goto d268_314 ?_
                    rw [show ((c : Nat) : Int) + 1 = ((c + 1 : Nat) : Int) by omega]
                    refine w_less ?_ (IH252 _ (by omega) h308 (c + 1) rfl FR308 (by omega) MK (fun z => by rw [q] at z; exact absurd z (by decide)) SR SI)
                    exact ⟨Or.inr rfl, Or.inr rfl, Or.inr rfl, Or.inr rfl, Or.inr rfl, Or.inr rfl, trivial⟩
              have frl : fr ≤ ((wsT ss false (i + 1)).take 600).length := by rw [← hfr, ws]; simp only [List.length_take, List.length_append]; omega
              refine w_less ?_ (L252 _ h245 fr rfl FR245 ⟨Nat.le_refl _, frl⟩ (by rw [sl_nil, List.append_nil]; exact MK) (fun _ => rfl) SR SI)
              exact ⟨Or.inr rfl, Or.inr rfl, Or.inr rfl, Or.inr rfl, Or.inr rfl, Or.inr rfl, trivial⟩
            · have hc : c < n := by omega
              have rb := lt256 okg191 hm AL (i := a + c) (by omega)
              refine w_aload_n d268_202 rfl ?_
              refine w_aload_n d268_203 rfl ?_
              refine w_dloadS d268_204 (okg191.kd hm) (fr1681 okg191 hm) ?_
              refine w_aload_n d268_207 rfl ?_
              refine w_dloadS d268_208 (okg191.kd hm) (fr1689 okg191 hm) ?_
              refine w_iload_n d268_211 rfl ?_
              refine w_ialoadV (x := ((a : Nat) : Int)) d268_212 (gi1689 okg191 hm (by omega)) SI.1 ?_
              refine w_iload d268_213 rfl ?_
              refine w_iadd d268_215 (by constructor <;> omega) ?_
              rw [show ((a : Nat) : Int) + ((c : Nat) : Int) = ((a + c : Nat) : Int) by omega]
              refine w_ialoadV (x := ((l.getD (a + c) 0 : Nat) : Int)) d268_216 (by have := AL.2.g okg191 (k := a + c) (by omega); rwa [show (((0 : Nat) : Int) + ((a + c : Nat) : Int)) = ((a + c : Nat) : Int) by omega] at this) ((AL.2.at0 (by omega)).trans (congrArg _ (rfl))) ?_
              refine w_callv2 d268_217 (by omega) rfl (okg191.kd hm) (by simp) (Nat.le_of_ble_eq_true rfl) ?_
              refine k_M_out (c := l.getD (a + c) 0) okg191 (by omega) hm MK (by omega) (fun h217 f217 MK => ?_)
              have ok217 := f217.ok
              have FR217 := Fr.tr (F := [1683, 1685, 1686, 1687, 1688, 1698, 1699, 1700, 1689, 1690, 1691, 1692, 1693, 1694, 1695, 1696, 1697]) FRg191 f217 (by decide) (by decide)
              have SR := SR.r f217 hm
              have SI := SI.r f217 hm
              have AL := AL.r f217 hm
              have BG := BG.r f217 hm
              have DP := DfC.r (f := fd) f217 hm (by rcases hfd with rfl | rfl <;> decide) DP
              refine w_iinc5 d268_220 rfl (by constructor <;> omega) ?_
              refine w_goto d268_223 ?_
              rw [show ((c : Nat) : Int) + 1 = ((c + 1 : Nat) : Int) by omega]
              rw [List.append_assoc, ← sl_gd (l := l) (f := a) (e := a + n) (by omega), ← take_succ (by omega)] at MK
              refine w_less ?_ (IH191 _ (by omega) h217 (c + 1) rfl FR217 (by omega) MK SR SI)
              exact ⟨Or.inr rfl, Or.inr rfl, Or.inr rfl, Or.inr rfl, Or.inr rfl, Or.inr rfl, trivial⟩
          refine w_less ?_ (L191 _ g171 0 rfl FRg171 (Nat.zero_le _) (by rw [List.take_zero, List.append_nil]; exact MK) SR SI)
          exact ⟨Or.inr rfl, Or.inr rfl, Or.inr rfl, Or.inr rfl, Or.inr rfl, Or.inr rfl, trivial⟩
      refine w_less ?_ (L171 _ g12 0 [] rfl FRg12 (Nat.zero_le _) MK ⟨Nat.zero_le _, fun _ => rfl⟩ SR)
      exact ⟨Or.inr rfl, Or.inr rfl, Or.inr rfl, Or.inr rfl, Or.inl rfl, Or.inl rfl, trivial⟩
    · have hk : k < (tgI (tD P0.2.2 t)).length := by omega
      have hk2 : k < ins.length := by omega
      have xl := hi6 k hk2
      have sf := sl_flat hk2
      have b1 := flt_tot (ins := ins) (k := k + 1)
      have b0 : (ins.take k).flatten.length ≤ (ins.take (k + 1)).flatten.length := by rw [flt_succ hk2, List.length_append]; omega
      rw [← hl] at sf b1
      have xb : ∀ j, (ins.getD k []).getD j 0 < 256 := by
        rw [← sf]
        refine getD_sl_lt (fun j => ?_) _ _
        rcases Nat.lt_or_ge j l.length with z | z
        · have := lt256 okg12 hm AL z
          omega
        · rw [List.getD_eq_getElem?_getD, List.getElem?_eq_none z]; decide
      have wl := wtL_lns (ins.getD k []) _ 0 rfl (Nat.zero_le _)
      rw [List.drop_zero] at wl
      have e0 := cmI_L xb (b := (inB (tgI (tD P0.2.2 t)) k)) (n := (ins.getD k []).length + 1) (f := 0) (k := 0) (ss := ss) (fs := fs) (by omega)
      rw [List.drop_zero] at e0
      refine w_aload_n d268_22 rfl ?_
      refine w_iconst d268_23 (by decide) ?_
      refine wf1688 d268_24 okg12 hm (by omega) (fun h24 e24 m24 => ?_)
      have f24 : Fr S m [1688] _ _ := Fr.wF okg12 m24 (FK.pI e24)
      have ok24 := f24.ok
      have FR24 := Fr.tr (F := [1683, 1685, 1686, 1687, 1688, 1698, 1699, 1700, 1689, 1690, 1691, 1692, 1693, 1694, 1695, 1696, 1697]) FRg12 f24 (by decide) (by decide)
      have MK := MK.r f24 hm
      have AL := AL.r f24 hm
      have BG := BG.r f24 hm
      have DP := DfC.r (f := fd) f24 hm (by rcases hfd with rfl | rfl <;> decide) DP
      have SR := SR.r f24 hm
      have FC := FC.r f24 hm
      have LN : LnR S h24 m l [] := ⟨by rw [e24, FI_sFI, if_pos ⟨rfl, rfl⟩]; rfl, by decide, fun k hk => absurd hk (Nat.not_lt_zero _)⟩
      refine w_aload_n d268_27 rfl ?_
      refine w_aload_n d268_28 rfl ?_
      refine w_dloadS d268_29 (ok24.kd hm) (fr1684 ok24 hm) ?_
      refine w_iload_n d268_32 rfl ?_
      refine w_ialoadV (x := (((ins.take k).flatten.length : Nat) : Int)) d268_33 (gi1684 ok24 hm (by omega)) (BG k (by omega)) ?_
      refine w_aload_n d268_34 rfl ?_
      refine w_dloadS d268_35 (ok24.kd hm) (fr1684 ok24 hm) ?_
      refine w_iload_n d268_38 rfl ?_
      refine w_iconst d268_39 (by decide) ?_
      refine w_iadd d268_40 (by constructor <;> omega) ?_
      rw [show ((k : Nat) : Int) + 1 = ((k + 1 : Nat) : Int) by omega]
      refine w_ialoadV (x := (((ins.take (k + 1)).flatten.length : Nat) : Int)) d268_41 (gi1684 ok24 hm (by omega)) (BG (k + 1) (by omega)) ?_
      refine w_callv3 d268_42 (by omega) rfl (ok24.kd hm) (by simp) (Nat.le_of_ble_eq_true rfl) ?_
      refine k_M_addLines ok24 (by omega) hm LN AL ⟨b0, b1⟩ (Nat.zero_le _) (fun h42 f42 LN => ?_)
      have ok42 := f42.ok
      have FR42 := Fr.tr (F := [1683, 1685, 1686, 1687, 1688, 1698, 1699, 1700, 1689, 1690, 1691, 1692, 1693, 1694, 1695, 1696, 1697]) FR24 f42 (by decide) (by decide)
      have MK := MK.r f42 hm
      have AL := AL.r f42 hm
      have BG := BG.r f42 hm
      have DP := DfC.r (f := fd) f42 hm (by rcases hfd with rfl | rfl <;> decide) DP
      have SR := SR.r f42 hm
      have FC := FC.r f42 hm
      rw [List.nil_append, sf] at LN
      refine w_iconst d268_45 (by decide) ?_
      refine w_istore4 d268_46 rfl ?_
      have L48 : ∀ (m48 : Nat) (g48 : Hp) (j : Nat) (ss2 : List SrV) (fs2 : List FaV), (lns (ins.getD k [])).length - j = m48 → Fr S m [1683, 1685, 1686, 1687, 1688, 1698, 1699, 1700, 1689, 1690, 1691, 1692, 1693, 1694, 1695, 1696, 1697] h g48 → (j ≤ (lns (ins.getD k [])).length) → (SrM S g48 m l ss2) → (FcM S g48 m l fs2) → (cmL (inB (tgI (tD P0.2.2 t)) k) ((lns (ins.getD k [])).drop j) j ss2 fs2 = cmL (inB (tgI (tD P0.2.2 t)) k) (lns (ins.getD k [])) 0 ss fs) → (CmB (inB (tgI (tD P0.2.2 t)) k) (lns (ins.getD k [])) j ss ss2 fs fs2) → (MkR S g48 m [] []) → (LnR S g48 m l (lns (ins.getD k []))) → Wp G d 268 48 [some (vR (some m)), some (vR (some (sT S fd m))), some (vI (t : Nat)), some (vI (k : Nat)), some (vI (j : Nat)), none] [] g48 Q := by
        intro m48
        induction m48 using Nat.strongRecOn with | ind m48 IH48 => ?_
        intro g48 j ss2 fs2 hm48 FRg48 jl SR FC hc hb MK LN
        have okg48 := FRg48.ok
        have AL := AL_0.r FRg48 hm
        have BG := BG_0.r FRg48 hm
        have DP := DfC.r (f := fd) FRg48 hm (by rcases hfd with rfl | rfl <;> decide) DP_0
        have nl := LN.2.1
        refine w_iload d268_48 rfl ?_
        refine w_aload_n d268_50 rfl ?_
        refine w_getI (x := (((lns (ins.getD k [])).length : Nat) : Int)) d268_51 (okg48.kd hm) LN.1 ?_
        refine w_icmpge d268_54 (fun c54 => ?_) (fun c54 => ?_)
        · have ej : j = (lns (ins.getD k [])).length := by omega
          rw [List.drop_eq_nil_of_le (by omega), cmL] at hc
          have cg := cmG_on (m := (tgI (tD P0.2.2 t)).length - k) (t := (tD P0.2.2 t)) (i := k) (by omega) (e0.trans hc.symm)
          rw [hg] at cg
          have w2 := wtL_take (lns (ins.getD k [])) j
          refine w_iinc3 d268_163 rfl (by constructor <;> omega) ?_
          refine w_goto d268_166 ?_
          rw [show ((k : Nat) : Int) + 1 = ((k + 1 : Nat) : Int) by omega]
          refine w_less ?_ (IH12 _ (by omega) g48 (k + 1) ss2 fs2 rfl FRg48 (by omega) SR FC (by rw [show (tgI (tD P0.2.2 t)).length - (k + 1) = (tgI (tD P0.2.2 t)).length - k - 1 by omega]; exact cg.symm) (by obtain ⟨c1, c2, c3, c4⟩ := hb; cases hz : (inB (tgI (tD P0.2.2 t)) k) with | true => (have := c3 hz; exact ⟨by omega, by omega⟩) | false => (have := c4 hz; have := hi1 k hk2 hz; exact ⟨by omega, by omega⟩)) MK)
          exact ⟨Or.inr rfl, Or.inr rfl, Or.inr rfl, Or.inr rfl, Or.inl rfl, Or.inl rfl, trivial⟩
        · have hj : j < (lns (ins.getD k [])).length := by omega
          obtain ⟨f, e, fh, eh, fe, fl⟩ := LN.at okg48 hm (k := j) hj
          have rf := ra1686 okg48 hm j
          have rt := ra1687 okg48 hm j
          have yl := sl_len fe
          rw [fl] at yl
          have hy : Yin l f ((lns (ins.getD k [])).getD j []) := ⟨by omega, fun p hp => by rw [← fl] at hp ⊢; rw [sl_len fe] at hp; exact (sl_gd (by omega)).symm⟩
          have yb := hy.lt okg48 hm AL
          have ws := wtL_succ hj
          have wt := wtL_take (lns (ins.getD k [])) (j + 1)
          refine w_aload_n d268_57 rfl ?_
          refine w_dloadS d268_58 (okg48.kd (hdK ok hm hfd)) (fr1425 okg48 (hdK ok hm hfd)) ?_
          refine w_bipush d268_61 (by decide) ?_
          refine w_iload_n d268_63 rfl ?_
          refine w_imul d268_64 (by constructor <;> omega) ?_
          rw [show (6 : Int) * ((t : Nat) : Int) = ((6 * t : Nat) : Int) by omega]
          refine w_iload_n d268_65 rfl ?_
          refine w_iadd d268_66 (by constructor <;> omega) ?_
          rw [show ((6 * t : Nat) : Int) + ((k : Nat) : Int) = ((6 * t + k : Nat) : Int) by omega]
          refine w_baloadV (x := (b2i (inB (tgI (tD P0.2.2 t)) k))) d268_67 (gi1425 okg48 (hdK ok hm hfd) (by omega)) (((DP.2.2.2.2 t ht).2.2.2.2.2.2.2.2.2.2.2.1 k hk).1) ?_
          refine w_ifeq d268_68 (fun c68 => ?_) (fun c68 => ?_)
          · have q : (inB (tgI (tD P0.2.2 t)) k) = false := by
              cases hz : (inB (tgI (tD P0.2.2 t)) k) with
              | true => rw [hz] at c68; exact absurd c68 (by decide)
              | false => rfl
            have x160 := hi1 k hk2 q
            have hs246 : ss2.length < 246 := by have := hb.1; omega
            refine w_aload_n d268_92 rfl ?_
            refine w_aload_n d268_93 rfl ?_
            refine w_dloadS d268_94 (okg48.kd hm) (fr1686 okg48 hm) ?_
            refine w_iload d268_97 rfl ?_
            refine w_ialoadV (x := ((f : Nat) : Int)) d268_99 (gi1686 okg48 hm (by omega)) fh ?_
            refine w_aload_n d268_100 rfl ?_
            refine w_dloadS d268_101 (okg48.kd hm) (fr1687 okg48 hm) ?_
            refine w_iload d268_104 rfl ?_
            refine w_ialoadV (x := ((e : Nat) : Int)) d268_106 (gi1687 okg48 hm (by omega)) eh ?_
            refine w_callv3 d268_107 (by omega) rfl (okg48.kd hm) (by simp) (Nat.le_of_ble_eq_true rfl) ?_
            refine k_M_sourceLine okg48 (by omega) hm AL SR FC hy (by omega) hs246 (fun h107 f107 SR => ?_)
            have ok107 := f107.ok
            have FR107 := Fr.tr (F := [1683, 1685, 1686, 1687, 1688, 1698, 1699, 1700, 1689, 1690, 1691, 1692, 1693, 1694, 1695, 1696, 1697]) FRg48 f107 (by decide) (by decide)
            have MK := MK.r f107 hm
            have LN := LN.r f107 hm
            have AL := AL.r f107 hm
            have BG := BG.r f107 hm
            have DP := DfC.r (f := fd) f107 hm (by rcases hfd with rfl | rfl <;> decide) DP
            have FC := FC.r f107 hm
            refine w_istore5 d268_110 rfl ?_
            refine w_iload d268_112 rfl ?_
            refine w_ifeq d268_114 (fun c114 => ?_) (fun c114 => ?_)
            · have gf : (srR ((lns (ins.getD k [])).getD j []) 0 ((lns (ins.getD k [])).getD j []).length ss2 fs2).1 = false := by
                cases hz : (srR ((lns (ins.getD k [])).getD j []) 0 ((lns (ins.getD k [])).getD j []).length ss2 fs2).1 with
                | true => rw [hz] at c114; exact absurd c114 (by decide)
                | false => rfl
              have cb : (cmL (inB (tgI (tD P0.2.2 t)) k) (lns (ins.getD k [])) 0 ss fs) = (some j, (srR ((lns (ins.getD k [])).getD j []) 0 ((lns (ins.getD k [])).getD j []).length ss2 fs2).2, fs2) := by rw [← hc, dropL hj, cmL]; rw [if_neg (by rw [q]; decide), if_neg (by rw [gf]; decide)]
              have cw : (cmW (tD P0.2.2 t) ins).1 = some (k, j) := by rw [← hg, cmG_bad (by omega) (e0.trans cb)]
              refine w_aload_n d268_120 rfl ?_
              refine w_dloadS d268_121 (ok107.kd hm) (fr1683 ok107 hm) ?_
              obtain ⟨g124, v124, s124⟩ := tg.al ok107 27 (by decide)
              refine w_getstaticS d268_124 v124 ?_
              refine w_callv2 d268_127 (by omega) rfl (ok107.kd (kT1683 ok107 hm)) (by simp) (Nat.le_of_ble_eq_true rfl) ?_
              refine k_O_fails ok107 (by omega) (kT1683 ok107 hm) s124 (by decide) (fun h127 m127 OM => ?_)
              have f127 : Fr S m [1683] _ _ := Fr.wB ok107 hm m127 (fun ζ u => ⟨1683, by decide, by decide, U_trans U_refl u⟩)
              have ok127 := f127.ok
              have FR127 := Fr.tr (F := [1683, 1685, 1686, 1687, 1688, 1698, 1699, 1700, 1689, 1690, 1691, 1692, 1693, 1694, 1695, 1696, 1697]) FR107 f127 (by decide) (by decide)
              have LN := LN.r f127 hm
              have AL := AL.r f127 hm
              have BG := BG.r f127 hm
              have DP := DfC.r (f := fd) f127 hm (by rcases hfd with rfl | rfl <;> decide) DP
              have SR := SR.r f127 hm
              have FC := FC.r f127 hm
              refine w_aload_n d268_130 rfl ?_
              refine w_dloadS d268_131 (ok127.kd hm) (fr1683 ok127 hm) ?_
              refine w_iload_n d268_134 rfl ?_
              refine w_callv2 d268_135 (by omega) rfl (ok127.kd (kT1683 ok127 hm)) (by simp) (Nat.le_of_ble_eq_true rfl) ?_
              refine k_O_number (n := 9) ok127 (by omega) (kT1683 ok127 hm) (by omega) OM (by omega) (by decide) (by have := dec_10 k; show (txt 27).length + _ ≤ 40; rw [show (txt 27).length = 4 by decide]; omega) (fun h135 m135 OM => ?_)
              have f135 : Fr S m [1683] _ _ := Fr.wB ok127 hm m135 (fun ζ u => ⟨1683, by decide, by decide, U_trans U_refl u⟩)
              have ok135 := f135.ok
              have FR135 := Fr.tr (F := [1683, 1685, 1686, 1687, 1688, 1698, 1699, 1700, 1689, 1690, 1691, 1692, 1693, 1694, 1695, 1696, 1697]) FR127 f135 (by decide) (by decide)
              have LN := LN.r f135 hm
              have AL := AL.r f135 hm
              have BG := BG.r f135 hm
              have DP := DfC.r (f := fd) f135 hm (by rcases hfd with rfl | rfl <;> decide) DP
              have SR := SR.r f135 hm
              have FC := FC.r f135 hm
              refine w_aload_n d268_138 rfl ?_
              refine w_dloadS d268_139 (ok135.kd hm) (fr1683 ok135 hm) ?_
              refine w_bipush d268_142 (by decide) ?_
              refine w_callv2 d268_144 (by omega) rfl (ok135.kd (kT1683 ok135 hm)) (by simp) (Nat.le_of_ble_eq_true rfl) ?_
              refine k_O_why (c := 32) ok135 (by omega) (kT1683 ok135 hm) OM (by have := dec_10 k; show (txt 27 ++ dec k).length < 40; rw [List.length_append, show (txt 27).length = 4 by decide]; omega) (by decide) (fun h144 m144 OM => ?_)
              have f144 : Fr S m [1683] _ _ := Fr.wB ok135 hm m144 (fun ζ u => ⟨1683, by decide, by decide, U_trans U_refl u⟩)
              have ok144 := f144.ok
              have FR144 := Fr.tr (F := [1683, 1685, 1686, 1687, 1688, 1698, 1699, 1700, 1689, 1690, 1691, 1692, 1693, 1694, 1695, 1696, 1697]) FR135 f144 (by decide) (by decide)
              have LN := LN.r f144 hm
              have AL := AL.r f144 hm
              have BG := BG.r f144 hm
              have DP := DfC.r (f := fd) f144 hm (by rcases hfd with rfl | rfl <;> decide) DP
              have SR := SR.r f144 hm
              have FC := FC.r f144 hm
              refine w_aload_n d268_147 rfl ?_
              refine w_dloadS d268_148 (ok144.kd hm) (fr1683 ok144 hm) ?_
              refine w_iload d268_151 rfl ?_
              refine w_callv2 d268_153 (by omega) rfl (ok144.kd (kT1683 ok144 hm)) (by simp) (Nat.le_of_ble_eq_true rfl) ?_
              refine k_O_number (n := 9) ok144 (by omega) (kT1683 ok144 hm) (by omega) OM (by omega) (by decide) (by have := dec_10 k; have := dec_10 j; show (txt 27 ++ dec k ++ [32]).length + _ ≤ 40; rw [List.length_append, List.length_append, show (txt 27).length = 4 by decide]; simp only [List.length_singleton]; omega) (fun h153 m153 OM => ?_)
              have f153 : Fr S m [1683] _ _ := Fr.wB ok144 hm m153 (fun ζ u => ⟨1683, by decide, by decide, U_trans U_refl u⟩)
              have ok153 := f153.ok
              have FR153 := Fr.tr (F := [1683, 1685, 1686, 1687, 1688, 1698, 1699, 1700, 1689, 1690, 1691, 1692, 1693, 1694, 1695, 1696, 1697]) FR144 f153 (by decide) (by decide)
              have LN := LN.r f153 hm
              have AL := AL.r f153 hm
              have BG := BG.r f153 hm
              have DP := DfC.r (f := fd) f153 hm (by rcases hfd with rfl | rfl <;> decide) DP
              have SR := SR.r f153 hm
              have FC := FC.r f153 hm
              refine w_return d268_156 ?_
              refine k1 h153 (k, j) FR153 cw ?_
              show OmC S h153 (sT S 1683 m) ([], [], txt 27 ++ (dec k ++ ([32] ++ dec j)))
              rw [show txt 27 ++ (dec k ++ ([32] ++ dec j)) = txt 27 ++ dec k ++ [32] ++ dec j by simp only [List.append_assoc]]
              exact OM
            · have gt : (srR ((lns (ins.getD k [])).getD j []) 0 ((lns (ins.getD k [])).getD j []).length ss2 fs2).1 = true := by
                rcases Bool.eq_false_or_eq_true ((srR ((lns (ins.getD k [])).getD j []) 0 ((lns (ins.getD k [])).getD j []).length ss2 fs2).1) with z | z
                · exact z
                · rw [z] at c114; exact absurd rfl c114
              have sle := srR_len yb gt
              have cn : cmL (inB (tgI (tD P0.2.2 t)) k) ((lns (ins.getD k [])).drop (j + 1)) (j + 1) (srR ((lns (ins.getD k [])).getD j []) 0 ((lns (ins.getD k [])).getD j []).length ss2 fs2).2 fs2 = cmL (inB (tgI (tD P0.2.2 t)) k) (lns (ins.getD k [])) 0 ss fs := by rw [← hc, dropL hj, cmL, if_neg (by rw [q]; decide), if_pos gt]
              have bn : CmB (inB (tgI (tD P0.2.2 t)) k) (lns (ins.getD k [])) (j + 1) ss (srR ((lns (ins.getD k [])).getD j []) 0 ((lns (ins.getD k [])).getD j []).length ss2 fs2).2 fs fs2 := ⟨by have := hb.1; omega, by have := hb.2.1; omega, fun z => by rw [q] at z; exact absurd z (by decide), hb.2.2.2⟩
              refine w_goto d268_117 ?_
              refine w_iinc4 d268_157 rfl (by constructor <;> omega) ?_
              refine w_goto d268_160 ?_
              rw [show ((j : Nat) : Int) + 1 = ((j + 1 : Nat) : Int) by omega]
              refine w_less ?_ (IH48 _ (by omega) h107 (j + 1) (srR ((lns (ins.getD k [])).getD j []) 0 ((lns (ins.getD k [])).getD j []).length ss2 fs2).2 fs2 rfl FR107 (by omega) SR FC cn bn MK LN)
              exact ⟨Or.inr rfl, Or.inr rfl, Or.inr rfl, Or.inr rfl, Or.inr rfl, Or.inl rfl, trivial⟩
          · have q : (inB (tgI (tD P0.2.2 t)) k) = true := by
              cases hz : (inB (tgI (tD P0.2.2 t)) k) with
              | true => rfl
              | false => rw [hz] at c68; exact absurd rfl c68
            have hf906 : fs2.length < 906 := by have := hb.2.1; omega
            refine w_aload_n d268_71 rfl ?_
            refine w_aload_n d268_72 rfl ?_
            refine w_dloadS d268_73 (okg48.kd hm) (fr1686 okg48 hm) ?_
            refine w_iload d268_76 rfl ?_
            refine w_ialoadV (x := ((f : Nat) : Int)) d268_78 (gi1686 okg48 hm (by omega)) fh ?_
            refine w_aload_n d268_79 rfl ?_
            refine w_dloadS d268_80 (okg48.kd hm) (fr1687 okg48 hm) ?_
            refine w_iload d268_83 rfl ?_
            refine w_ialoadV (x := ((e : Nat) : Int)) d268_85 (gi1687 okg48 hm (by omega)) eh ?_
            refine w_callv3 d268_86 (by omega) rfl (okg48.kd hm) (by simp) (Nat.le_of_ble_eq_true rfl) ?_
            refine k_M_faceLine okg48 (by omega) hm AL FC hy (by omega) hf906 (fun h86 f86 FC => ?_)
            have ok86 := f86.ok
            have FR86 := Fr.tr (F := [1683, 1685, 1686, 1687, 1688, 1698, 1699, 1700, 1689, 1690, 1691, 1692, 1693, 1694, 1695, 1696, 1697]) FRg48 f86 (by decide) (by decide)
            have MK := MK.r f86 hm
            have LN := LN.r f86 hm
            have AL := AL.r f86 hm
            have BG := BG.r f86 hm
            have DP := DfC.r (f := fd) f86 hm (by rcases hfd with rfl | rfl <;> decide) DP
            have SR := SR.r f86 hm
            refine w_goto d268_89 ?_
            refine w_istore5 d268_110 rfl ?_
            refine w_iload d268_112 rfl ?_
            refine w_ifeq d268_114 (fun c114 => ?_) (fun c114 => ?_)
            · have gf : rfK ((lns (ins.getD k [])).getD j []) 0 ((lns (ins.getD k [])).getD j []).length fs2.length = false := by
                cases hz : rfK ((lns (ins.getD k [])).getD j []) 0 ((lns (ins.getD k [])).getD j []).length fs2.length with
                | true => rw [hz] at c114; exact absurd c114 (by decide)
                | false => rfl
              have cb : (cmL (inB (tgI (tD P0.2.2 t)) k) (lns (ins.getD k [])) 0 ss fs) = (some j, ss2, fs2) := by rw [← hc, dropL hj, cmL]; rw [if_pos q, if_neg (by rw [gf]; decide)]
              have cw : (cmW (tD P0.2.2 t) ins).1 = some (k, j) := by rw [← hg, cmG_bad (by omega) (e0.trans cb)]
              refine w_aload_n d268_120 rfl ?_
              refine w_dloadS d268_121 (ok86.kd hm) (fr1683 ok86 hm) ?_
              obtain ⟨g124, v124, s124⟩ := tg.al ok86 27 (by decide)
              refine w_getstaticS d268_124 v124 ?_
              refine w_callv2 d268_127 (by omega) rfl (ok86.kd (kT1683 ok86 hm)) (by simp) (Nat.le_of_ble_eq_true rfl) ?_
              refine k_O_fails ok86 (by omega) (kT1683 ok86 hm) s124 (by decide) (fun h127 m127 OM => ?_)
              have f127 : Fr S m [1683] _ _ := Fr.wB ok86 hm m127 (fun ζ u => ⟨1683, by decide, by decide, U_trans U_refl u⟩)
              have ok127 := f127.ok
              have FR127 := Fr.tr (F := [1683, 1685, 1686, 1687, 1688, 1698, 1699, 1700, 1689, 1690, 1691, 1692, 1693, 1694, 1695, 1696, 1697]) FR86 f127 (by decide) (by decide)
              have LN := LN.r f127 hm
              have AL := AL.r f127 hm
              have BG := BG.r f127 hm
              have DP := DfC.r (f := fd) f127 hm (by rcases hfd with rfl | rfl <;> decide) DP
              have SR := SR.r f127 hm
              have FC := FC.r f127 hm
              refine w_aload_n d268_130 rfl ?_
              refine w_dloadS d268_131 (ok127.kd hm) (fr1683 ok127 hm) ?_
              refine w_iload_n d268_134 rfl ?_
              refine w_callv2 d268_135 (by omega) rfl (ok127.kd (kT1683 ok127 hm)) (by simp) (Nat.le_of_ble_eq_true rfl) ?_
              refine k_O_number (n := 9) ok127 (by omega) (kT1683 ok127 hm) (by omega) OM (by omega) (by decide) (by have := dec_10 k; show (txt 27).length + _ ≤ 40; rw [show (txt 27).length = 4 by decide]; omega) (fun h135 m135 OM => ?_)
              have f135 : Fr S m [1683] _ _ := Fr.wB ok127 hm m135 (fun ζ u => ⟨1683, by decide, by decide, U_trans U_refl u⟩)
              have ok135 := f135.ok
              have FR135 := Fr.tr (F := [1683, 1685, 1686, 1687, 1688, 1698, 1699, 1700, 1689, 1690, 1691, 1692, 1693, 1694, 1695, 1696, 1697]) FR127 f135 (by decide) (by decide)
              have LN := LN.r f135 hm
              have AL := AL.r f135 hm
              have BG := BG.r f135 hm
              have DP := DfC.r (f := fd) f135 hm (by rcases hfd with rfl | rfl <;> decide) DP
              have SR := SR.r f135 hm
              have FC := FC.r f135 hm
              refine w_aload_n d268_138 rfl ?_
              refine w_dloadS d268_139 (ok135.kd hm) (fr1683 ok135 hm) ?_
              refine w_bipush d268_142 (by decide) ?_
              refine w_callv2 d268_144 (by omega) rfl (ok135.kd (kT1683 ok135 hm)) (by simp) (Nat.le_of_ble_eq_true rfl) ?_
              refine k_O_why (c := 32) ok135 (by omega) (kT1683 ok135 hm) OM (by have := dec_10 k; show (txt 27 ++ dec k).length < 40; rw [List.length_append, show (txt 27).length = 4 by decide]; omega) (by decide) (fun h144 m144 OM => ?_)
              have f144 : Fr S m [1683] _ _ := Fr.wB ok135 hm m144 (fun ζ u => ⟨1683, by decide, by decide, U_trans U_refl u⟩)
              have ok144 := f144.ok
              have FR144 := Fr.tr (F := [1683, 1685, 1686, 1687, 1688, 1698, 1699, 1700, 1689, 1690, 1691, 1692, 1693, 1694, 1695, 1696, 1697]) FR135 f144 (by decide) (by decide)
              have LN := LN.r f144 hm
              have AL := AL.r f144 hm
              have BG := BG.r f144 hm
              have DP := DfC.r (f := fd) f144 hm (by rcases hfd with rfl | rfl <;> decide) DP
              have SR := SR.r f144 hm
              have FC := FC.r f144 hm
              refine w_aload_n d268_147 rfl ?_
              refine w_dloadS d268_148 (ok144.kd hm) (fr1683 ok144 hm) ?_
              refine w_iload d268_151 rfl ?_
              refine w_callv2 d268_153 (by omega) rfl (ok144.kd (kT1683 ok144 hm)) (by simp) (Nat.le_of_ble_eq_true rfl) ?_
              refine k_O_number (n := 9) ok144 (by omega) (kT1683 ok144 hm) (by omega) OM (by omega) (by decide) (by have := dec_10 k; have := dec_10 j; show (txt 27 ++ dec k ++ [32]).length + _ ≤ 40; rw [List.length_append, List.length_append, show (txt 27).length = 4 by decide]; simp only [List.length_singleton]; omega) (fun h153 m153 OM => ?_)
              have f153 : Fr S m [1683] _ _ := Fr.wB ok144 hm m153 (fun ζ u => ⟨1683, by decide, by decide, U_trans U_refl u⟩)
              have ok153 := f153.ok
              have FR153 := Fr.tr (F := [1683, 1685, 1686, 1687, 1688, 1698, 1699, 1700, 1689, 1690, 1691, 1692, 1693, 1694, 1695, 1696, 1697]) FR144 f153 (by decide) (by decide)
              have LN := LN.r f153 hm
              have AL := AL.r f153 hm
              have BG := BG.r f153 hm
              have DP := DfC.r (f := fd) f153 hm (by rcases hfd with rfl | rfl <;> decide) DP
              have SR := SR.r f153 hm
              have FC := FC.r f153 hm
              refine w_return d268_156 ?_
              refine k1 h153 (k, j) FR153 cw ?_
              show OmC S h153 (sT S 1683 m) ([], [], txt 27 ++ (dec k ++ ([32] ++ dec j)))
              rw [show txt 27 ++ (dec k ++ ([32] ++ dec j)) = txt 27 ++ dec k ++ [32] ++ dec j by simp only [List.append_assoc]]
              exact OM
            · have gt : rfK ((lns (ins.getD k [])).getD j []) 0 ((lns (ins.getD k [])).getD j []).length fs2.length = true := by
                rcases Bool.eq_false_or_eq_true (rfK ((lns (ins.getD k [])).getD j []) 0 ((lns (ins.getD k [])).getD j []).length fs2.length) with z | z
                · exact z
                · rw [z] at c114; exact absurd rfl c114
              have rle := rfK_len gt
              have cn : cmL (inB (tgI (tD P0.2.2 t)) k) ((lns (ins.getD k [])).drop (j + 1)) (j + 1) ss2 (rfL ((lns (ins.getD k [])).getD j []) 0 ((lns (ins.getD k [])).getD j []).length fs2) = cmL (inB (tgI (tD P0.2.2 t)) k) (lns (ins.getD k [])) 0 ss fs := by rw [← hc, dropL hj, cmL, if_pos q, if_pos gt]
              have rl2 : (rfL ((lns (ins.getD k [])).getD j []) 0 ((lns (ins.getD k [])).getD j []).length fs2).length = fs2.length + 1 := by unfold rfL; rw [if_pos gt]; simp
              have bn : CmB (inB (tgI (tD P0.2.2 t)) k) (lns (ins.getD k [])) (j + 1) ss ss2 fs (rfL ((lns (ins.getD k [])).getD j []) 0 ((lns (ins.getD k [])).getD j []).length fs2) := ⟨by have := hb.1; omega, by have := hb.2.1; omega, hb.2.2.1, fun z => by rw [q] at z; exact absurd z (by decide)⟩
              refine w_goto d268_117 ?_
              refine w_iinc4 d268_157 rfl (by constructor <;> omega) ?_
              refine w_goto d268_160 ?_
              rw [show ((j : Nat) : Int) + 1 = ((j + 1 : Nat) : Int) by omega]
              refine w_less ?_ (IH48 _ (by omega) h86 (j + 1) ss2 (rfL ((lns (ins.getD k [])).getD j []) 0 ((lns (ins.getD k [])).getD j []).length fs2) rfl FR86 (by omega) SR FC cn bn MK LN)
              exact ⟨Or.inr rfl, Or.inr rfl, Or.inr rfl, Or.inr rfl, Or.inr rfl, Or.inl rfl, trivial⟩
      refine w_less ?_ (L48 _ h42 0 ss fs rfl FR42 (Nat.zero_le _) SR FC (by rw [List.drop_zero]) ⟨Nat.le_add_right _ _, Nat.le_add_right _ _, fun _ => rfl, fun _ => rfl⟩ MK LN)
      exact ⟨Or.inr rfl, Or.inr rfl, Or.inr rfl, Or.inr rfl, Or.inr rfl, Or.inl rfl, trivial⟩
  refine w_less ?_ (L12 _ h7 0 [] [] rfl FR7 (Nat.zero_le _) SR FC (by unfold cmW; rw [hil]; rfl) ⟨Nat.zero_le _, Nat.zero_le _⟩ MK)
  exact ⟨Or.inr rfl, Or.inr rfl, Or.inr rfl, Or.inr rfl, Or.inl rfl, Or.inl rfl, trivial⟩
