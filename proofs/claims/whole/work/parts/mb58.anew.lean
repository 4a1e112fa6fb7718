/-! the reference: all worked anew -/
theorem OmA.s2 {S : Shp} {m f : Nat} {F : List Nat} {h h' : Hp} {bu : Nat → OmV} (fr : Fr S m F h h') (hm : sK S m = 14) (D : OmA S h m f bu) (h1 : (f = 1667 ∨ f = 1675 ∨ f = 1668 ∨ f = 1669) ∧ f ∉ F ∧ ltF4 F := by decide) : OmA S h' m f bu := D.r fr hm h1
/-- what comes of a target's action -/
def exV (P : PlV) (pu : Nat → OutV) (u : Nat) : OutV := if tkA P u ≠ [] then (false, [], [], tkA P u) else wrkV (tD P.2.2 u) (tkI P pu u)
theorem taT_edge {ts : List (Bool × TgV)} {u k v : Nat} (hu : u < ts.length) (hH : tH ts u = true) (hk : k < (tgI (tD ts u)).length) (h : taT ts u k = (v : Int)) : edge ts u v := by
  refine ⟨k, ?_⟩
  unfold taT at h
  unfold inT
  by_cases q : inB (tgI (tD ts u)) k = true
  · rw [if_pos q] at h
    rw [if_pos ⟨hu, hk, hH, q⟩]; exact h
  · rw [if_neg q] at h; omega
theorem edge_taT {ts : List (Bool × TgV)} {u v : Nat} (e : edge ts u v) : ∃ k, k < (tgI (tD ts u)).length ∧ taT ts u k = (v : Int) := by
  obtain ⟨k, hk⟩ := e
  unfold inT at hk
  by_cases q : u < ts.length ∧ k < (tgI (tD ts u)).length ∧ tH ts u = true ∧ inB (tgI (tD ts u)) k = true
  · rw [if_pos q] at hk
    refine ⟨k, q.2.1, ?_⟩
    unfold taT
    rw [if_pos q.2.2.2]; exact hk
  · rw [if_neg q] at hk; omega
theorem exV_cg {P : PlV} {pu pu' : Nat → OutV} {u : Nat} (hu : u < P.2.2.length) (hH : tH P.2.2 u = true) (h : ∀ v, edge P.2.2 u v → pu v = pu' v) : exV P pu u = exV P pu' u := by
  unfold exV
  by_cases q : tkA P u ≠ []
  · rw [if_pos q, if_pos q]
  · rw [if_neg q, if_neg q]
    have e : tkI P pu u = tkI P pu' u := by
      unfold tkI inpL
      refine List.map_congr_left (fun x hx => ?_)
      obtain ⟨k, hk, ek⟩ := List.getElem_of_mem hx
      unfold inpV
      by_cases z : x.1 = true
      · rw [if_pos z, if_pos z]
        by_cases y : 0 ≤ tat P.2.2 x.2
        · rw [if_pos y, if_pos y]
          have gk : (tgI (tD P.2.2 u)).getD k (false, []) = x := by rw [List.getD_eq_getElem?_getD, List.getElem?_eq_getElem hk]; exact ek
          have ed : edge P.2.2 u (tat P.2.2 x.2).toNat := taT_edge hu hH hk (by
            unfold taT inB inN
            rw [gk, if_pos z]
            omega)
          rw [h _ ed]
        · rw [if_neg y, if_neg y]
      · rw [if_neg z, if_neg z]
    rw [e]
/-- targets of s worked so far: D, of these built B, what came of them -/
def AnI (P : PlV) (s D B : Nat) (bu : Nat → OmV) : Prop := D < 16384 ∧ B < 16384 ∧ (∀ u, bt B u → bt D u) ∧ (∀ u, bt D u → bt s u) ∧ ∀ u, bt D u → (∀ v, edge P.2.2 u v → bt B v) ∧ oV (bu u) = exV P (fun v => oV (bu v)) u ∧ (bt B u ↔ (bu u).2.2 = [])
/-- one more is worked -/
theorem AnI.add {P : PlV} {s D B u : Nat} {bu bu' : Nat → OmV} {B' : Nat} (I : AnI P s D B bu) (hs : bt s u) (hD : ¬ bt D u) (hE : ∀ v, edge P.2.2 u v → bt B v) (hH : ∀ z, bt s z → z < P.2.2.length ∧ tH P.2.2 z = true) (u14 : u < 14) (hx : oV (bu' u) = exV P (fun v => oV (bu v)) u) (ho : ∀ z, z ≠ u → bu' z = bu z) (hB : B' = if (bu' u).2.2 = [] then B ||| 2 ^ u else B) : AnI P s (D ||| 2 ^ u) B' bu' := by
  obtain ⟨i1, i2, i3, i4, i5⟩ := I
  have bB : ∀ z, bt B' z ↔ bt B z ∨ (z = u ∧ (bu' u).2.2 = []) := fun z => by
    rw [hB]
    by_cases q : (bu' u).2.2 = []
    · rw [if_pos q, bt_or]
      exact ⟨fun y => y.imp id (fun e => ⟨e, q⟩), fun y => y.imp id (fun e => e.1)⟩
    · rw [if_neg q]
      exact ⟨Or.inl, fun y => y.elim id (fun e => absurd e.2 q)⟩
  have nB : ¬ bt B u := fun z => hD (i3 u z)
  have B14 : B' < 16384 := by
    rw [hB]
    split
    · exact or_lt i2 u14
    · exact i2
  refine ⟨or_lt i1 u14, B14, fun z hz => bt_or.mpr (((bB z).mp hz).imp (i3 z) (fun e => e.1)), fun z hz => (bt_or.mp hz).elim (i4 z) (fun e => e ▸ hs), fun z hz => ?_⟩
  have cg : ∀ z, bt s z → (∀ v, edge P.2.2 z v → bt B v) → exV P (fun v => oV (bu' v)) z = exV P (fun v => oV (bu v)) z := fun z hz he => exV_cg (hH z hz).1 (hH z hz).2 (fun v ev => by
    have : v ≠ u := fun y => nB (y ▸ he v ev)
    show oV (bu' v) = oV (bu v)
    rw [ho v this])
  rcases bt_or.mp hz with q | q
  · obtain ⟨a, b, c⟩ := i5 z q
    have zu : z ≠ u := fun y => hD (y ▸ q)
    refine ⟨fun v ev => (bB v).mpr (Or.inl (a v ev)), ?_, ?_⟩
    · rw [ho z zu, cg z (i4 z q) a]; exact b
    · rw [bB z, ho z zu]
      exact ⟨fun y => y.elim c.mp (fun e => absurd e.1 zu), fun y => Or.inl (c.mpr y)⟩
  · subst q
    refine ⟨fun v ev => (bB v).mpr (Or.inl (hE v ev)), ?_, ?_⟩
    · rw [cg z hs hE]; exact hx
    · rw [bB z]
      exact ⟨fun y => y.elim (fun e => absurd e nB) (fun e => e.2), fun y => Or.inr ⟨rfl, y⟩⟩
theorem or_gt {D u : Nat} (h : ¬ bt D u) : D < D ||| 2 ^ u := Nat.lt_of_le_of_ne Nat.left_le_or (fun e => h (by rw [e]; exact bt_or.mpr (Or.inr rfl)))
/-- those of D that are not of B -/
theorem andn_n {a b : Nat} (ha : a < 16384) (hb : b < 16384) : ∃ N, N < 16384 ∧ (i32 ((a : Nat) : Int) &&& i32 ((i32 ((b : Nat) : Int) ^^^ i32 (-1)).toInt)).toInt = ((N : Nat) : Int) ∧ ∀ u, bt N u ↔ bt a u ∧ ¬ bt b u := by
  have e1 : i32 ((i32 ((b : Nat) : Int) ^^^ i32 (-1)).toInt) = i32 ((b : Nat) : Int) ^^^ i32 (-1) := Int32.ofInt_toInt _
  rw [e1]
  refine ⟨(BitVec.ofNat 32 a &&& (BitVec.ofNat 32 b ^^^ BitVec.allOnes 32)).toNat, ?_, ?_, fun u => ?_⟩
  · rw [BitVec.toNat_and, BitVec.toNat_ofNat, Nat.mod_eq_of_lt (by omega)]
    exact Nat.lt_of_le_of_lt Nat.and_le_left ha
  · show BitVec.toInt ((i32 ((a : Nat) : Int)).toBitVec &&& ((i32 ((b : Nat) : Int)).toBitVec ^^^ (i32 (-1)).toBitVec)) = _
    rw [bv_n, bv_n, show (i32 (-1)).toBitVec = BitVec.allOnes 32 by decide]
    have lt : (BitVec.ofNat 32 a &&& (BitVec.ofNat 32 b ^^^ BitVec.allOnes 32)).toNat < 16384 := by
      rw [BitVec.toNat_and, BitVec.toNat_ofNat, Nat.mod_eq_of_lt (by omega)]
      exact Nat.lt_of_le_of_lt Nat.and_le_left ha
    exact BitVec.toInt_eq_toNat_of_lt (by omega)
  · rw [bt_iff, bt_iff, bt_iff, BitVec.testBit_toNat, BitVec.getLsbD_and, BitVec.getLsbD_xor, BitVec.getLsbD_allOnes, BitVec.getLsbD_ofNat, BitVec.getLsbD_ofNat]
    rcases Nat.lt_or_ge u 32 with q | q
    · simp [q]
    · have h1 : a.testBit u = false := Nat.testBit_lt_two_pow (Nat.lt_of_lt_of_le ha (Nat.le_trans (show 16384 ≤ 2 ^ 32 by decide) (Nat.pow_le_pow_right (by decide) q)))
      simp [h1]
theorem shl31 {n : Nat} (hn : n < 2147483648) : (i32 ((n : Nat) : Int) <<< (i32 31 &&& 31)).toInt = 0 ↔ ¬ n % 2 = 1 := by
  show BitVec.toInt ((i32 ((n : Nat) : Int)).toBitVec <<< ((i32 31 &&& 31).toBitVec.smod 32#32)) = 0 ↔ _
  rw [show (i32 31 &&& 31).toBitVec.smod 32#32 = 31#32 by decide, bv_n]
  have e : (BitVec.ofNat 32 n <<< 31#32).toNat = n % 2 * 2147483648 := by
    show (BitVec.ofNat 32 n <<< (31#32).toNat).toNat = _
    rw [BitVec.toNat_shiftLeft, Nat.shiftLeft_eq, BitVec.toNat_ofNat, Nat.mod_eq_of_lt (show n < 2 ^ 32 by omega)]
    show n * 2 ^ 31 % 2 ^ 32 = _
    omega
  rw [BitVec.toInt_eq_toNat_cond, e]
  have := Nat.mod_two_eq_zero_or_one n
  split <;> omega
/-- the lowest with a property -/
def lws (n : Nat) (p : Nat → Prop) (u : Nat) : Prop := u < n ∧ p u ∧ ∀ z, z < u → ¬ p z
/-- what is told of targets worked anew -/
def anT (P : PlV) (s D B : Nat) (bu bp : Nat → OmV) (pb : Nat → Bool) (T : List Nat) : Prop :=
  (∃ u, lws P.2.2.length (fun u => bt D u ∧ ¬ bt B u) u ∧ T = txt 7 ++ (tgN (tD P.2.2 u) ++ (txt 8 ++ ((bu u).2.2).map told))) ∨
  ((∀ u, u < P.2.2.length → ¬ (bt D u ∧ ¬ bt B u)) ∧ ((∃ u, lws P.2.2.length (fun u => bt s u ∧ ¬ (pb u = true ∧ (bp u).1 = (bu u).1 ∧ (bp u).2.1 = (bu u).2.1)) u ∧ T = txt 39 ++ tgN (tD P.2.2 u)) ∨ ((∀ u, u < P.2.2.length → ¬ (bt s u ∧ ¬ (pb u = true ∧ (bp u).1 = (bu u).1 ∧ (bp u).2.1 = (bu u).2.1))) ∧ T = txt 38)))
theorem taT_lt2 (ts : List (Bool × TgV)) (u k : Nat) : -1 ≤ taT ts u k ∧ taT ts u k < ts.length := by
  unfold taT
  split
  · exact tat_rg ts _
  · omega
theorem d307_0 : dc 307 0 = some (.aload_n 0, 1) := by decide +kernel
theorem d307_1 : dc 307 1 = some (.dload 1664, 4) := by decide +kernel
theorem d307_4 : dc 307 4 = some (.iload_n 1, 5) := by decide +kernel
theorem d307_5 : dc 307 5 = some (.invokevirtual 230, 8) := by decide +kernel
theorem d307_8 : dc 307 8 = some (.istore_n 2, 9) := by decide +kernel
theorem d307_9 : dc 307 9 = some (.iconst 0, 10) := by decide +kernel
theorem d307_10 : dc 307 10 = some (.istore_n 3, 11) := by decide +kernel
theorem d307_11 : dc 307 11 = some (.iconst 0, 12) := by decide +kernel
theorem d307_12 : dc 307 12 = some (.istore 4, 14) := by decide +kernel
theorem d307_14 : dc 307 14 = some (.iconst 1, 15) := by decide +kernel
theorem d307_15 : dc 307 15 = some (.istore 5, 17) := by decide +kernel
theorem d307_17 : dc 307 17 = some (.iload 5, 19) := by decide +kernel
theorem d307_19 : dc 307 19 = some (.ifCond .eq ((227 : Nat) : Int), 22) := by decide +kernel
theorem d307_22 : dc 307 22 = some (.iconst 0, 23) := by decide +kernel
theorem d307_23 : dc 307 23 = some (.istore 5, 25) := by decide +kernel
theorem d307_25 : dc 307 25 = some (.iconst 0, 26) := by decide +kernel
theorem d307_26 : dc 307 26 = some (.istore 6, 28) := by decide +kernel
theorem d307_28 : dc 307 28 = some (.iload 6, 30) := by decide +kernel
theorem d307_30 : dc 307 30 = some (.aload_n 0, 31) := by decide +kernel
theorem d307_31 : dc 307 31 = some (.dload 1664, 34) := by decide +kernel
theorem d307_34 : dc 307 34 = some (.getfield 1417, 37) := by decide +kernel
theorem d307_37 : dc 307 37 = some (.if_icmp .ge ((224 : Nat) : Int), 40) := by decide +kernel
theorem d307_40 : dc 307 40 = some (.iload_n 2, 41) := by decide +kernel
theorem d307_41 : dc 307 41 = some (.iload 6, 43) := by decide +kernel
theorem d307_43 : dc 307 43 = some (.ishr, 44) := by decide +kernel
theorem d307_44 : dc 307 44 = some (.iconst 1, 45) := by decide +kernel
theorem d307_45 : dc 307 45 = some (.iand, 46) := by decide +kernel
theorem d307_46 : dc 307 46 = some (.iconst 1, 47) := by decide +kernel
theorem d307_47 : dc 307 47 = some (.if_icmp .ne ((63 : Nat) : Int), 50) := by decide +kernel
theorem d307_50 : dc 307 50 = some (.iload_n 3, 51) := by decide +kernel
theorem d307_51 : dc 307 51 = some (.iload 6, 53) := by decide +kernel
theorem d307_53 : dc 307 53 = some (.ishr, 54) := by decide +kernel
theorem d307_54 : dc 307 54 = some (.iconst 1, 55) := by decide +kernel
theorem d307_55 : dc 307 55 = some (.iand, 56) := by decide +kernel
theorem d307_56 : dc 307 56 = some (.ifCond .ne ((63 : Nat) : Int), 59) := by decide +kernel
theorem d307_59 : dc 307 59 = some (.iconst 1, 60) := by decide +kernel
theorem d307_60 : dc 307 60 = some (.goto ((64 : Nat) : Int), 63) := by decide +kernel
theorem d307_63 : dc 307 63 = some (.iconst 0, 64) := by decide +kernel
theorem d307_64 : dc 307 64 = some (.istore 7, 66) := by decide +kernel
theorem d307_66 : dc 307 66 = some (.iconst 0, 67) := by decide +kernel
theorem d307_67 : dc 307 67 = some (.istore 8, 69) := by decide +kernel
theorem d307_69 : dc 307 69 = some (.iload 8, 71) := by decide +kernel
theorem d307_71 : dc 307 71 = some (.aload_n 0, 72) := by decide +kernel
theorem d307_72 : dc 307 72 = some (.dload 1664, 75) := by decide +kernel
theorem d307_75 : dc 307 75 = some (.dload 1424, 78) := by decide +kernel
theorem d307_78 : dc 307 78 = some (.iload 6, 80) := by decide +kernel
theorem d307_80 : dc 307 80 = some (.iaload, 81) := by decide +kernel
theorem d307_81 : dc 307 81 = some (.if_icmp .ge ((131 : Nat) : Int), 84) := by decide +kernel
theorem d307_84 : dc 307 84 = some (.iload 7, 86) := by decide +kernel
theorem d307_86 : dc 307 86 = some (.ifCond .eq ((131 : Nat) : Int), 89) := by decide +kernel
theorem d307_89 : dc 307 89 = some (.aload_n 0, 90) := by decide +kernel
theorem d307_90 : dc 307 90 = some (.dload 1664, 93) := by decide +kernel
theorem d307_93 : dc 307 93 = some (.iload 6, 95) := by decide +kernel
theorem d307_95 : dc 307 95 = some (.iload 8, 97) := by decide +kernel
theorem d307_97 : dc 307 97 = some (.invokevirtual 231, 100) := by decide +kernel
theorem d307_100 : dc 307 100 = some (.istore 9, 102) := by decide +kernel
theorem d307_102 : dc 307 102 = some (.iload 9, 104) := by decide +kernel
theorem d307_104 : dc 307 104 = some (.ifCond .lt ((118 : Nat) : Int), 107) := by decide +kernel
theorem d307_107 : dc 307 107 = some (.iload 4, 109) := by decide +kernel
theorem d307_109 : dc 307 109 = some (.iload 9, 111) := by decide +kernel
theorem d307_111 : dc 307 111 = some (.ishr, 112) := by decide +kernel
theorem d307_112 : dc 307 112 = some (.iconst 1, 113) := by decide +kernel
theorem d307_113 : dc 307 113 = some (.iand, 114) := by decide +kernel
theorem d307_114 : dc 307 114 = some (.iconst 1, 115) := by decide +kernel
theorem d307_115 : dc 307 115 = some (.if_icmp .ne ((122 : Nat) : Int), 118) := by decide +kernel
theorem d307_118 : dc 307 118 = some (.iconst 1, 119) := by decide +kernel
theorem d307_119 : dc 307 119 = some (.goto ((123 : Nat) : Int), 122) := by decide +kernel
theorem d307_122 : dc 307 122 = some (.iconst 0, 123) := by decide +kernel
theorem d307_123 : dc 307 123 = some (.istore 7, 125) := by decide +kernel
theorem d307_125 : dc 307 125 = some (.iinc 8 1, 128) := by decide +kernel
theorem d307_128 : dc 307 128 = some (.goto ((69 : Nat) : Int), 131) := by decide +kernel
theorem d307_131 : dc 307 131 = some (.iload 7, 133) := by decide +kernel
theorem d307_133 : dc 307 133 = some (.ifCond .ne ((139 : Nat) : Int), 136) := by decide +kernel
theorem d307_136 : dc 307 136 = some (.goto ((218 : Nat) : Int), 139) := by decide +kernel
theorem d307_139 : dc 307 139 = some (.iconst 1, 140) := by decide +kernel
theorem d307_140 : dc 307 140 = some (.istore 5, 142) := by decide +kernel
theorem d307_142 : dc 307 142 = some (.iload_n 3, 143) := by decide +kernel
theorem d307_143 : dc 307 143 = some (.iconst 1, 144) := by decide +kernel
theorem d307_144 : dc 307 144 = some (.iload 6, 146) := by decide +kernel
theorem d307_146 : dc 307 146 = some (.ishl, 147) := by decide +kernel
theorem d307_147 : dc 307 147 = some (.ior, 148) := by decide +kernel
theorem d307_148 : dc 307 148 = some (.istore_n 3, 149) := by decide +kernel
theorem d307_149 : dc 307 149 = some (.aload_n 0, 150) := by decide +kernel
theorem d307_150 : dc 307 150 = some (.dload 1664, 153) := by decide +kernel
theorem d307_153 : dc 307 153 = some (.iload 6, 155) := by decide +kernel
theorem d307_155 : dc 307 155 = some (.aload_n 0, 156) := by decide +kernel
theorem d307_156 : dc 307 156 = some (.dload 1669, 159) := by decide +kernel
theorem d307_159 : dc 307 159 = some (.iload 6, 161) := by decide +kernel
theorem d307_161 : dc 307 161 = some (.aaload, 162) := by decide +kernel
theorem d307_162 : dc 307 162 = some (.invokevirtual 249, 165) := by decide +kernel
theorem d307_165 : dc 307 165 = some (.ifCond .ne ((196 : Nat) : Int), 168) := by decide +kernel
theorem d307_168 : dc 307 168 = some (.aload_n 0, 169) := by decide +kernel
theorem d307_169 : dc 307 169 = some (.aload_n 0, 170) := by decide +kernel
theorem d307_170 : dc 307 170 = some (.dload 1664, 173) := by decide +kernel
theorem d307_173 : dc 307 173 = some (.iload 6, 175) := by decide +kernel
theorem d307_175 : dc 307 175 = some (.aload_n 0, 176) := by decide +kernel
theorem d307_176 : dc 307 176 = some (.dload 1669, 179) := by decide +kernel
theorem d307_179 : dc 307 179 = some (.invokevirtual 265, 182) := by decide +kernel
theorem d307_182 : dc 307 182 = some (.aload_n 0, 183) := by decide +kernel
theorem d307_183 : dc 307 183 = some (.dload 1669, 186) := by decide +kernel
theorem d307_186 : dc 307 186 = some (.iload 6, 188) := by decide +kernel
theorem d307_188 : dc 307 188 = some (.aaload, 189) := by decide +kernel
theorem d307_189 : dc 307 189 = some (.aload_n 0, 190) := by decide +kernel
theorem d307_190 : dc 307 190 = some (.dload 1683, 193) := by decide +kernel
theorem d307_193 : dc 307 193 = some (.invokevirtual 263, 196) := by decide +kernel
theorem d307_196 : dc 307 196 = some (.aload_n 0, 197) := by decide +kernel
theorem d307_197 : dc 307 197 = some (.dload 1669, 200) := by decide +kernel
theorem d307_200 : dc 307 200 = some (.iload 6, 202) := by decide +kernel
theorem d307_202 : dc 307 202 = some (.aaload, 203) := by decide +kernel
theorem d307_203 : dc 307 203 = some (.getfield 1541, 206) := by decide +kernel
theorem d307_206 : dc 307 206 = some (.ifCond .ne ((218 : Nat) : Int), 209) := by decide +kernel
theorem d307_209 : dc 307 209 = some (.iload 4, 211) := by decide +kernel
theorem d307_211 : dc 307 211 = some (.iconst 1, 212) := by decide +kernel
theorem d307_212 : dc 307 212 = some (.iload 6, 214) := by decide +kernel
theorem d307_214 : dc 307 214 = some (.ishl, 215) := by decide +kernel
theorem d307_215 : dc 307 215 = some (.ior, 216) := by decide +kernel
theorem d307_216 : dc 307 216 = some (.istore 4, 218) := by decide +kernel
theorem d307_218 : dc 307 218 = some (.iinc 6 1, 221) := by decide +kernel
theorem d307_221 : dc 307 221 = some (.goto ((28 : Nat) : Int), 224) := by decide +kernel
theorem d307_224 : dc 307 224 = some (.goto ((17 : Nat) : Int), 227) := by decide +kernel
theorem d307_227 : dc 307 227 = some (.iconst 0, 228) := by decide +kernel
theorem d307_228 : dc 307 228 = some (.istore 6, 230) := by decide +kernel
theorem d307_230 : dc 307 230 = some (.iload 6, 232) := by decide +kernel
theorem d307_232 : dc 307 232 = some (.aload_n 0, 233) := by decide +kernel
theorem d307_233 : dc 307 233 = some (.dload 1664, 236) := by decide +kernel
theorem d307_236 : dc 307 236 = some (.getfield 1417, 239) := by decide +kernel
theorem d307_239 : dc 307 239 = some (.if_icmp .ge ((284 : Nat) : Int), 242) := by decide +kernel
theorem d307_242 : dc 307 242 = some (.iload_n 3, 243) := by decide +kernel
theorem d307_243 : dc 307 243 = some (.iload 4, 245) := by decide +kernel
theorem d307_245 : dc 307 245 = some (.iconst (-1), 246) := by decide +kernel
theorem d307_246 : dc 307 246 = some (.ixor, 247) := by decide +kernel
theorem d307_247 : dc 307 247 = some (.iand, 248) := by decide +kernel
theorem d307_248 : dc 307 248 = some (.iload 6, 250) := by decide +kernel
theorem d307_250 : dc 307 250 = some (.ishr, 251) := by decide +kernel
theorem d307_251 : dc 307 251 = some (.bipush 31, 253) := by decide +kernel
theorem d307_253 : dc 307 253 = some (.ishl, 254) := by decide +kernel
theorem d307_254 : dc 307 254 = some (.ifCond .ne ((260 : Nat) : Int), 257) := by decide +kernel
theorem d307_257 : dc 307 257 = some (.goto ((278 : Nat) : Int), 260) := by decide +kernel
theorem d307_260 : dc 307 260 = some (.aload_n 0, 261) := by decide +kernel
theorem d307_261 : dc 307 261 = some (.aload_n 0, 262) := by decide +kernel
theorem d307_262 : dc 307 262 = some (.dload 1664, 265) := by decide +kernel
theorem d307_265 : dc 307 265 = some (.iload 6, 267) := by decide +kernel
theorem d307_267 : dc 307 267 = some (.aload_n 0, 268) := by decide +kernel
theorem d307_268 : dc 307 268 = some (.dload 1669, 271) := by decide +kernel
theorem d307_271 : dc 307 271 = some (.iload 6, 273) := by decide +kernel
theorem d307_273 : dc 307 273 = some (.aaload, 274) := by decide +kernel
theorem d307_274 : dc 307 274 = some (.invokevirtual 292, 277) := by decide +kernel
theorem d307_277 : dc 307 277 = some (.return_, 278) := by decide +kernel
theorem d307_278 : dc 307 278 = some (.iinc 6 1, 281) := by decide +kernel
theorem d307_281 : dc 307 281 = some (.goto ((230 : Nat) : Int), 284) := by decide +kernel
theorem d307_284 : dc 307 284 = some (.iconst 0, 285) := by decide +kernel
theorem d307_285 : dc 307 285 = some (.istore 6, 287) := by decide +kernel
theorem d307_287 : dc 307 287 = some (.iload 6, 289) := by decide +kernel
theorem d307_289 : dc 307 289 = some (.aload_n 0, 290) := by decide +kernel
theorem d307_290 : dc 307 290 = some (.dload 1664, 293) := by decide +kernel
theorem d307_293 : dc 307 293 = some (.getfield 1417, 296) := by decide +kernel
theorem d307_296 : dc 307 296 = some (.if_icmp .ge ((365 : Nat) : Int), 299) := by decide +kernel
theorem d307_299 : dc 307 299 = some (.iload_n 2, 300) := by decide +kernel
theorem d307_300 : dc 307 300 = some (.iload 6, 302) := by decide +kernel
theorem d307_302 : dc 307 302 = some (.ishr, 303) := by decide +kernel
theorem d307_303 : dc 307 303 = some (.iconst 1, 304) := by decide +kernel
theorem d307_304 : dc 307 304 = some (.iand, 305) := by decide +kernel
theorem d307_305 : dc 307 305 = some (.ifCond .eq ((359 : Nat) : Int), 308) := by decide +kernel
theorem d307_308 : dc 307 308 = some (.aload_n 0, 309) := by decide +kernel
theorem d307_309 : dc 307 309 = some (.dload 1666, 312) := by decide +kernel
theorem d307_312 : dc 307 312 = some (.iload 6, 314) := by decide +kernel
theorem d307_314 : dc 307 314 = some (.baload, 315) := by decide +kernel
theorem d307_315 : dc 307 315 = some (.ifCond .eq ((341 : Nat) : Int), 318) := by decide +kernel
theorem d307_318 : dc 307 318 = some (.aload_n 0, 319) := by decide +kernel
theorem d307_319 : dc 307 319 = some (.dload 1667, 322) := by decide +kernel
theorem d307_322 : dc 307 322 = some (.iload 6, 324) := by decide +kernel
theorem d307_324 : dc 307 324 = some (.aaload, 325) := by decide +kernel
theorem d307_325 : dc 307 325 = some (.aload_n 0, 326) := by decide +kernel
theorem d307_326 : dc 307 326 = some (.dload 1669, 329) := by decide +kernel
theorem d307_329 : dc 307 329 = some (.iload 6, 331) := by decide +kernel
theorem d307_331 : dc 307 331 = some (.aaload, 332) := by decide +kernel
theorem d307_332 : dc 307 332 = some (.invokevirtual 308, 335) := by decide +kernel
theorem d307_335 : dc 307 335 = some (.ifCond .eq ((341 : Nat) : Int), 338) := by decide +kernel
theorem d307_338 : dc 307 338 = some (.goto ((359 : Nat) : Int), 341) := by decide +kernel
theorem d307_341 : dc 307 341 = some (.aload_n 0, 342) := by decide +kernel
theorem d307_342 : dc 307 342 = some (.getstatic 89, 345) := by decide +kernel
theorem d307_345 : dc 307 345 = some (.invokevirtual 217, 348) := by decide +kernel
theorem d307_348 : dc 307 348 = some (.aload_n 0, 349) := by decide +kernel
theorem d307_349 : dc 307 349 = some (.aload_n 0, 350) := by decide +kernel
theorem d307_350 : dc 307 350 = some (.dload 1664, 353) := by decide +kernel
theorem d307_353 : dc 307 353 = some (.iload 6, 355) := by decide +kernel
theorem d307_355 : dc 307 355 = some (.invokevirtual 293, 358) := by decide +kernel
theorem d307_358 : dc 307 358 = some (.return_, 359) := by decide +kernel
theorem d307_359 : dc 307 359 = some (.iinc 6 1, 362) := by decide +kernel
theorem d307_362 : dc 307 362 = some (.goto ((287 : Nat) : Int), 365) := by decide +kernel
theorem d307_365 : dc 307 365 = some (.aload_n 0, 366) := by decide +kernel
theorem d307_366 : dc 307 366 = some (.getstatic 88, 369) := by decide +kernel
theorem d307_369 : dc 307 369 = some (.invokevirtual 217, 372) := by decide +kernel
theorem d307_372 : dc 307 372 = some (.return_, 373) := by decide +kernel
theorem k_M_tellAnew {S : Shp} {G : Nat → Option Nat} {d : Nat} {h : Hp} {Q : Option MV → Hp → Prop} {m : Nat} {t : Nat} {N0 : PlV} {la : List Nat} {bu0 bp : Nat → OmV} {pb : Nat → Bool} (ok : Ok S h) (h1 : 20 ≤ d) (hm : sK S m = 14) (NF : DfC S h (sT S 1664 m) N0) (TE : TeR S h m la) (FO : OmS S h (sT S 1669 m) bu0) (OP : OmA S h m 1667 bp) (PU : PuR S h m pb) (tg : Tg S G) (ht : t < N0.2.2.length) (hHt : tH N0.2.2 t = true) (hO : ∀ t, t < N0.2.2.length → okN (tgW (tD N0.2.2 t)) ∧ ∃ r : Nat, rix (tgR (tD N0.2.2 t)) = (r : Int)) (hcl : ∀ u, cln (tgN (tD N0.2.2 u)))
    (kk : ∀ h' (s D B : Nat) (bu : Nat → OmV) (T : List Nat), Fr S m [1683, 1685, 1686, 1687, 1688, 1698, 1699, 1700, 1689, 1690, 1691, 1692, 1693, 1694, 1695, 1696, 1697, 1681, 1682, 1684, 1677, 1669, 1732, 1733] h h' → OmS S h' (sT S 1669 m) bu → (∀ z, bt s z ↔ Rc N0.2.2 t z) → AnI N0 s D B bu → (∀ u, bt s u → ¬ bt D u → ¬ ∀ v, edge N0.2.2 u v → bt B v) → anT N0 s D B bu bp pb T → TeR S h' m (addBs 20000 la T) → Q none h') : Cl G d 307 [vR (some m), vI (t : Nat)] h Q := by
  show Wp G d 307 0 [some (vR (some m)), some (vI (t : Nat)), none, none, none, none, none, none, none, none] [] h Q
  have NF_0 := NF
  have TE_0 := TE
  have FO_0 := FO
  have OP_0 := OP
  have PU_0 := PU
  have hl14 := NF.2.2.2.1
  have hd0 := kT1664 ok hm
  refine w_aload_n d307_0 rfl ?_
  refine w_dloadS d307_1 (ok.kd hm) (fr1664 ok hm) ?_
  refine w_iload_n d307_4 rfl ?_
  refine w_callv2 d307_5 (by omega) rfl (ok.kd (kT1664 ok hm)) (by simp) (Nat.le_of_ble_eq_true rfl) ?_
  refine k_D_needs ok (by omega) (kT1664 ok hm) NF.2.2 ht hHt (fun s sl_ sb => ?_)
  have hH : ∀ z, bt s z → z < N0.2.2.length ∧ tH N0.2.2 z = true := fun z hz => ⟨Rc_lt ht ((sb z).mp hz), Rc_H hHt ((sb z).mp hz)⟩
  refine w_istore2 d307_8 rfl ?_
  refine w_iconst d307_9 (by decide) ?_
  refine w_istore3 d307_10 rfl ?_
  refine w_iconst d307_11 (by decide) ?_
  refine w_istore4 d307_12 rfl ?_
  refine w_iconst d307_14 (by decide) ?_
  refine w_istore5 d307_15 rfl ?_
  have L17 : ∀ (m17 : Nat) (g_ : Hp) (De Be : Nat) (bo : Bool) (bue : Nat → OmV), 2 * (16384 - De) + (if bo = true then 1 else 0) = m17 → Fr S m [1683, 1685, 1686, 1687, 1688, 1698, 1699, 1700, 1689, 1690, 1691, 1692, 1693, 1694, 1695, 1696, 1697, 1681, 1682, 1684, 1677, 1669, 1732, 1733] h g_ → (AnI N0 s De Be bue) → (OmS S g_ (sT S 1669 m) bue) → (bo = false → ∀ u, bt s u → ¬ bt De u → ¬ ∀ v, edge N0.2.2 u v → bt Be v) → (TeR S g_ m la) → Wp G d 307 17 [some (vR (some m)), some (vI (t : Nat)), some (vI (s : Nat)), some (vI (De : Nat)), some (vI (Be : Nat)), some (vI (b2i bo)), none, none, none, none] [] g_ Q := by
    intro m17
    induction m17 using Nat.strongRecOn with | ind m17 IH17 => ?_
    intro g_ De Be bo bue hm17 FRg_ I FO cls TE
    have okg_ := FRg_.ok
    have NF := DfC.r (f := 1664) FRg_ hm (by decide) NF_0
    have OP := OmA.s2 FRg_ hm OP_0
    have PU := PU_0.r FRg_ hm
    refine w_iload d307_17 rfl ?_
    refine w_ifeq d307_19 (fun c19 => ?_) (fun c19 => ?_)
    · have bof : bo = false := by
        cases hz : bo with
        | true => rw [hz] at c19; exact absurd c19 (by decide)
        | false => rfl
      have closed := cls bof
      refine w_iconst d307_227 (by decide) ?_
      refine w_istore6 d307_228 rfl ?_
      have L230 : ∀ (m230 : Nat) (u : Nat), N0.2.2.length - u = m230 → (u ≤ N0.2.2.length) → (∀ z, z < u → ¬ (bt De z ∧ ¬ bt Be z)) → Wp G d 307 230 [some (vR (some m)), some (vI (t : Nat)), some (vI (s : Nat)), some (vI (De : Nat)), some (vI (Be : Nat)), some (vI (b2i bo)), some (vI (u : Nat)), none, none, none] [] g_ Q := by
        intro m230
        induction m230 using Nat.strongRecOn with | ind m230 IH230 => ?_
        intro u hm230 ul hs
        refine w_iload d307_230 rfl ?_
        refine w_aload_n d307_232 rfl ?_
        refine w_dloadS d307_233 (okg_.kd hm) (fr1664 okg_ hm) ?_
        refine w_getI (x := ((N0.2.2.length : Nat) : Int)) d307_236 (okg_.kd (kT1664 okg_ hm)) NF.2.2.1 ?_
        refine w_icmpge d307_239 (fun c239 => ?_) (fun c239 => ?_)
        · have eu : u = N0.2.2.length := by omega
          have nof : ∀ z, z < N0.2.2.length → ¬ (bt De z ∧ ¬ bt Be z) := fun z hz => hs z (by omega)
          refine w_iconst d307_284 (by decide) ?_
          refine w_istore6 d307_285 rfl ?_
          have L287 : ∀ (m287 : Nat) (u : Nat), N0.2.2.length - u = m287 → (u ≤ N0.2.2.length) → (∀ z, z < u → ¬ (bt s z ∧ ¬ (pb z = true ∧ (bp z).1 = (bue z).1 ∧ (bp z).2.1 = (bue z).2.1))) → Wp G d 307 287 [some (vR (some m)), some (vI (t : Nat)), some (vI (s : Nat)), some (vI (De : Nat)), some (vI (Be : Nat)), some (vI (b2i bo)), some (vI (u : Nat)), none, none, none] [] g_ Q := by
            intro m287
            induction m287 using Nat.strongRecOn with | ind m287 IH287 => ?_
            intro u hm287 ul hs
            refine w_iload d307_287 rfl ?_
            refine w_aload_n d307_289 rfl ?_
            refine w_dloadS d307_290 (okg_.kd hm) (fr1664 okg_ hm) ?_
            refine w_getI (x := ((N0.2.2.length : Nat) : Int)) d307_293 (okg_.kd (kT1664 okg_ hm)) NF.2.2.1 ?_
            refine w_icmpge d307_296 (fun c296 => ?_) (fun c296 => ?_)
            · have eu : u = N0.2.2.length := by omega
              refine w_aload_n d307_365 rfl ?_
              obtain ⟨g366, v366, s366⟩ := tg.al okg_ 38 (by decide)
              refine w_getstaticS d307_366 v366 ?_
              refine w_callv2 d307_369 (by omega) rfl (okg_.kd hm) (by simp) (Nat.le_of_ble_eq_true rfl) ?_
              refine k_M_say okg_ (by omega) hm TE s366 (fun h369 m369 q369 TE => ?_)
              have f369 : Fr S m [1732, 1733] _ _ := Fr.mk okg_ m369 (fun ζ q => q.elim ((fun ζ e => Or.inl e) ζ) ((fun ζ e => Or.inr ⟨1732, by decide, e ▸ U_refl⟩) ζ)) q369 (by decide)
              have ok369 := f369.ok
              have FR369 := Fr.tr (F := [1683, 1685, 1686, 1687, 1688, 1698, 1699, 1700, 1689, 1690, 1691, 1692, 1693, 1694, 1695, 1696, 1697, 1681, 1682, 1684, 1677, 1669, 1732, 1733]) FRg_ f369 (by decide) (by decide)
              have NF := DfC.r (f := 1664) f369 hm (by decide) NF
              have OP := OmA.s2 f369 hm OP
              have PU := PU.r f369 hm
              have FO := OmS.r (f := 1669) f369 hm (Or.inr rfl) (by decide) FO
              refine w_return d307_372 ?_
              exact kk _ s De Be bue _ FR369 FO sb I closed (Or.inr ⟨fun z hz => nof z (by omega), Or.inr ⟨fun z hz => hs z (by omega), rfl⟩⟩) TE
            · have hu : u < N0.2.2.length := by omega
              have u14 : u < 14 := by omega
              refine w_iload_n d307_299 rfl ?_
              refine w_iload d307_300 rfl ?_
              refine w_ishr d307_302 ?_
              rw [shr_n (n := s) (u := u) (by omega) (by omega)]
              refine w_iconst d307_303 (by decide) ?_
              refine w_iand d307_304 ?_
              rw [and_1 (a := s / 2 ^ u) (div_lt (by omega))]
              refine w_ifeq d307_305 (fun c305 => ?_) (fun c305 => ?_)
              · have ns : ¬ (bt s u ∧ ¬ (pb u = true ∧ (bp u).1 = (bue u).1 ∧ (bp u).2.1 = (bue u).2.1)) := fun z => by have := z.1; unfold bt at this; omega
                refine w_iinc6 d307_359 rfl (by constructor <;> omega) ?_
                refine w_goto d307_362 ?_
                rw [show ((u : Nat) : Int) + 1 = ((u + 1 : Nat) : Int) by omega]
                refine w_less ?_ (IH287 _ (by omega) (u + 1) rfl (by omega) (fun z hz => by rcases Nat.lt_or_ge z u with y | y; exact hs z y; rw [show z = u by omega]; exact ns))
                exact ⟨Or.inr rfl, Or.inr rfl, Or.inr rfl, Or.inr rfl, Or.inr rfl, Or.inr rfl, Or.inr rfl, Or.inl rfl, Or.inl rfl, Or.inl rfl, trivial⟩
              · have bs : bt s u := by unfold bt; have := bt_v s u; omega
                refine w_aload_n d307_308 rfl ?_
                refine w_dloadS d307_309 (okg_.kd hm) (fr1666 okg_ hm) ?_
                refine w_iload d307_312 rfl ?_
                refine w_baloadV (x := (b2i (pb u))) d307_314 (gi1666 okg_ hm (by omega)) (PU u u14) ?_
                refine w_ifeq d307_315 (fun c315 => ?_) (fun c315 => ?_)
                · have pf : (pb u) = false := by
                    cases hz : (pb u) with
                    | true => rw [hz] at c315; exact absurd c315 (by decide)
                    | false => rfl
                  have yu : bt s u ∧ ¬ (pb u = true ∧ (bp u).1 = (bue u).1 ∧ (bp u).2.1 = (bue u).2.1) := ⟨bs, fun z => by rw [pf] at z; exact absurd z.1 (by decide)⟩
                  refine w_aload_n d307_341 rfl ?_
                  obtain ⟨g342, v342, s342⟩ := tg.al okg_ 39 (by decide)
                  refine w_getstaticS d307_342 v342 ?_
                  refine w_callv2 d307_345 (by omega) rfl (okg_.kd hm) (by simp) (Nat.le_of_ble_eq_true rfl) ?_
                  refine k_M_say okg_ (by omega) hm TE s342 (fun h345 m345 q345 TE => ?_)
                  have f345 : Fr S m [1732, 1733] _ _ := Fr.mk okg_ m345 (fun ζ q => q.elim ((fun ζ e => Or.inl e) ζ) ((fun ζ e => Or.inr ⟨1732, by decide, e ▸ U_refl⟩) ζ)) q345 (by decide)
                  have ok345 := f345.ok
                  have FR345 := Fr.tr (F := [1683, 1685, 1686, 1687, 1688, 1698, 1699, 1700, 1689, 1690, 1691, 1692, 1693, 1694, 1695, 1696, 1697, 1681, 1682, 1684, 1677, 1669, 1732, 1733]) FRg_ f345 (by decide) (by decide)
                  have NF := DfC.r (f := 1664) f345 hm (by decide) NF
                  have OP := OmA.s2 f345 hm OP
                  have PU := PU.r f345 hm
                  have FO := OmS.r (f := 1669) f345 hm (Or.inr rfl) (by decide) FO
                  refine w_aload_n d307_348 rfl ?_
                  refine w_aload_n d307_349 rfl ?_
                  refine w_dloadS d307_350 (ok345.kd hm) (fr1664 ok345 hm) ?_
                  refine w_iload d307_353 rfl ?_
                  refine w_callv3 d307_355 (by omega) rfl (ok345.kd hm) (by simp) (Nat.le_of_ble_eq_true rfl) ?_
                  refine k_M_sayName (fd := 1664) ok345 (by omega) hm TE NF (Or.inl rfl) hu (hcl u) (fun h355 f355 TE => ?_)
                  have ok355 := f355.ok
                  have FR355 := Fr.tr (F := [1683, 1685, 1686, 1687, 1688, 1698, 1699, 1700, 1689, 1690, 1691, 1692, 1693, 1694, 1695, 1696, 1697, 1681, 1682, 1684, 1677, 1669, 1732, 1733]) FR345 f355 (by decide) (by decide)
                  have NF := DfC.r (f := 1664) f355 hm (by decide) NF
                  have OP := OmA.s2 f355 hm OP
                  have PU := PU.r f355 hm
                  have FO := OmS.r (f := 1669) f355 hm (Or.inr rfl) (by decide) FO
                  rw [← addBs_app] at TE
                  refine w_return d307_358 ?_
                  exact kk _ s De Be bue _ FR355 FO sb I closed (Or.inr ⟨fun z hz => nof z (by omega), Or.inl ⟨u, ⟨hu, yu, hs⟩, rfl⟩⟩) TE
                · have pt : (pb u) = true := by
                    cases hz : (pb u) with
                    | true => rfl
                    | false => rw [hz] at c315; exact absurd rfl c315
                  refine w_aload_n d307_318 rfl ?_
                  refine w_dloadS d307_319 (okg_.kd hm) (fr1667 okg_ hm) ?_
                  refine w_iload d307_322 rfl ?_
                  have k324 := kE1667 okg_ hm (j := u) (by omega)
                  refine w_aaloadSN d307_324 (gi1667 okg_ hm (by omega)) (er1667 okg_ hm (by omega)) ?_
                  refine w_aload_n d307_325 rfl ?_
                  refine w_dloadS d307_326 (okg_.kd hm) (fr1669 okg_ hm) ?_
                  refine w_iload d307_329 rfl ?_
                  have k331 := kE1669 okg_ hm (j := u) (by omega)
                  refine w_aaloadSN d307_331 (gi1669 okg_ hm (by omega)) (er1669 okg_ hm (by omega)) ?_
                  refine w_callv2 d307_332 (by omega) rfl (okg_.kd k324) (by simp) (Nat.le_of_ble_eq_true rfl) ?_
                  refine k_O_isSame okg_ (by omega) k324 k331 (OP u u14) (FO u u14) ?_
                  refine w_ifeq d307_335 (fun c335 => ?_) (fun c335 => ?_)
                  · have ne : ¬ ((bp u).1 = (bue u).1 ∧ (bp u).2.1 = (bue u).2.1) := fun z => by rw [decide_eq_true z] at c335; exact absurd c335 (by decide)
                    have yu : bt s u ∧ ¬ (pb u = true ∧ (bp u).1 = (bue u).1 ∧ (bp u).2.1 = (bue u).2.1) := ⟨bs, fun z => ne z.2⟩
                    refine w_aload_n d307_341 rfl ?_
                    obtain ⟨g342, v342, s342⟩ := tg.al okg_ 39 (by decide)
                    refine w_getstaticS d307_342 v342 ?_
                    refine w_callv2 d307_345 (by omega) rfl (okg_.kd hm) (by simp) (Nat.le_of_ble_eq_true rfl) ?_
                    refine k_M_say okg_ (by omega) hm TE s342 (fun h345 m345 q345 TE => ?_)
                    have f345 : Fr S m [1732, 1733] _ _ := Fr.mk okg_ m345 (fun ζ q => q.elim ((fun ζ e => Or.inl e) ζ) ((fun ζ e => Or.inr ⟨1732, by decide, e ▸ U_refl⟩) ζ)) q345 (by decide)
                    have ok345 := f345.ok
                    have FR345 := Fr.tr (F := [1683, 1685, 1686, 1687, 1688, 1698, 1699, 1700, 1689, 1690, 1691, 1692, 1693, 1694, 1695, 1696, 1697, 1681, 1682, 1684, 1677, 1669, 1732, 1733]) FRg_ f345 (by decide) (by decide)
                    have NF := DfC.r (f := 1664) f345 hm (by decide) NF
                    have OP := OmA.s2 f345 hm OP
                    have PU := PU.r f345 hm
                    have FO := OmS.r (f := 1669) f345 hm (Or.inr rfl) (by decide) FO
                    refine w_aload_n d307_348 rfl ?_
                    refine w_aload_n d307_349 rfl ?_
                    refine w_dloadS d307_350 (ok345.kd hm) (fr1664 ok345 hm) ?_
                    refine w_iload d307_353 rfl ?_
                    refine w_callv3 d307_355 (by omega) rfl (ok345.kd hm) (by simp) (Nat.le_of_ble_eq_true rfl) ?_
                    refine k_M_sayName (fd := 1664) ok345 (by omega) hm TE NF (Or.inl rfl) hu (hcl u) (fun h355 f355 TE => ?_)
                    have ok355 := f355.ok
                    have FR355 := Fr.tr (F := [1683, 1685, 1686, 1687, 1688, 1698, 1699, 1700, 1689, 1690, 1691, 1692, 1693, 1694, 1695, 1696, 1697, 1681, 1682, 1684, 1677, 1669, 1732, 1733]) FR345 f355 (by decide) (by decide)
                    have NF := DfC.r (f := 1664) f355 hm (by decide) NF
                    have OP := OmA.s2 f355 hm OP
                    have PU := PU.r f355 hm
                    have FO := OmS.r (f := 1669) f355 hm (Or.inr rfl) (by decide) FO
                    rw [← addBs_app] at TE
                    refine w_return d307_358 ?_
                    exact kk _ s De Be bue _ FR355 FO sb I closed (Or.inr ⟨fun z hz => nof z (by omega), Or.inl ⟨u, ⟨hu, yu, hs⟩, rfl⟩⟩) TE
                  · have se : (bp u).1 = (bue u).1 ∧ (bp u).2.1 = (bue u).2.1 := by
                      by_cases z : (bp u).1 = (bue u).1 ∧ (bp u).2.1 = (bue u).2.1
                      · exact z
                      · rw [decide_eq_false z] at c335; exact absurd rfl c335
                    have ns : ¬ (bt s u ∧ ¬ (pb u = true ∧ (bp u).1 = (bue u).1 ∧ (bp u).2.1 = (bue u).2.1)) := fun z => z.2 ⟨pt, se⟩
                    refine w_goto d307_338 ?_
                    refine w_iinc6 d307_359 rfl (by constructor <;> omega) ?_
                    refine w_goto d307_362 ?_
                    rw [show ((u : Nat) : Int) + 1 = ((u + 1 : Nat) : Int) by omega]
                    refine w_less ?_ (IH287 _ (by omega) (u + 1) rfl (by omega) (fun z hz => by rcases Nat.lt_or_ge z u with y | y; exact hs z y; rw [show z = u by omega]; exact ns))
                    exact ⟨Or.inr rfl, Or.inr rfl, Or.inr rfl, Or.inr rfl, Or.inr rfl, Or.inr rfl, Or.inr rfl, Or.inl rfl, Or.inl rfl, Or.inl rfl, trivial⟩
          refine w_less ?_ (L287 _ 0 rfl (Nat.zero_le _) (fun z hz => absurd hz (Nat.not_lt_zero _)))
          exact ⟨Or.inr rfl, Or.inr rfl, Or.inr rfl, Or.inr rfl, Or.inr rfl, Or.inr rfl, Or.inr rfl, Or.inl rfl, Or.inl rfl, Or.inl rfl, trivial⟩
        · have hu : u < N0.2.2.length := by omega
          have u14 : u < 14 := by omega
          obtain ⟨N, n14, en, nb⟩ := andn_n I.1 I.2.1
          refine w_iload_n d307_242 rfl ?_
          refine w_iload d307_243 rfl ?_
          refine w_iconst d307_245 (by decide) ?_
          refine w_ixor d307_246 ?_
          refine w_iand d307_247 ?_
          rw [en]
          refine w_iload d307_248 rfl ?_
          refine w_ishr d307_250 ?_
          rw [shr_n (n := N) (u := u) (by omega) (by omega)]
          refine w_bipush d307_251 (by decide) ?_
          refine w_ishl d307_253 ?_
          refine w_ifne d307_254 (fun c254 => ?_) (fun c254 => ?_)
          · have yf : bt De u ∧ ¬ bt Be u := (nb u).mp (by
              rcases Nat.mod_two_eq_zero_or_one (N / 2 ^ u) with z | z
              · exact absurd ((shl31 (n := N / 2 ^ u) (div_lt (by omega))).mpr (by omega)) c254
              · exact z)
            refine w_aload_n d307_260 rfl ?_
            refine w_aload_n d307_261 rfl ?_
            refine w_dloadS d307_262 (okg_.kd hm) (fr1664 okg_ hm) ?_
            refine w_iload d307_265 rfl ?_
            refine w_aload_n d307_267 rfl ?_
            refine w_dloadS d307_268 (okg_.kd hm) (fr1669 okg_ hm) ?_
            refine w_iload d307_271 rfl ?_
            have k273 := kE1669 okg_ hm (j := u) (by omega)
            refine w_aaloadSN d307_273 (gi1669 okg_ hm (by omega)) (er1669 okg_ hm (by omega)) ?_
            refine w_callv4 d307_274 (by omega) rfl (okg_.kd hm) (by simp) (Nat.le_of_ble_eq_true rfl) ?_
            refine k_M_sayFailed (fd := 1664) (g := 1669) (j := u) okg_ (by omega) hm TE NF tg (Or.inl rfl) hu (hcl u) (by decide) u14 rfl (FO u u14) (fun h274 f274 TE => ?_)
            have ok274 := f274.ok
            have FR274 := Fr.tr (F := [1683, 1685, 1686, 1687, 1688, 1698, 1699, 1700, 1689, 1690, 1691, 1692, 1693, 1694, 1695, 1696, 1697, 1681, 1682, 1684, 1677, 1669, 1732, 1733]) FRg_ f274 (by decide) (by decide)
            have NF := DfC.r (f := 1664) f274 hm (by decide) NF
            have OP := OmA.s2 f274 hm OP
            have PU := PU.r f274 hm
            have FO := OmS.r (f := 1669) f274 hm (Or.inr rfl) (by decide) FO
            refine w_return d307_277 ?_
            exact kk _ s De Be bue _ FR274 FO sb I closed (Or.inl ⟨u, ⟨hu, yf, hs⟩, rfl⟩) TE
          · have nf : ¬ (bt De u ∧ ¬ bt Be u) := fun z => by
              have y := (nb u).mpr z
              exact absurd y ((shl31 (div_lt (by omega))).mp (show _ = (0 : Int) from by rcases Classical.em ((i32 ((N / 2 ^ u : Nat) : Int) <<< (i32 31 &&& 31)).toInt = 0) with z | z; exact z; exact absurd c254 (by omega)))
            refine w_goto d307_257 ?_
            refine w_iinc6 d307_278 rfl (by constructor <;> omega) ?_
            refine w_goto d307_281 ?_
            rw [show ((u : Nat) : Int) + 1 = ((u + 1 : Nat) : Int) by omega]
            refine w_less ?_ (IH230 _ (by omega) (u + 1) rfl (by omega) (fun z hz => by rcases Nat.lt_or_ge z u with y | y; exact hs z y; rw [show z = u by omega]; exact nf))
            exact ⟨Or.inr rfl, Or.inr rfl, Or.inr rfl, Or.inr rfl, Or.inr rfl, Or.inr rfl, Or.inr rfl, Or.inl rfl, Or.inl rfl, Or.inl rfl, trivial⟩
      refine w_less ?_ (L230 _ 0 rfl (Nat.zero_le _) (fun z hz => absurd hz (Nat.not_lt_zero _)))
      exact ⟨Or.inr rfl, Or.inr rfl, Or.inr rfl, Or.inr rfl, Or.inr rfl, Or.inr rfl, Or.inr rfl, Or.inl rfl, Or.inl rfl, Or.inl rfl, trivial⟩
    · have bto : bo = true := by
        cases hz : bo with
        | true => rfl
        | false => rw [hz] at c19; exact absurd rfl c19
      refine w_iconst d307_22 (by decide) ?_
      refine w_istore5 d307_23 rfl ?_
      refine w_iconst d307_25 (by decide) ?_
      refine w_istore6 d307_26 rfl ?_
      have L28 : ∀ (m28 : Nat) (f_ : Hp) (u D B : Nat) (b : Bool) (bu : Nat → OmV), N0.2.2.length - u = m28 → Fr S m [1683, 1685, 1686, 1687, 1688, 1698, 1699, 1700, 1689, 1690, 1691, 1692, 1693, 1694, 1695, 1696, 1697, 1681, 1682, 1684, 1677, 1669, 1732, 1733] h f_ → (u ≤ N0.2.2.length) → (AnI N0 s D B bu) → (OmS S f_ (sT S 1669 m) bu) → (De ≤ D ∧ (b = true → De < D)) → (b = false → D = De ∧ ∀ z, z < u → bt s z → ¬ bt D z → ¬ ∀ v, edge N0.2.2 z v → bt B v) → (TeR S f_ m la) → Wp G d 307 28 [some (vR (some m)), some (vI (t : Nat)), some (vI (s : Nat)), some (vI (D : Nat)), some (vI (B : Nat)), some (vI (b2i b)), some (vI (u : Nat)), none, none, none] [] f_ Q := by
        intro m28
        induction m28 using Nat.strongRecOn with | ind m28 IH28 => ?_
        intro f_ u D B b bu hm28 FRf_ ul I FO mon_ non TE
        have okf_ := FRf_.ok
        have NF := DfC.r (f := 1664) FRf_ hm (by decide) NF_0
        have OP := OmA.s2 FRf_ hm OP_0
        have PU := PU_0.r FRf_ hm
        refine w_iload d307_28 rfl ?_
        refine w_aload_n d307_30 rfl ?_
        refine w_dloadS d307_31 (okf_.kd hm) (fr1664 okf_ hm) ?_
        refine w_getI (x := ((N0.2.2.length : Nat) : Int)) d307_34 (okf_.kd (kT1664 okf_ hm)) NF.2.2.1 ?_
        refine w_icmpge d307_37 (fun c37 => ?_) (fun c37 => ?_)
        · have eu : u = N0.2.2.length := by omega
          refine w_goto d307_224 ?_
          refine w_less ?_ (IH17 _ (by rw [bto, if_pos rfl] at hm17; rcases Bool.eq_false_or_eq_true b with z | z; have := mon_.2 z; have := I.1; rw [z, if_pos rfl]; omega; rw [z, if_neg (by decide)]; have := (non z).1; omega) f_ D B b bu rfl FRf_ I FO (fun z => by obtain ⟨-, y⟩ := non z; exact fun w h1 h2 => y w (by have := (hH w h1).1; omega) h1 h2) TE)
          exact ⟨Or.inr rfl, Or.inr rfl, Or.inr rfl, Or.inr rfl, Or.inr rfl, Or.inr rfl, Or.inl rfl, Or.inl rfl, Or.inl rfl, Or.inl rfl, trivial⟩
        · have hu : u < N0.2.2.length := by omega
          have u14 : u < 14 := by omega
          have i16 := I.1
          have b16 := I.2.1
          have L69 : ∀ (m69 : Nat) (k : Nat) (b7 : Bool), (tgI (tD N0.2.2 u)).length - k = m69 → (k ≤ (tgI (tD N0.2.2 u)).length) → (b7 = true ↔ bt s u ∧ ¬ bt D u ∧ ∀ i, i < k → ∀ v : Nat, taT N0.2.2 u i = (v : Int) → bt B v) → Wp G d 307 69 [some (vR (some m)), some (vI (t : Nat)), some (vI (s : Nat)), some (vI (D : Nat)), some (vI (B : Nat)), some (vI (b2i b)), some (vI (u : Nat)), some (vI (b2i b7)), some (vI (k : Nat)), none] [] f_ Q := by
            intro m69
            induction m69 using Nat.strongRecOn with | ind m69 IH69 => ?_
            intro k b7 hm69 kl iff
            refine w_iload d307_69 rfl ?_
            refine w_aload_n d307_71 rfl ?_
            refine w_dloadS d307_72 (okf_.kd hm) (fr1664 okf_ hm) ?_
            refine w_dloadS d307_75 (okf_.kd (kT1664 okf_ hm)) (fr1424 okf_ (kT1664 okf_ hm)) ?_
            refine w_iload d307_78 rfl ?_
            refine w_ialoadV (x := (((tgI (tD N0.2.2 u)).length : Nat) : Int)) d307_80 (gi1424 okf_ (kT1664 okf_ hm) (by omega)) (NF.2.2.2.2 u hu).2.2.2.2.2.2.2.2.2.1 ?_
            refine w_icmpge d307_81 (fun c81 => ?_) (fun c81 => ?_)
            · have ek : k = (tgI (tD N0.2.2 u)).length := by omega
              refine w_iload d307_131 rfl ?_
              refine w_ifne d307_133 (fun c133 => ?_) (fun c133 => ?_)
              · have bt7 : b7 = true := by
                  cases hz : b7 with
                  | true => rfl
                  | false => rw [hz] at c133; exact absurd rfl c133
                obtain ⟨bs, bd, be⟩ := iff.mp bt7
                have hE : ∀ v, edge N0.2.2 u v → bt B v := fun v ev => by obtain ⟨i, i1, i2⟩ := edge_taT ev; exact be i (by omega) v i2
                have gt := or_gt bd
                have L196 : ∀ (m196 : Nat) (w_ : Hp) (bu2 : Nat → OmV), 0 = m196 → Fr S m [1683, 1685, 1686, 1687, 1688, 1698, 1699, 1700, 1689, 1690, 1691, 1692, 1693, 1694, 1695, 1696, 1697, 1681, 1682, 1684, 1677, 1669, 1732, 1733] h w_ → (OmS S w_ (sT S 1669 m) bu2) → (oV (bu2 u) = exV N0 (fun v => oV (bu v)) u) → (∀ z, z ≠ u → bu2 z = bu z) → (TeR S w_ m la) → Wp G d 307 196 [some (vR (some m)), some (vI (t : Nat)), some (vI (s : Nat)), some (vI ((D ||| 2 ^ u) : Nat)), some (vI (B : Nat)), some (vI 1), some (vI (u : Nat)), none, none, none] [] w_ Q := by
                  intro m196
                  induction m196 using Nat.strongRecOn with | ind m196 IH196 => ?_
                  intro w_ bu2 hm196 FRw_ FO hx ho TE
                  have okw_ := FRw_.ok
                  have NF := DfC.r (f := 1664) FRw_ hm (by decide) NF_0
                  have OP := OmA.s2 FRw_ hm OP_0
                  have PU := PU_0.r FRw_ hm
                  refine w_aload_n d307_196 rfl ?_
                  refine w_dloadS d307_197 (okw_.kd hm) (fr1669 okw_ hm) ?_
                  refine w_iload d307_200 rfl ?_
                  have k202 := kE1669 okw_ hm (j := u) (by omega)
                  refine w_aaloadSN d307_202 (gi1669 okw_ hm (by omega)) (er1669 okw_ hm (by omega)) ?_
                  refine w_getI (x := (((bu2 u).2.2.length : Nat) : Int)) d307_203 (okw_.kd k202) ((FO u u14).2.2.1) ?_
                  refine w_ifne d307_206 (fun c206 => ?_) (fun c206 => ?_)
                  · have hw : ¬ (bu2 u).2.2 = [] := fun z => by rw [z] at c206; exact absurd rfl c206
                    have I2 := I.add bs bd hE hH u14 hx ho (B' := B) (by rw [if_neg hw])
                    refine w_iinc6 d307_218 rfl (by constructor <;> omega) ?_
                    refine w_goto d307_221 ?_
                    rw [show ((u : Nat) : Int) + 1 = ((u + 1 : Nat) : Int) by omega]
                    refine w_less ?_ (IH28 _ (by omega) w_ (u + 1) (D ||| 2 ^ u) B true bu2 rfl FRw_ (by omega) I2 FO ⟨by omega, fun _ => by omega⟩ (fun z => Bool.noConfusion z) TE)
                    exact ⟨Or.inr rfl, Or.inr rfl, Or.inr rfl, Or.inr rfl, Or.inr rfl, Or.inr rfl, Or.inr rfl, Or.inl rfl, Or.inl rfl, Or.inl rfl, trivial⟩
                  · have hw : (bu2 u).2.2 = [] := List.length_eq_zero_iff.mp (by omega)
                    have I2 := I.add bs bd hE hH u14 hx ho (B' := B ||| 2 ^ u) (by rw [if_pos hw])
                    refine w_iload d307_209 rfl ?_
                    refine w_iconst d307_211 (by decide) ?_
                    refine w_iload d307_212 rfl ?_
                    refine w_ishl d307_214 ?_
                    rw [shl_1 ⟨u, by omega⟩]
                    refine w_ior d307_215 ?_
                    have pw := pow14 u14
                    rw [or_n (a := B) (b := 2 ^ u) (by omega) (by omega)]
                    refine w_istore4 d307_216 rfl ?_
                    refine w_iinc6 d307_218 rfl (by constructor <;> omega) ?_
                    refine w_goto d307_221 ?_
                    rw [show ((u : Nat) : Int) + 1 = ((u + 1 : Nat) : Int) by omega]
                    refine w_less ?_ (IH28 _ (by omega) w_ (u + 1) (D ||| 2 ^ u) (B ||| 2 ^ u) true bu2 rfl FRw_ (by omega) I2 FO ⟨by omega, fun _ => by omega⟩ (fun z => Bool.noConfusion z) TE)
                    exact ⟨Or.inr rfl, Or.inr rfl, Or.inr rfl, Or.inr rfl, Or.inr rfl, Or.inr rfl, Or.inr rfl, Or.inl rfl, Or.inl rfl, Or.inl rfl, trivial⟩
                refine w_iconst d307_139 (by decide) ?_
                refine w_istore5 d307_140 rfl ?_
                refine w_iload_n d307_142 rfl ?_
                refine w_iconst d307_143 (by decide) ?_
                refine w_iload d307_144 rfl ?_
                refine w_ishl d307_146 ?_
                rw [shl_1 ⟨u, by omega⟩]
                refine w_ior d307_147 ?_
                have pw := pow14 u14
                rw [or_n (a := D) (b := 2 ^ u) (by omega) (by omega)]
                refine w_istore3 d307_148 rfl ?_
                refine w_aload_n d307_149 rfl ?_
                refine w_dloadS d307_150 (okf_.kd hm) (fr1664 okf_ hm) ?_
                refine w_iload d307_153 rfl ?_
                refine w_aload_n d307_155 rfl ?_
                refine w_dloadS d307_156 (okf_.kd hm) (fr1669 okf_ hm) ?_
                refine w_iload d307_159 rfl ?_
                have k161 := kE1669 okf_ hm (j := u) (by omega)
                refine w_aaloadSN d307_161 (gi1669 okf_ hm (by omega)) (er1669 okf_ hm (by omega)) ?_
                have FOo := FO
                have okb := okf_
                refine w_calls3 d307_162 (by omega) rfl rfl (by simp) (Nat.le_of_ble_eq_true rfl) ?_
                refine k_M_failsAhead2 okf_ (by omega) tg (kT1664 okf_ hm) k161 NF.1 NF.2.1 NF.2.2 hu (FO u u14) (fun y u_ z => okf_.so.sib (f := 1664) (g := 1669) (by decide) (by decide) (by decide) u_ (U_trans (okf_.so.uE (by omega) U_refl) z)) (fun h162 m162 OC => ?_)
                have f162 : Fr S m [1669] _ _ := Fr.wB okf_ hm m162 (fun ζ u => ⟨1669, by decide, by decide, U_trans (ok.so.uE (by omega) U_refl) u⟩)
                have ok162 := f162.ok
                have FR162 := Fr.tr (F := [1683, 1685, 1686, 1687, 1688, 1698, 1699, 1700, 1689, 1690, 1691, 1692, 1693, 1694, 1695, 1696, 1697, 1681, 1682, 1684, 1677, 1669, 1732, 1733]) FRf_ f162 (by decide) (by decide)
                have TE := TE.r f162 hm
                have NF := DfC.r (f := 1664) f162 hm (by decide) NF
                have OP := OmA.s2 f162 hm OP
                have PU := PU.r f162 hm
                have FO := FOo.w okb (fun j hj => (oth okb hm (Or.inr rfl) hj).2.2.1) u14 m162 OC
                refine w_ifne d307_165 (fun c165 => ?_) (fun c165 => ?_)
                · have na : tkA N0 u ≠ [] := fun z => c165 (by rw [decide_eq_false (fun y : tkA N0 u ≠ [] => y z)]; rfl)
                  rw [if_pos na] at FO
                  have hx : oV (upO bu u (([], [], tkA N0 u) : OmV) u) = exV N0 (fun v => oV (bu v)) u := by
                    unfold exV upO
                    rw [if_pos rfl, if_pos na]
                    unfold oV
                    rw [decide_eq_false na]
                  have ho : ∀ z, z ≠ u → upO bu u (([], [], tkA N0 u) : OmV) z = bu z := fun z hz => if_neg hz
                  refine w_less ?_ (L196 _ h162 _ rfl FR162 FO hx ho TE)
                  exact ⟨Or.inr rfl, Or.inr rfl, Or.inr rfl, Or.inr rfl, Or.inr rfl, Or.inr rfl, Or.inr rfl, Or.inl rfl, Or.inl rfl, Or.inl rfl, trivial⟩
                · have ta : tkA N0 u = [] := by
                    by_cases z : tkA N0 u = []
                    · exact z
                    · rw [decide_eq_true z] at c165; exact absurd c165 (by decide)
                  rw [if_neg (fun z => z ta)] at FO
                  have FO : OmS S h162 (sT S 1669 m) bu := fun j hj => by
                    have := FO j hj
                    unfold upO at this
                    by_cases q : j = u
                    · rw [if_pos q] at this; rw [q] at this ⊢; exact this
                    · rw [if_neg q] at this; exact this
                  have nom := noMis_of ta
                  obtain ⟨r, hr⟩ := (hO u hu).2
                  refine w_aload_n d307_168 rfl ?_
                  refine w_aload_n d307_169 rfl ?_
                  refine w_dloadS d307_170 (ok162.kd hm) (fr1664 ok162 hm) ?_
                  refine w_iload d307_173 rfl ?_
                  refine w_aload_n d307_175 rfl ?_
                  refine w_dloadS d307_176 (ok162.kd hm) (fr1669 ok162 hm) ?_
                  refine w_callv4 d307_179 (by omega) rfl (ok162.kd hm) (by simp) (Nat.le_of_ble_eq_true rfl) ?_
                  refine k_M_act (fd := 1664) (of := 1669) ok162 (by omega) hm NF FO tg (Or.inl rfl) (Or.inr rfl) hu nom hr (hO u hu).1 (fun h179 x f179 OX hX AL_ => ?_)
                  have ok179 := f179.ok
                  have FR179 := Fr.tr (F := [1683, 1685, 1686, 1687, 1688, 1698, 1699, 1700, 1689, 1690, 1691, 1692, 1693, 1694, 1695, 1696, 1697, 1681, 1682, 1684, 1677, 1669, 1732, 1733]) FR162 f179 (by decide) (by decide)
                  have TE := TE.r f179 hm
                  have NF := DfC.r (f := 1664) f179 hm (by decide) NF
                  have OP := OmA.s2 f179 hm OP
                  have PU := PU.r f179 hm
                  have FO := OmS.r (f := 1669) f179 hm (Or.inr rfl) (by decide) FO
                  refine w_aload_n d307_182 rfl ?_
                  refine w_dloadS d307_183 (ok179.kd hm) (fr1669 ok179 hm) ?_
                  refine w_iload d307_186 rfl ?_
                  have k188 := kE1669 ok179 hm (j := u) (by omega)
                  refine w_aaloadSN d307_188 (gi1669 ok179 hm (by omega)) (er1669 ok179 hm (by omega)) ?_
                  refine w_aload_n d307_189 rfl ?_
                  refine w_dloadS d307_190 (ok179.kd hm) (fr1683 ok179 hm) ?_
                  have FOo := FO
                  have okb := ok179
                  refine w_callv2 d307_193 (by omega) rfl (ok179.kd k188) (by simp) (Nat.le_of_ble_eq_true rfl) ?_
                  refine k_O_copy ok179 (by omega) k188 (kT1683 ok179 hm) OX (fun y u_ z => ok179.so.sib (f := 1683) (g := 1669) (by decide) (by decide) (by decide) u_ (U_trans (ok179.so.uE (by omega) U_refl) z)) (fun h193 m193 OC => ?_)
                  have f193 : Fr S m [1669] _ _ := Fr.wB ok179 hm m193 (fun ζ u => ⟨1669, by decide, by decide, U_trans (ok.so.uE (by omega) U_refl) u⟩)
                  have ok193 := f193.ok
                  have FR193 := Fr.tr (F := [1683, 1685, 1686, 1687, 1688, 1698, 1699, 1700, 1689, 1690, 1691, 1692, 1693, 1694, 1695, 1696, 1697, 1681, 1682, 1684, 1677, 1669, 1732, 1733]) FR179 f193 (by decide) (by decide)
                  have TE := TE.r f193 hm
                  have NF := DfC.r (f := 1664) f193 hm (by decide) NF
                  have OP := OmA.s2 f193 hm OP
                  have PU := PU.r f193 hm
                  have FO := FOo.w okb (fun j hj => (oth okb hm (Or.inr rfl) hj).2.2.1) u14 m193 OC
                  have hx : oV (upO bu u x u) = exV N0 (fun v => oV (bu v)) u := by
                    unfold exV upO
                    rw [if_pos rfl, if_neg (fun z => z ta), hX]
                    rfl
                  have ho : ∀ z, z ≠ u → upO bu u x z = bu z := fun z hz => if_neg hz
                  refine w_less ?_ (L196 _ h193 _ rfl FR193 FO hx ho TE)
                  exact ⟨Or.inr rfl, Or.inr rfl, Or.inr rfl, Or.inr rfl, Or.inr rfl, Or.inr rfl, Or.inr rfl, Or.inl rfl, Or.inl rfl, Or.inl rfl, trivial⟩
              · have bf : b7 = false := by
                  cases hz : b7 with
                  | true => rw [hz] at c133; exact absurd c133 (by decide)
                  | false => rfl
                have nr : bt s u → ¬ bt D u → ¬ ∀ v, edge N0.2.2 u v → bt B v := fun y1 y2 y3 => by
                  rw [iff.mpr ⟨y1, y2, fun i hi v hv => y3 v (taT_edge hu (hH u y1).2 (by omega) hv)⟩] at bf
                  exact absurd bf (by decide)
                refine w_goto d307_136 ?_
                refine w_iinc6 d307_218 rfl (by constructor <;> omega) ?_
                refine w_goto d307_221 ?_
                rw [show ((u : Nat) : Int) + 1 = ((u + 1 : Nat) : Int) by omega]
                refine w_less ?_ (IH28 _ (by omega) f_ (u + 1) D B b bu rfl FRf_ (by omega) I FO mon_ (fun z => ⟨(non z).1, fun w hw => by rcases Nat.lt_or_ge w u with y | y; exact (non z).2 w y; rw [show w = u by omega]; exact nr⟩) TE)
                exact ⟨Or.inr rfl, Or.inr rfl, Or.inr rfl, Or.inr rfl, Or.inr rfl, Or.inr rfl, Or.inr rfl, Or.inl rfl, Or.inl rfl, Or.inl rfl, trivial⟩
            · have hk : k < (tgI (tD N0.2.2 u)).length := by omega
              have nu6 := (NF.2.2.2.2 u hu).2.2.2.2.2.2.2.2.2.2.1
              refine w_iload d307_84 rfl ?_
              refine w_ifeq d307_86 (fun c86 => ?_) (fun c86 => ?_)
              · have bf : b7 = false := by
                  cases hz : b7 with
                  | true => rw [hz] at c86; exact absurd c86 (by decide)
                  | false => rfl
                refine w_iload d307_131 rfl ?_
                refine w_ifne d307_133 (fun c133 => ?_) (fun c133 => ?_)
                · rw [bf] at c133; exact absurd rfl c133
                · have nr : bt s u → ¬ bt D u → ¬ ∀ v, edge N0.2.2 u v → bt B v := fun y1 y2 y3 => by
                    rw [iff.mpr ⟨y1, y2, fun i hi v hv => y3 v (taT_edge hu (hH u y1).2 (by omega) hv)⟩] at bf
                    exact absurd bf (by decide)
                  refine w_goto d307_136 ?_
                  refine w_iinc6 d307_218 rfl (by constructor <;> omega) ?_
                  refine w_goto d307_221 ?_
                  rw [show ((u : Nat) : Int) + 1 = ((u + 1 : Nat) : Int) by omega]
                  refine w_less ?_ (IH28 _ (by omega) f_ (u + 1) D B b bu rfl FRf_ (by omega) I FO mon_ (fun z => ⟨(non z).1, fun w hw => by rcases Nat.lt_or_ge w u with y | y; exact (non z).2 w y; rw [show w = u by omega]; exact nr⟩) TE)
                  exact ⟨Or.inr rfl, Or.inr rfl, Or.inr rfl, Or.inr rfl, Or.inr rfl, Or.inr rfl, Or.inr rfl, Or.inl rfl, Or.inl rfl, Or.inl rfl, trivial⟩
              · have bt7 : b7 = true := by
                  cases hz : b7 with
                  | true => rfl
                  | false => rw [hz] at c86; exact absurd rfl c86
                obtain ⟨bs, bd, be⟩ := iff.mp bt7
                have tr := taT_lt2 N0.2.2 u k
                refine w_aload_n d307_89 rfl ?_
                refine w_dloadS d307_90 (okf_.kd hm) (fr1664 okf_ hm) ?_
                refine w_iload d307_93 rfl ?_
                refine w_iload d307_95 rfl ?_
                refine w_callv3 d307_97 (by omega) rfl (okf_.kd (kT1664 okf_ hm)) (by simp) (Nat.le_of_ble_eq_true rfl) ?_
                refine k_D_targetAt okf_ (by omega) (kT1664 okf_ hm) NF.2.2 hu hk ?_
                refine w_istore9 d307_100 rfl ?_
                refine w_iload d307_102 rfl ?_
                refine w_iflt d307_104 (fun c104 => ?_) (fun c104 => ?_)
                · have bz : (1 : Int) = b2i true := rfl
                  have iff1 : true = true ↔ bt s u ∧ ¬ bt D u ∧ ∀ i, i < k + 1 → ∀ v : Nat, taT N0.2.2 u i = (v : Int) → bt B v := ⟨fun _ => ⟨bs, bd, fun i hi v hv => by rcases Nat.lt_or_ge i k with z | z; exact be i z v hv; rw [show i = k by omega] at hv; omega⟩, fun _ => rfl⟩
                  refine w_iconst d307_118 (by decide) ?_
                  refine w_goto d307_119 ?_
                  refine w_istore7 d307_123 rfl ?_
                  refine w_iinc8 d307_125 rfl (by constructor <;> omega) ?_
                  refine w_goto d307_128 ?_
                  rw [show ((k : Nat) : Int) + 1 = ((k + 1 : Nat) : Int) by omega]
                  rw [bz]
                  refine w_less ?_ (IH69 _ (by omega) (k + 1) true rfl (by omega) iff1)
                  exact ⟨Or.inr rfl, Or.inr rfl, Or.inr rfl, Or.inr rfl, Or.inr rfl, Or.inr rfl, Or.inr rfl, Or.inr rfl, Or.inr rfl, Or.inl rfl, trivial⟩
                · obtain ⟨v, hv⟩ : ∃ v : Nat, taT N0.2.2 u k = (v : Int) := ⟨(taT N0.2.2 u k).toNat, by omega⟩
                  have v14 : v < 14 := by omega
                  rw [hv]
                  refine w_iload d307_107 rfl ?_
                  refine w_iload d307_109 rfl ?_
                  refine w_ishr d307_111 ?_
                  rw [shr_n (n := B) (u := v) (by omega) (by omega)]
                  refine w_iconst d307_112 (by decide) ?_
                  refine w_iand d307_113 ?_
                  rw [and_1 (a := B / 2 ^ v) (div_lt (by omega))]
                  refine w_iconst d307_114 (by decide) ?_
                  refine w_icmpne d307_115 (fun c115 => ?_) (fun c115 => ?_)
                  · have bz : (0 : Int) = b2i false := rfl
                    have iff1 : false = true ↔ bt s u ∧ ¬ bt D u ∧ ∀ i, i < k + 1 → ∀ v : Nat, taT N0.2.2 u i = (v : Int) → bt B v := ⟨fun z => absurd z (by decide), fun z => by have := z.2.2 k (by omega) v hv; unfold bt at this; omega⟩
                    refine w_iconst d307_122 (by decide) ?_
                    refine w_istore7 d307_123 rfl ?_
                    refine w_iinc8 d307_125 rfl (by constructor <;> omega) ?_
                    refine w_goto d307_128 ?_
                    rw [show ((k : Nat) : Int) + 1 = ((k + 1 : Nat) : Int) by omega]
                    rw [bz]
                    refine w_less ?_ (IH69 _ (by omega) (k + 1) false rfl (by omega) iff1)
                    exact ⟨Or.inr rfl, Or.inr rfl, Or.inr rfl, Or.inr rfl, Or.inr rfl, Or.inr rfl, Or.inr rfl, Or.inr rfl, Or.inr rfl, Or.inl rfl, trivial⟩
                  · have bz : (1 : Int) = b2i true := rfl
                    have iff1 : true = true ↔ bt s u ∧ ¬ bt D u ∧ ∀ i, i < k + 1 → ∀ v : Nat, taT N0.2.2 u i = (v : Int) → bt B v := ⟨fun _ => ⟨bs, bd, fun i hi w hw => by rcases Nat.lt_or_ge i k with z | z; exact be i z w hw; rw [show i = k by omega] at hw; rw [show w = v by omega]; unfold bt; omega⟩, fun _ => rfl⟩
                    refine w_iconst d307_118 (by decide) ?_
                    refine w_goto d307_119 ?_
                    refine w_istore7 d307_123 rfl ?_
                    refine w_iinc8 d307_125 rfl (by constructor <;> omega) ?_
                    refine w_goto d307_128 ?_
                    rw [show ((k : Nat) : Int) + 1 = ((k + 1 : Nat) : Int) by omega]
                    rw [bz]
                    refine w_less ?_ (IH69 _ (by omega) (k + 1) true rfl (by omega) iff1)
                    exact ⟨Or.inr rfl, Or.inr rfl, Or.inr rfl, Or.inr rfl, Or.inr rfl, Or.inr rfl, Or.inr rfl, Or.inr rfl, Or.inr rfl, Or.inl rfl, trivial⟩
          refine w_iload_n d307_40 rfl ?_
          refine w_iload d307_41 rfl ?_
          refine w_ishr d307_43 ?_
          rw [shr_n (n := s) (u := u) (by omega) (by omega)]
          refine w_iconst d307_44 (by decide) ?_
          refine w_iand d307_45 ?_
          rw [and_1 (a := s / 2 ^ u) (div_lt (by omega))]
          refine w_iconst d307_46 (by decide) ?_
          refine w_icmpne d307_47 (fun c47 => ?_) (fun c47 => ?_)
          · have bz : (0 : Int) = b2i false := rfl
            have iff0 : false = true ↔ bt s u ∧ ¬ bt D u ∧ ∀ i, i < 0 → ∀ v : Nat, taT N0.2.2 u i = (v : Int) → bt B v := ⟨fun z => absurd z (by decide), fun z => by have := z.1; unfold bt at this; omega⟩
            refine w_iconst d307_63 (by decide) ?_
            refine w_istore7 d307_64 rfl ?_
            refine w_iconst d307_66 (by decide) ?_
            refine w_istore8 d307_67 rfl ?_
            rw [bz]
            refine w_less ?_ (L69 _ 0 false rfl (Nat.zero_le _) iff0)
            exact ⟨Or.inr rfl, Or.inr rfl, Or.inr rfl, Or.inr rfl, Or.inr rfl, Or.inr rfl, Or.inr rfl, Or.inr rfl, Or.inr rfl, Or.inl rfl, trivial⟩
          · have bs : bt s u := by unfold bt; omega
            refine w_iload_n d307_50 rfl ?_
            refine w_iload d307_51 rfl ?_
            refine w_ishr d307_53 ?_
            rw [shr_n (n := D) (u := u) (by omega) (by omega)]
            refine w_iconst d307_54 (by decide) ?_
            refine w_iand d307_55 ?_
            rw [and_1 (a := D / 2 ^ u) (div_lt (by omega))]
            refine w_ifne d307_56 (fun c56 => ?_) (fun c56 => ?_)
            · have bz : (0 : Int) = b2i false := rfl
              have iff0 : false = true ↔ bt s u ∧ ¬ bt D u ∧ ∀ i, i < 0 → ∀ v : Nat, taT N0.2.2 u i = (v : Int) → bt B v := ⟨fun z => absurd z (by decide), fun z => absurd (show bt D u by unfold bt; have := bt_v D u; omega) z.2.1⟩
              refine w_iconst d307_63 (by decide) ?_
              refine w_istore7 d307_64 rfl ?_
              refine w_iconst d307_66 (by decide) ?_
              refine w_istore8 d307_67 rfl ?_
              rw [bz]
              refine w_less ?_ (L69 _ 0 false rfl (Nat.zero_le _) iff0)
              exact ⟨Or.inr rfl, Or.inr rfl, Or.inr rfl, Or.inr rfl, Or.inr rfl, Or.inr rfl, Or.inr rfl, Or.inr rfl, Or.inr rfl, Or.inl rfl, trivial⟩
            · have bz : (1 : Int) = b2i true := rfl
              have iff0 : true = true ↔ bt s u ∧ ¬ bt D u ∧ ∀ i, i < 0 → ∀ v : Nat, taT N0.2.2 u i = (v : Int) → bt B v := ⟨fun _ => ⟨bs, fun z => by unfold bt at z; omega, fun i hi => absurd hi (Nat.not_lt_zero _)⟩, fun _ => rfl⟩
              refine w_iconst d307_59 (by decide) ?_
              refine w_goto d307_60 ?_
              refine w_istore7 d307_64 rfl ?_
              refine w_iconst d307_66 (by decide) ?_
              refine w_istore8 d307_67 rfl ?_
              rw [bz]
              refine w_less ?_ (L69 _ 0 true rfl (Nat.zero_le _) iff0)
              exact ⟨Or.inr rfl, Or.inr rfl, Or.inr rfl, Or.inr rfl, Or.inr rfl, Or.inr rfl, Or.inr rfl, Or.inr rfl, Or.inr rfl, Or.inl rfl, trivial⟩
      refine w_less ?_ (L28 _ g_ 0 De Be false bue rfl FRg_ (Nat.zero_le _) I FO ⟨Nat.le_refl _, fun z => Bool.noConfusion z⟩ (fun _ => ⟨rfl, fun z hz => absurd hz (Nat.not_lt_zero _)⟩) TE)
      exact ⟨Or.inr rfl, Or.inr rfl, Or.inr rfl, Or.inr rfl, Or.inr rfl, Or.inr rfl, Or.inr rfl, Or.inl rfl, Or.inl rfl, Or.inl rfl, trivial⟩
  refine w_less ?_ (L17 _ h 0 0 true bu0 rfl (Fr.refl ok) ⟨by decide, by decide, fun u z => absurd z bt_0, fun u z => absurd z bt_0, fun u z => absurd z bt_0⟩ FO (fun z => Bool.noConfusion z) TE)
  exact ⟨Or.inr rfl, Or.inr rfl, Or.inr rfl, Or.inr rfl, Or.inr rfl, Or.inr rfl, Or.inl rfl, Or.inl rfl, Or.inl rfl, Or.inl rfl, trivial⟩
