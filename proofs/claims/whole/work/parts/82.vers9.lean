/-! versions: any tree judged -/
theorem goF_le {lp lv lt w : Nat → Int} {L : Nat} : (goF lp lv lt w L).2.2 ≤ L := by
  unfold goF
  split
  · exact Nat.zero_le _
  · exact goB_le
theorem atv_rg {l : List Nat} (hl : ∀ j, l.getD j 0 < 256) (i : Int) : -1 ≤ atv l i ∧ atv l i ≤ 255 := by
  unfold atv
  have := hl i.toNat
  split <;> omega
/-- a rule is broken; a number that no rule has is not -/
def brI (rs : List RuV) (vl : Nat → Int) (k : Int) : Bool := if 0 ≤ k then brk rs vl k.toNat else false
/-- a tree judged from a place on -/
def djT (rs : List RuV) (l : List Nat) : Nat → (Nat → Int) → (Nat → Int) → (Nat → Int) → (Nat → Int) → Nat → Nat → Nat → List Nat
  | 0, _, _, _, _, _, _, _ => txt 26
  | n + 1, lp, lv, lt, vl, L, e, p =>
    if p < l.length then
      (if atv l p = 63 ∧ 0 ≤ atv l (p + 1) - 48 ∧ atv l (p + 1) - 48 < 5 ∧ L < 512 then djT rs l n (up lp L (atv l (p + 1) - 48)) (up lv L (vl (atv l (p + 1) - 48).toNat)) (up lt L 0) (up vl (atv l (p + 1) - 48).toNat 0) (L + 1) e (p + 2)
      else if atv l p = 33 ∧ brI rs vl ((atv l (p + 1) - 48) * 10 + atv l (p + 2) - 48) = true then djT rs l n lp lv (goF lp lv lt vl L).2.1 (goF lp lv lt vl L).1 (goF lp lv lt vl L).2.2 (e + 1) (p + 3)
      else txt 25 ++ dec e)
    else txt 26
theorem up_cg {w w' : Nat → Int} {i : Nat} {x : Int} (hv : ∀ j, j < 5 → w j = w' j) : ∀ j, j < 5 → up w i x j = up w' i x j := fun j hj => by
  show (if j = i then x else w j) = (if j = i then x else w' j)
  rw [hv j hj]
theorem goB_cg {lp lv lt : Nat → Int} : ∀ {n : Nat} {w w' : Nat → Int}, (∀ j, j < 5 → w j = w' j) → (goB lp lv lt w n).2 = (goB lp lv lt w' n).2 ∧ ∀ j, j < 5 → (goB lp lv lt w n).1 j = (goB lp lv lt w' n).1 j
  | 0, w, w' => fun h => ⟨rfl, h⟩
  | n + 1, w, w' => fun h => by
    unfold goB
    by_cases q : lt n = 3
    · rw [if_pos q, if_pos q]
      exact goB_cg (up_cg h)
    · rw [if_neg q, if_neg q]
      exact ⟨rfl, h⟩
theorem goF_cg {lp lv lt w w' : Nat → Int} {L : Nat} (h : ∀ j, j < 5 → w j = w' j) : (goF lp lv lt w L).2 = (goF lp lv lt w' L).2 ∧ ∀ j, j < 5 → (goF lp lv lt w L).1 j = (goF lp lv lt w' L).1 j := by
  obtain ⟨h1, h2⟩ := goB_cg (lp := lp) (lv := lv) (lt := lt) (n := L) h
  unfold goF
  rw [h1]
  by_cases q : (goB lp lv lt w' L).2 = 0
  · rw [if_pos q, if_pos q]
    exact ⟨rfl, h2⟩
  · rw [if_neg q, if_neg q]
    exact ⟨rfl, up_cg h2⟩
theorem brI_cg {rs : List RuV} {w w' : Nat → Int} (hr : ∀ k, k < rs.length → rOf rs k ≤ 4 ∧ rPa rs k ≤ 4) (h : ∀ j, j < 5 → w j = w' j) (k : Int) : brI rs w k = brI rs w' k := by
  unfold brI
  rw [brk_cg (hr _) h]
theorem dj_cg {rs : List RuV} {l : List Nat} (hr : ∀ k, k < rs.length → rOf rs k ≤ 4 ∧ rPa rs k ≤ 4) : ∀ {n : Nat} {lp lv lt vl vl' : Nat → Int} {L e p : Nat}, (∀ j, j < 5 → vl j = vl' j) → djT rs l n lp lv lt vl L e p = djT rs l n lp lv lt vl' L e p
  | 0, _, _, _, _, _, _, _, _ => fun _ => rfl
  | n + 1, lp, lv, lt, vl, vl', L, e, p => fun h => by
    obtain ⟨g1, g2⟩ := goF_cg (lp := lp) (lv := lv) (lt := lt) (L := L) h
    rw [djT, djT]
    by_cases q1 : p < l.length
    · rw [if_pos q1, if_pos q1]
      by_cases q2 : atv l p = 63 ∧ 0 ≤ atv l (p + 1) - 48 ∧ atv l (p + 1) - 48 < 5 ∧ L < 512
      · rw [if_pos q2, if_pos q2, h _ (by omega)]
        exact dj_cg hr (up_cg h)
      · rw [if_neg q2, if_neg q2, brI_cg hr h, g1, dj_cg hr g2]
    · rw [if_neg q1, if_neg q1]
section DJ
variable {rs : List RuV} {l : List Nat} {n L e p : Nat} {lp lv lt vl : Nat → Int}
theorem dj_e (hp : l.length ≤ p) : djT rs l n lp lv lt vl L e p = txt 26 := by
  rcases n with - | m
  · rfl
  · rw [djT, if_neg (by omega)]
theorem dj_q {g : Nat} (hn : 0 < n) (hp : p < l.length) (h1 : atv l p = 63) (h2 : atv l (p + 1) - 48 = (g : Int)) (h3 : g < 5) (h4 : L < 512) : djT rs l n lp lv lt vl L e p = djT rs l (n - 1) (up lp L g) (up lv L (vl g)) (up lt L 0) (up vl g 0) (L + 1) e (p + 2) := by
  obtain ⟨m, rfl⟩ : ∃ m, n = m + 1 := ⟨n - 1, by omega⟩
  rw [djT, if_pos hp, if_pos ⟨h1, by omega, by omega, h4⟩, h2]
  rfl
theorem dj_b (hn : 0 < n) (hp : p < l.length) (h0 : ¬ (atv l p = 63 ∧ 0 ≤ atv l (p + 1) - 48 ∧ atv l (p + 1) - 48 < 5 ∧ L < 512)) (h1 : atv l p = 33 ∧ brI rs vl ((atv l (p + 1) - 48) * 10 + atv l (p + 2) - 48) = true) : djT rs l n lp lv lt vl L e p = djT rs l (n - 1) lp lv (goF lp lv lt vl L).2.1 (goF lp lv lt vl L).1 (goF lp lv lt vl L).2.2 (e + 1) (p + 3) := by
  obtain ⟨m, rfl⟩ : ∃ m, n = m + 1 := ⟨n - 1, by omega⟩
  rw [djT, if_pos hp, if_neg h0, if_pos h1]
  rfl
theorem dj_o (hn : 0 < n) (hp : p < l.length) (h0 : ¬ (atv l p = 63 ∧ 0 ≤ atv l (p + 1) - 48 ∧ atv l (p + 1) - 48 < 5 ∧ L < 512)) (h1 : ¬ (atv l p = 33 ∧ brI rs vl ((atv l (p + 1) - 48) * 10 + atv l (p + 2) - 48) = true)) : djT rs l n lp lv lt vl L e p = txt 25 ++ dec e := by
  obtain ⟨m, rfl⟩ : ∃ m, n = m + 1 := ⟨n - 1, by omega⟩
  rw [djT, if_pos hp, if_neg h0, if_neg h1]
end DJ
theorem d165_0 : dc 165 0 = some (.aload_n 0, 1) := by decide +kernel
theorem d165_1 : dc 165 1 = some (.dload 1030, 4) := by decide +kernel
theorem d165_4 : dc 165 4 = some (.iconst (-1), 5) := by decide +kernel
theorem d165_5 : dc 165 5 = some (.invokevirtual 58, 8) := by decide +kernel
theorem d165_8 : dc 165 8 = some (.iconst 0, 9) := by decide +kernel
theorem d165_9 : dc 165 9 = some (.istore 4, 11) := by decide +kernel
theorem d165_11 : dc 165 11 = some (.iconst 0, 12) := by decide +kernel
theorem d165_12 : dc 165 12 = some (.istore 5, 14) := by decide +kernel
theorem d165_14 : dc 165 14 = some (.iload_n 2, 15) := by decide +kernel
theorem d165_15 : dc 165 15 = some (.istore 6, 17) := by decide +kernel
theorem d165_17 : dc 165 17 = some (.iload 6, 19) := by decide +kernel
theorem d165_19 : dc 165 19 = some (.aload_n 1, 20) := by decide +kernel
theorem d165_20 : dc 165 20 = some (.invokevirtual 13, 23) := by decide +kernel
theorem d165_23 : dc 165 23 = some (.if_icmp .ge ((185 : Nat) : Int), 26) := by decide +kernel
theorem d165_26 : dc 165 26 = some (.aload_n 1, 27) := by decide +kernel
theorem d165_27 : dc 165 27 = some (.iload 6, 29) := by decide +kernel
theorem d165_29 : dc 165 29 = some (.iconst 1, 30) := by decide +kernel
theorem d165_30 : dc 165 30 = some (.iadd, 31) := by decide +kernel
theorem d165_31 : dc 165 31 = some (.invokevirtual 23, 34) := by decide +kernel
theorem d165_34 : dc 165 34 = some (.bipush 48, 36) := by decide +kernel
theorem d165_36 : dc 165 36 = some (.isub, 37) := by decide +kernel
theorem d165_37 : dc 165 37 = some (.istore 7, 39) := by decide +kernel
theorem d165_39 : dc 165 39 = some (.aload_n 1, 40) := by decide +kernel
theorem d165_40 : dc 165 40 = some (.iload 6, 42) := by decide +kernel
theorem d165_42 : dc 165 42 = some (.invokevirtual 23, 45) := by decide +kernel
theorem d165_45 : dc 165 45 = some (.bipush 63, 47) := by decide +kernel
theorem d165_47 : dc 165 47 = some (.if_icmp .ne ((117 : Nat) : Int), 50) := by decide +kernel
theorem d165_50 : dc 165 50 = some (.iload 7, 52) := by decide +kernel
theorem d165_52 : dc 165 52 = some (.ifCond .lt ((117 : Nat) : Int), 55) := by decide +kernel
theorem d165_55 : dc 165 55 = some (.iload 7, 57) := by decide +kernel
theorem d165_57 : dc 165 57 = some (.iconst 5, 58) := by decide +kernel
theorem d165_58 : dc 165 58 = some (.if_icmp .ge ((117 : Nat) : Int), 61) := by decide +kernel
theorem d165_61 : dc 165 61 = some (.iload 4, 63) := by decide +kernel
theorem d165_63 : dc 165 63 = some (.sipush 512, 66) := by decide +kernel
theorem d165_66 : dc 165 66 = some (.if_icmp .ge ((117 : Nat) : Int), 69) := by decide +kernel
theorem d165_69 : dc 165 69 = some (.aload_n 0, 70) := by decide +kernel
theorem d165_70 : dc 165 70 = some (.dload 1032, 73) := by decide +kernel
theorem d165_73 : dc 165 73 = some (.iload 4, 75) := by decide +kernel
theorem d165_75 : dc 165 75 = some (.iload 7, 77) := by decide +kernel
theorem d165_77 : dc 165 77 = some (.iastore, 78) := by decide +kernel
theorem d165_78 : dc 165 78 = some (.aload_n 0, 79) := by decide +kernel
theorem d165_79 : dc 165 79 = some (.dload 1033, 82) := by decide +kernel
theorem d165_82 : dc 165 82 = some (.iload 4, 84) := by decide +kernel
theorem d165_84 : dc 165 84 = some (.aload_n 0, 85) := by decide +kernel
theorem d165_85 : dc 165 85 = some (.dload 1030, 88) := by decide +kernel
theorem d165_88 : dc 165 88 = some (.iload 7, 90) := by decide +kernel
theorem d165_90 : dc 165 90 = some (.iaload, 91) := by decide +kernel
theorem d165_91 : dc 165 91 = some (.iastore, 92) := by decide +kernel
theorem d165_92 : dc 165 92 = some (.aload_n 0, 93) := by decide +kernel
theorem d165_93 : dc 165 93 = some (.dload 1034, 96) := by decide +kernel
theorem d165_96 : dc 165 96 = some (.iload 4, 98) := by decide +kernel
theorem d165_98 : dc 165 98 = some (.iconst 0, 99) := by decide +kernel
theorem d165_99 : dc 165 99 = some (.iastore, 100) := by decide +kernel
theorem d165_100 : dc 165 100 = some (.aload_n 0, 101) := by decide +kernel
theorem d165_101 : dc 165 101 = some (.dload 1030, 104) := by decide +kernel
theorem d165_104 : dc 165 104 = some (.iload 7, 106) := by decide +kernel
theorem d165_106 : dc 165 106 = some (.iconst 0, 107) := by decide +kernel
theorem d165_107 : dc 165 107 = some (.iastore, 108) := by decide +kernel
theorem d165_108 : dc 165 108 = some (.iinc 4 1, 111) := by decide +kernel
theorem d165_111 : dc 165 111 = some (.iinc 6 2, 114) := by decide +kernel
theorem d165_114 : dc 165 114 = some (.goto ((182 : Nat) : Int), 117) := by decide +kernel
theorem d165_117 : dc 165 117 = some (.aload_n 1, 118) := by decide +kernel
theorem d165_118 : dc 165 118 = some (.iload 6, 120) := by decide +kernel
theorem d165_120 : dc 165 120 = some (.invokevirtual 23, 123) := by decide +kernel
theorem d165_123 : dc 165 123 = some (.bipush 33, 125) := by decide +kernel
theorem d165_125 : dc 165 125 = some (.if_icmp .ne ((169 : Nat) : Int), 128) := by decide +kernel
theorem d165_128 : dc 165 128 = some (.aload_n 0, 129) := by decide +kernel
theorem d165_129 : dc 165 129 = some (.iload 7, 131) := by decide +kernel
theorem d165_131 : dc 165 131 = some (.bipush 10, 133) := by decide +kernel
theorem d165_133 : dc 165 133 = some (.imul, 134) := by decide +kernel
theorem d165_134 : dc 165 134 = some (.aload_n 1, 135) := by decide +kernel
theorem d165_135 : dc 165 135 = some (.iload 6, 137) := by decide +kernel
theorem d165_137 : dc 165 137 = some (.iconst 2, 138) := by decide +kernel
theorem d165_138 : dc 165 138 = some (.iadd, 139) := by decide +kernel
theorem d165_139 : dc 165 139 = some (.invokevirtual 23, 142) := by decide +kernel
theorem d165_142 : dc 165 142 = some (.iadd, 143) := by decide +kernel
theorem d165_143 : dc 165 143 = some (.bipush 48, 145) := by decide +kernel
theorem d165_145 : dc 165 145 = some (.isub, 146) := by decide +kernel
theorem d165_146 : dc 165 146 = some (.invokevirtual 162, 149) := by decide +kernel
theorem d165_149 : dc 165 149 = some (.ifCond .eq ((169 : Nat) : Int), 152) := by decide +kernel
theorem d165_152 : dc 165 152 = some (.iinc 5 1, 155) := by decide +kernel
theorem d165_155 : dc 165 155 = some (.iinc 6 3, 158) := by decide +kernel
theorem d165_158 : dc 165 158 = some (.aload_n 0, 159) := by decide +kernel
theorem d165_159 : dc 165 159 = some (.iload 4, 161) := by decide +kernel
theorem d165_161 : dc 165 161 = some (.invokevirtual 166, 164) := by decide +kernel
theorem d165_164 : dc 165 164 = some (.istore 4, 166) := by decide +kernel
theorem d165_166 : dc 165 166 = some (.goto ((182 : Nat) : Int), 169) := by decide +kernel
theorem d165_169 : dc 165 169 = some (.aload_n 3, 170) := by decide +kernel
theorem d165_170 : dc 165 170 = some (.getstatic 75, 172) := by decide +kernel
theorem d165_172 : dc 165 172 = some (.invokevirtual 84, 175) := by decide +kernel
theorem d165_175 : dc 165 175 = some (.aload_n 3, 176) := by decide +kernel
theorem d165_176 : dc 165 176 = some (.iload 5, 178) := by decide +kernel
theorem d165_178 : dc 165 178 = some (.invokevirtual 124, 181) := by decide +kernel
theorem d165_181 : dc 165 181 = some (.return_, 182) := by decide +kernel
theorem d165_182 : dc 165 182 = some (.goto ((17 : Nat) : Int), 185) := by decide +kernel
theorem d165_185 : dc 165 185 = some (.aload_n 3, 186) := by decide +kernel
theorem d165_186 : dc 165 186 = some (.getstatic 76, 188) := by decide +kernel
theorem d165_188 : dc 165 188 = some (.invokevirtual 84, 191) := by decide +kernel
theorem d165_191 : dc 165 191 = some (.return_, 192) := by decide +kernel
theorem k_Vr_disprove {S : Shp} {G : Nat → Option Nat} {d : Nat} {h : Hp} {Q : Option MV → Hp → Prop} {v : Nat} {a : Nat} {f : Nat} {r : Nat}  (ok : Ok S h) (h1 : 5 ≤ d) (hv : sK S v = 9) (ha : sK S a = 6) (hr : sK S r = 6) (tg : Tg S G) {rs : List RuV} (vc : VrC S h v rs) (hvr : ¬ U S v r) (har : a ≠ r) (hla : (rl h a).length ≤ 100000) (hf : f ≤ 100000)
    (kk : ∀ h', Mo S (fun x => x = sT S 1030 v ∨ x = sT S 1032 v ∨ x = sT S 1033 v ∨ x = sT S 1034 v ∨ x = r) h h' → rl h' r = addBs (cap h r) (rl h r) (djT rs (rl h a) ((rl h a).length + 1) (AI h (sT S 1032 v)) (AI h (sT S 1033 v)) (AI h (sT S 1034 v)) (fun _ => -1) 0 0 f) → cap h' r = cap h r → Q none h') : Cl G d 165 [vR (some v), vR (some a), vI (f : Nat), vR (some r)] h Q := by
  show Wp G d 165 0 [some (vR (some v)), some (vR (some a)), some (vI (f : Nat)), some (vR (some r)), none, none, none, none] [] h Q
  have n1030r : sT S 1030 v ≠ r := fun z => hvr (z ▸ ok.so.uT (by decide) U_refl)
  have n1032r : sT S 1032 v ≠ r := fun z => hvr (z ▸ ok.so.uT (by decide) U_refl)
  have n1033r : sT S 1033 v ≠ r := fun z => hvr (z ▸ ok.so.uT (by decide) U_refl)
  have n1034r : sT S 1034 v ≠ r := fun z => hvr (z ▸ ok.so.uT (by decide) U_refl)
  have K1030 : sK S (sT S 1030 v) = 40 := kT1030 ok hv
  have K1032 : sK S (sT S 1032 v) = 40 := kT1032 ok hv
  have K1033 : sK S (sT S 1033 v) = 40 := kT1033 ok hv
  have K1034 : sK S (sT S 1034 v) = 40 := kT1034 ok hv
  have na1030 : a ≠ sT S 1030 v := fun z => by rw [z] at ha; omega
  have na1032 : a ≠ sT S 1032 v := fun z => by rw [z] at ha; omega
  have na1033 : a ≠ sT S 1033 v := fun z => by rw [z] at ha; omega
  have na1034 : a ≠ sT S 1034 v := fun z => by rw [z] at ha; omega
  have z1030_1032 : sT S 1030 v ≠ sT S 1032 v := fun w => absurd ((ok.so.inj (by decide) (by decide)).mp w).1 (by decide)
  have z1030_1033 : sT S 1030 v ≠ sT S 1033 v := fun w => absurd ((ok.so.inj (by decide) (by decide)).mp w).1 (by decide)
  have z1030_1034 : sT S 1030 v ≠ sT S 1034 v := fun w => absurd ((ok.so.inj (by decide) (by decide)).mp w).1 (by decide)
  have z1032_1030 : sT S 1032 v ≠ sT S 1030 v := fun w => absurd ((ok.so.inj (by decide) (by decide)).mp w).1 (by decide)
  have z1032_1033 : sT S 1032 v ≠ sT S 1033 v := fun w => absurd ((ok.so.inj (by decide) (by decide)).mp w).1 (by decide)
  have z1032_1034 : sT S 1032 v ≠ sT S 1034 v := fun w => absurd ((ok.so.inj (by decide) (by decide)).mp w).1 (by decide)
  have z1033_1030 : sT S 1033 v ≠ sT S 1030 v := fun w => absurd ((ok.so.inj (by decide) (by decide)).mp w).1 (by decide)
  have z1033_1032 : sT S 1033 v ≠ sT S 1032 v := fun w => absurd ((ok.so.inj (by decide) (by decide)).mp w).1 (by decide)
  have z1033_1034 : sT S 1033 v ≠ sT S 1034 v := fun w => absurd ((ok.so.inj (by decide) (by decide)).mp w).1 (by decide)
  have z1034_1030 : sT S 1034 v ≠ sT S 1030 v := fun w => absurd ((ok.so.inj (by decide) (by decide)).mp w).1 (by decide)
  have z1034_1032 : sT S 1034 v ≠ sT S 1032 v := fun w => absurd ((ok.so.inj (by decide) (by decide)).mp w).1 (by decide)
  have z1034_1033 : sT S 1034 v ≠ sT S 1033 v := fun w => absurd ((ok.so.inj (by decide) (by decide)).mp w).1 (by decide)
  have nvr : v ≠ r := fun z => hvr (z ▸ U_refl)
  have nTr : ∀ f, f < 4096 → sT S f v ≠ r := fun f hf z => hvr (z ▸ ok.so.uT hf U_refl)
  have nTT : ∀ f, 1025 ≤ f → f ≤ 1029 → ∀ g, 1030 ≤ g → g ≤ 1034 → sT S f v ≠ sT S g v := fun f h1 h2 g h3 h4 z => absurd ((ok.so.inj (by omega) (by omega)).mp z).1 (by omega)
  have nvT : ∀ g, 1030 ≤ g → g ≤ 1034 → v ≠ sT S g v := fun g h1 h2 z => ok.so.pT (by omega) z.symm
  have br := fun i => atv_rg (l := rl h a) (rl_lt ok.ro (ok.kd ha)) i
  refine w_aload_n d165_0 rfl ?_
  refine w_dloadS d165_1 (ok.kd hv) (fr1030 ok hv) ?_
  refine w_iconst d165_4 (by decide) ?_
  refine w_calls2 d165_5 (by omega) rfl rfl (by simp) (Nat.le_of_ble_eq_true rfl) ?_
  refine k_Arrays_fill (n := 5) ok (by omega) hv rfl rfl ⟨by omega, by omega⟩ ⟨by decide, by decide⟩ (fun h5 m5 e5_1 => ?_)
  have ok5 := m5.ok
  have M5 := Mo.tr ok (Mo.refl (A := (fun x => x = (sT S 1030 v) ∨ x = (sT S 1032 v) ∨ x = (sT S 1033 v) ∨ x = (sT S 1034 v) ∨ x = r)) ok) m5 (fun x e => (Or.inl e))
  refine w_iconst d165_8 (by decide) ?_
  refine w_istore4 d165_9 rfl ?_
  refine w_iconst d165_11 (by decide) ?_
  refine w_istore5 d165_12 rfl ?_
  refine w_iload_n d165_14 rfl ?_
  refine w_istore6 d165_15 rfl ?_
  have L17 : ∀ (m17 : Nat) (g : Hp) (n L e p : Nat), n = m17 → Mo S (fun x => x = (sT S 1030 v) ∨ x = (sT S 1032 v) ∨ x = (sT S 1033 v) ∨ x = (sT S 1034 v) ∨ x = r) h g → ((rl h a).length < n + p) → (L ≤ 512) → (e ≤ p ∧ p ≤ 200003) → (djT rs (rl h a) n (AI g (sT S 1032 v)) (AI g (sT S 1033 v)) (AI g (sT S 1034 v)) (AI g (sT S 1030 v)) L e p = djT rs (rl h a) ((rl h a).length + 1) (AI h (sT S 1032 v)) (AI h (sT S 1033 v)) (AI h (sT S 1034 v)) (fun _ => -1) 0 0 f) → (rl g r = rl h r) → (cap g r = cap h r) → Wp G d 165 17 [some (vR (some v)), some (vR (some a)), some (vI (f : Nat)), some (vR (some r)), some (vI (L : Nat)), some (vI (e : Nat)), some (vI (p : Nat)), none] [] g Q := by
    intro m17
    induction m17 using Nat.strongRecOn with | ind m17 IH17 => ?_
    intro g n L e p hm17 Mg i1 i2 i3 i4 i5 i6
    have okg := Mg.ok
    have vcg : VrC S g v rs := vc.fr ok Mg hv (Or.inl (by simp [nvT 1030 (by decide) (by decide), nvT 1032 (by decide) (by decide), nvT 1033 (by decide) (by decide), nvT 1034 (by decide) (by decide), nvr])) (fun f h1 h2 => by simp [nTT f h1 h2 1030 (by decide) (by decide), nTT f h1 h2 1032 (by decide) (by decide), nTT f h1 h2 1033 (by decide) (by decide), nTT f h1 h2 1034 (by decide) (by decide), nTr f (by omega)])
    have rla : rl g a = rl h a := Mg.rb ok ha (by simp [na1030, na1032, na1033, na1034, har])
    have b0 := br p
    have b1 := br (p + 1)
    have b2 := br (p + 2)
    refine w_iload d165_17 rfl ?_
    refine w_aload_n d165_19 rfl ?_
    refine w_callv1 d165_20 (by omega) rfl (okg.kd ha) (by simp) (Nat.le_of_ble_eq_true rfl) ?_
    refine r_Row_size okg ha ?_
    rw [rla]
    refine w_icmpge d165_23 (fun c23 => ?_) (fun c23 => ?_)
    · refine w_aload_n d165_185 rfl ?_
      obtain ⟨g186, v186, s186⟩ := tg.tx okg 26 (by decide)
      refine w_getstaticS d165_186 v186 ?_
      refine w_callv2 d165_188 (by omega) rfl (okg.kd hr) (by simp) (Nat.le_of_ble_eq_true rfl) ?_
      refine r_Row_addText (by omega) okg hr s186 (fun h188 m188 e188_1 e188_2 => ?_)
      have ok188 := m188.ok
      have M188 := Mo.tr ok Mg m188 (fun x e => (Or.inr (Or.inr (Or.inr (Or.inr e)))))
      refine w_return d165_191 ?_
      rw [dj_e (n := n) (p := p) (l := rl h a) (by omega)] at i4
      exact kk h188 M188 (by rw [e188_1, i5, i6, i4]) (by rw [e188_2, i6])
    · refine w_aload_n d165_26 rfl ?_
      refine w_iload d165_27 rfl ?_
      refine w_iconst d165_29 (by decide) ?_
      refine w_iadd d165_30 (by constructor <;> omega) ?_
      refine w_callv2 d165_31 (by omega) rfl (okg.kd ha) (by simp) (Nat.le_of_ble_eq_true rfl) ?_
      refine r_Row_at okg ha ?_
      rw [rla]
      refine w_bipush d165_34 (by decide) ?_
      refine w_isub d165_36 (by constructor <;> omega) ?_
      refine w_istore7 d165_37 rfl ?_
      refine w_aload_n d165_39 rfl ?_
      refine w_iload d165_40 rfl ?_
      refine w_callv2 d165_42 (by omega) rfl (okg.kd ha) (by simp) (Nat.le_of_ble_eq_true rfl) ?_
      refine r_Row_at okg ha ?_
      rw [rla]
      refine w_bipush d165_45 (by decide) ?_
      refine w_icmpne d165_47 (fun c47 => ?_) (fun c47 => ?_)
      · have hc : ¬ (atv (rl h a) p = 63 ∧ 0 ≤ atv (rl h a) (p + 1) - 48 ∧ atv (rl h a) (p + 1) - 48 < 5 ∧ L < 512) := fun z => by omega
        refine w_aload_n d165_117 rfl ?_
        refine w_iload d165_118 rfl ?_
        refine w_callv2 d165_120 (by omega) rfl (okg.kd ha) (by simp) (Nat.le_of_ble_eq_true rfl) ?_
        refine r_Row_at okg ha ?_
        rw [rla]
        refine w_bipush d165_123 (by decide) ?_
        refine w_icmpne d165_125 (fun c125 => ?_) (fun c125 => ?_)
        · have hno : ¬ (atv (rl h a) p = 33 ∧ brI rs (AI g (sT S 1030 v)) ((atv (rl h a) (p + 1) - 48) * 10 + atv (rl h a) (p + 2) - 48) = true) := fun z => c125 z.1
          refine w_aload_n d165_169 rfl ?_
          obtain ⟨g170, v170, s170⟩ := tg.tx okg 25 (by decide)
          refine w_getstaticS d165_170 v170 ?_
          refine w_callv2 d165_172 (by omega) rfl (okg.kd hr) (by simp) (Nat.le_of_ble_eq_true rfl) ?_
          refine r_Row_addText (by omega) okg hr s170 (fun h172 m172 e172_1 e172_2 => ?_)
          have ok172 := m172.ok
          have M172 := Mo.tr ok Mg m172 (fun x e => (Or.inr (Or.inr (Or.inr (Or.inr e)))))
          refine w_aload_n d165_175 rfl ?_
          refine w_iload d165_176 rfl ?_
          refine w_callv2 d165_178 (by omega) rfl (ok172.kd hr) (by simp) (Nat.le_of_ble_eq_true rfl) ?_
          refine r_Row_addNumber (by omega) ok172 hr (by omega) (fun h178 m178 e178_1 e178_2 => ?_)
          have ok178 := m178.ok
          have M178 := Mo.tr ok M172 m178 (fun x e => (Or.inr (Or.inr (Or.inr (Or.inr e)))))
          refine w_return d165_181 ?_
          rw [dj_o (by omega) (by omega) hc hno] at i4
          exact kk h178 M178 (by rw [e178_1, e172_1, e172_2, addBs3, i5, i6, i4]) (by rw [e178_2, e172_2, i6])
        · refine w_aload_n d165_128 rfl ?_
          refine w_iload d165_129 rfl ?_
          refine w_bipush d165_131 (by decide) ?_
          refine w_imul d165_133 (by constructor <;> omega) ?_
          refine w_aload_n d165_134 rfl ?_
          refine w_iload d165_135 rfl ?_
          refine w_iconst d165_137 (by decide) ?_
          refine w_iadd d165_138 (by constructor <;> omega) ?_
          refine w_callv2 d165_139 (by omega) rfl (okg.kd ha) (by simp) (Nat.le_of_ble_eq_true rfl) ?_
          refine r_Row_at okg ha ?_
          rw [rla]
          refine w_iadd d165_142 (by constructor <;> omega) ?_
          refine w_bipush d165_143 (by decide) ?_
          refine w_isub d165_145 (by constructor <;> omega) ?_
          refine w_callv2 d165_146 (by omega) rfl (okg.kd hv) (by simp) (Nat.le_of_ble_eq_true rfl) ?_
          refine k_Vr_isBroken okg (by omega) hv vcg ?_
          show Wp G d 165 149 _ [vI (b2i (brI rs (AI g (sT S 1030 v)) ((atv (rl h a) (p + 1) - 48) * 10 + atv (rl h a) (p + 2) - 48)))] _ Q
          refine w_ifeq d165_149 (fun c149 => ?_) (fun c149 => ?_)
          · have hno : ¬ (atv (rl h a) p = 33 ∧ brI rs (AI g (sT S 1030 v)) ((atv (rl h a) (p + 1) - 48) * 10 + atv (rl h a) (p + 2) - 48) = true) := fun z => absurd c149 (by rw [z.2]; decide)
            refine w_aload_n d165_169 rfl ?_
            obtain ⟨g170, v170, s170⟩ := tg.tx okg 25 (by decide)
            refine w_getstaticS d165_170 v170 ?_
            refine w_callv2 d165_172 (by omega) rfl (okg.kd hr) (by simp) (Nat.le_of_ble_eq_true rfl) ?_
            refine r_Row_addText (by omega) okg hr s170 (fun h172 m172 e172_1 e172_2 => ?_)
            have ok172 := m172.ok
            have M172 := Mo.tr ok Mg m172 (fun x e => (Or.inr (Or.inr (Or.inr (Or.inr e)))))
            refine w_aload_n d165_175 rfl ?_
            refine w_iload d165_176 rfl ?_
            refine w_callv2 d165_178 (by omega) rfl (ok172.kd hr) (by simp) (Nat.le_of_ble_eq_true rfl) ?_
            refine r_Row_addNumber (by omega) ok172 hr (by omega) (fun h178 m178 e178_1 e178_2 => ?_)
            have ok178 := m178.ok
            have M178 := Mo.tr ok M172 m178 (fun x e => (Or.inr (Or.inr (Or.inr (Or.inr e)))))
            refine w_return d165_181 ?_
            rw [dj_o (by omega) (by omega) hc hno] at i4
            exact kk h178 M178 (by rw [e178_1, e172_1, e172_2, addBs3, i5, i6, i4]) (by rw [e178_2, e172_2, i6])
          · have hbk : brI rs (AI g (sT S 1030 v)) ((atv (rl h a) (p + 1) - 48) * 10 + atv (rl h a) (p + 2) - 48) = true := by
              cases z : brI rs (AI g (sT S 1030 v)) ((atv (rl h a) (p + 1) - 48) * 10 + atv (rl h a) (p + 2) - 48) with
              | true => rfl
              | false => rw [z] at c149; exact absurd rfl c149
            refine w_iinc5 d165_152 rfl (by constructor <;> omega) ?_
            refine w_iinc6 d165_155 rfl (by constructor <;> omega) ?_
            refine w_aload_n d165_158 rfl ?_
            refine w_iload d165_159 rfl ?_
            refine w_callv2 d165_161 (by omega) rfl (okg.kd hv) (by simp) (Nat.le_of_ble_eq_true rfl) ?_
            refine k_Vr_goOn okg (by omega) hv (by omega) (fun h161 m161 e161_1 e161_2 => ?_)
            have ok161 := m161.ok
            have M161 := Mo.tr ok Mg m161 (fun x q => q.elim ((fun x e => (Or.inl e)) x) ((fun x e => (Or.inr (Or.inr (Or.inr (Or.inl e))))) x))
            refine w_istore4 d165_164 rfl ?_
            refine w_goto d165_166 ?_
            refine w_goto d165_182 ?_
            have gl := goF_le (lp := AI g (sT S 1032 v)) (lv := AI g (sT S 1033 v)) (lt := AI g (sT S 1034 v)) (w := AI g (sT S 1030 v)) (L := L)
            refine w_less ?_ (IH17 _ (by omega) h161 (n - 1) (goF (AI g (sT S 1032 v)) (AI g (sT S 1033 v)) (AI g (sT S 1034 v)) (AI g (sT S 1030 v)) L).2.2 (e + 1) (p + 3) rfl M161 (by omega) (by omega) (by omega) (by rw [m161.ai okg ⟨by omega, by omega⟩ (by simp [z1032_1030, z1032_1034]), m161.ai okg ⟨by omega, by omega⟩ (by simp [z1033_1030, z1033_1034]), e161_1, e161_2, ← dj_b (by omega) (by omega) hc ⟨c125, hbk⟩]; exact i4) (by rw [m161.rb okg hr (by simp [Ne.symm n1030r, Ne.symm n1034r])]; exact i5) (by rw [show cap h161 r = cap g r from (m161.cp okg hr).2 (by simp [Ne.symm n1030r, Ne.symm n1034r])]; exact i6))
            exact ⟨Or.inr rfl, Or.inr rfl, Or.inr rfl, Or.inr rfl, Or.inr rfl, Or.inr rfl, Or.inr rfl, Or.inl rfl, trivial⟩
      · refine w_iload d165_50 rfl ?_
        refine w_iflt d165_52 (fun c52 => ?_) (fun c52 => ?_)
        · have hc : ¬ (atv (rl h a) p = 63 ∧ 0 ≤ atv (rl h a) (p + 1) - 48 ∧ atv (rl h a) (p + 1) - 48 < 5 ∧ L < 512) := fun z => by omega
          refine w_aload_n d165_117 rfl ?_
          refine w_iload d165_118 rfl ?_
          refine w_callv2 d165_120 (by omega) rfl (okg.kd ha) (by simp) (Nat.le_of_ble_eq_true rfl) ?_
          refine r_Row_at okg ha ?_
          rw [rla]
          refine w_bipush d165_123 (by decide) ?_
          refine w_icmpne d165_125 (fun c125 => ?_) (fun c125 => ?_)
          · have hno : ¬ (atv (rl h a) p = 33 ∧ brI rs (AI g (sT S 1030 v)) ((atv (rl h a) (p + 1) - 48) * 10 + atv (rl h a) (p + 2) - 48) = true) := fun z => c125 z.1
            refine w_aload_n d165_169 rfl ?_
            obtain ⟨g170, v170, s170⟩ := tg.tx okg 25 (by decide)
            refine w_getstaticS d165_170 v170 ?_
            refine w_callv2 d165_172 (by omega) rfl (okg.kd hr) (by simp) (Nat.le_of_ble_eq_true rfl) ?_
            refine r_Row_addText (by omega) okg hr s170 (fun h172 m172 e172_1 e172_2 => ?_)
            have ok172 := m172.ok
            have M172 := Mo.tr ok Mg m172 (fun x e => (Or.inr (Or.inr (Or.inr (Or.inr e)))))
            refine w_aload_n d165_175 rfl ?_
            refine w_iload d165_176 rfl ?_
            refine w_callv2 d165_178 (by omega) rfl (ok172.kd hr) (by simp) (Nat.le_of_ble_eq_true rfl) ?_
            refine r_Row_addNumber (by omega) ok172 hr (by omega) (fun h178 m178 e178_1 e178_2 => ?_)
            have ok178 := m178.ok
            have M178 := Mo.tr ok M172 m178 (fun x e => (Or.inr (Or.inr (Or.inr (Or.inr e)))))
            refine w_return d165_181 ?_
            rw [dj_o (by omega) (by omega) hc hno] at i4
            exact kk h178 M178 (by rw [e178_1, e172_1, e172_2, addBs3, i5, i6, i4]) (by rw [e178_2, e172_2, i6])
          · refine w_aload_n d165_128 rfl ?_
            refine w_iload d165_129 rfl ?_
            refine w_bipush d165_131 (by decide) ?_
            refine w_imul d165_133 (by constructor <;> omega) ?_
            refine w_aload_n d165_134 rfl ?_
            refine w_iload d165_135 rfl ?_
            refine w_iconst d165_137 (by decide) ?_
            refine w_iadd d165_138 (by constructor <;> omega) ?_
            refine w_callv2 d165_139 (by omega) rfl (okg.kd ha) (by simp) (Nat.le_of_ble_eq_true rfl) ?_
            refine r_Row_at okg ha ?_
            rw [rla]
            refine w_iadd d165_142 (by constructor <;> omega) ?_
            refine w_bipush d165_143 (by decide) ?_
            refine w_isub d165_145 (by constructor <;> omega) ?_
            refine w_callv2 d165_146 (by omega) rfl (okg.kd hv) (by simp) (Nat.le_of_ble_eq_true rfl) ?_
            refine k_Vr_isBroken okg (by omega) hv vcg ?_
            show Wp G d 165 149 _ [vI (b2i (brI rs (AI g (sT S 1030 v)) ((atv (rl h a) (p + 1) - 48) * 10 + atv (rl h a) (p + 2) - 48)))] _ Q
            refine w_ifeq d165_149 (fun c149 => ?_) (fun c149 => ?_)
            · have hno : ¬ (atv (rl h a) p = 33 ∧ brI rs (AI g (sT S 1030 v)) ((atv (rl h a) (p + 1) - 48) * 10 + atv (rl h a) (p + 2) - 48) = true) := fun z => absurd c149 (by rw [z.2]; decide)
              refine w_aload_n d165_169 rfl ?_
              obtain ⟨g170, v170, s170⟩ := tg.tx okg 25 (by decide)
              refine w_getstaticS d165_170 v170 ?_
              refine w_callv2 d165_172 (by omega) rfl (okg.kd hr) (by simp) (Nat.le_of_ble_eq_true rfl) ?_
              refine r_Row_addText (by omega) okg hr s170 (fun h172 m172 e172_1 e172_2 => ?_)
              have ok172 := m172.ok
              have M172 := Mo.tr ok Mg m172 (fun x e => (Or.inr (Or.inr (Or.inr (Or.inr e)))))
              refine w_aload_n d165_175 rfl ?_
              refine w_iload d165_176 rfl ?_
              refine w_callv2 d165_178 (by omega) rfl (ok172.kd hr) (by simp) (Nat.le_of_ble_eq_true rfl) ?_
              refine r_Row_addNumber (by omega) ok172 hr (by omega) (fun h178 m178 e178_1 e178_2 => ?_)
              have ok178 := m178.ok
              have M178 := Mo.tr ok M172 m178 (fun x e => (Or.inr (Or.inr (Or.inr (Or.inr e)))))
              refine w_return d165_181 ?_
              rw [dj_o (by omega) (by omega) hc hno] at i4
              exact kk h178 M178 (by rw [e178_1, e172_1, e172_2, addBs3, i5, i6, i4]) (by rw [e178_2, e172_2, i6])
            · have hbk : brI rs (AI g (sT S 1030 v)) ((atv (rl h a) (p + 1) - 48) * 10 + atv (rl h a) (p + 2) - 48) = true := by
                cases z : brI rs (AI g (sT S 1030 v)) ((atv (rl h a) (p + 1) - 48) * 10 + atv (rl h a) (p + 2) - 48) with
                | true => rfl
                | false => rw [z] at c149; exact absurd rfl c149
              refine w_iinc5 d165_152 rfl (by constructor <;> omega) ?_
              refine w_iinc6 d165_155 rfl (by constructor <;> omega) ?_
              refine w_aload_n d165_158 rfl ?_
              refine w_iload d165_159 rfl ?_
              refine w_callv2 d165_161 (by omega) rfl (okg.kd hv) (by simp) (Nat.le_of_ble_eq_true rfl) ?_
              refine k_Vr_goOn okg (by omega) hv (by omega) (fun h161 m161 e161_1 e161_2 => ?_)
              have ok161 := m161.ok
              have M161 := Mo.tr ok Mg m161 (fun x q => q.elim ((fun x e => (Or.inl e)) x) ((fun x e => (Or.inr (Or.inr (Or.inr (Or.inl e))))) x))
              refine w_istore4 d165_164 rfl ?_
              refine w_goto d165_166 ?_
              refine w_goto d165_182 ?_
              have gl := goF_le (lp := AI g (sT S 1032 v)) (lv := AI g (sT S 1033 v)) (lt := AI g (sT S 1034 v)) (w := AI g (sT S 1030 v)) (L := L)
              refine w_less ?_ (IH17 _ (by omega) h161 (n - 1) (goF (AI g (sT S 1032 v)) (AI g (sT S 1033 v)) (AI g (sT S 1034 v)) (AI g (sT S 1030 v)) L).2.2 (e + 1) (p + 3) rfl M161 (by omega) (by omega) (by omega) (by rw [m161.ai okg ⟨by omega, by omega⟩ (by simp [z1032_1030, z1032_1034]), m161.ai okg ⟨by omega, by omega⟩ (by simp [z1033_1030, z1033_1034]), e161_1, e161_2, ← dj_b (by omega) (by omega) hc ⟨c125, hbk⟩]; exact i4) (by rw [m161.rb okg hr (by simp [Ne.symm n1030r, Ne.symm n1034r])]; exact i5) (by rw [show cap h161 r = cap g r from (m161.cp okg hr).2 (by simp [Ne.symm n1030r, Ne.symm n1034r])]; exact i6))
              exact ⟨Or.inr rfl, Or.inr rfl, Or.inr rfl, Or.inr rfl, Or.inr rfl, Or.inr rfl, Or.inr rfl, Or.inl rfl, trivial⟩
        · refine w_iload d165_55 rfl ?_
          refine w_iconst d165_57 (by decide) ?_
          refine w_icmpge d165_58 (fun c58 => ?_) (fun c58 => ?_)
          · have hc : ¬ (atv (rl h a) p = 63 ∧ 0 ≤ atv (rl h a) (p + 1) - 48 ∧ atv (rl h a) (p + 1) - 48 < 5 ∧ L < 512) := fun z => by omega
            refine w_aload_n d165_117 rfl ?_
            refine w_iload d165_118 rfl ?_
            refine w_callv2 d165_120 (by omega) rfl (okg.kd ha) (by simp) (Nat.le_of_ble_eq_true rfl) ?_
            refine r_Row_at okg ha ?_
            rw [rla]
            refine w_bipush d165_123 (by decide) ?_
            refine w_icmpne d165_125 (fun c125 => ?_) (fun c125 => ?_)
            · have hno : ¬ (atv (rl h a) p = 33 ∧ brI rs (AI g (sT S 1030 v)) ((atv (rl h a) (p + 1) - 48) * 10 + atv (rl h a) (p + 2) - 48) = true) := fun z => c125 z.1
              refine w_aload_n d165_169 rfl ?_
              obtain ⟨g170, v170, s170⟩ := tg.tx okg 25 (by decide)
              refine w_getstaticS d165_170 v170 ?_
              refine w_callv2 d165_172 (by omega) rfl (okg.kd hr) (by simp) (Nat.le_of_ble_eq_true rfl) ?_
              refine r_Row_addText (by omega) okg hr s170 (fun h172 m172 e172_1 e172_2 => ?_)
              have ok172 := m172.ok
              have M172 := Mo.tr ok Mg m172 (fun x e => (Or.inr (Or.inr (Or.inr (Or.inr e)))))
              refine w_aload_n d165_175 rfl ?_
              refine w_iload d165_176 rfl ?_
              refine w_callv2 d165_178 (by omega) rfl (ok172.kd hr) (by simp) (Nat.le_of_ble_eq_true rfl) ?_
              refine r_Row_addNumber (by omega) ok172 hr (by omega) (fun h178 m178 e178_1 e178_2 => ?_)
              have ok178 := m178.ok
              have M178 := Mo.tr ok M172 m178 (fun x e => (Or.inr (Or.inr (Or.inr (Or.inr e)))))
              refine w_return d165_181 ?_
              rw [dj_o (by omega) (by omega) hc hno] at i4
              exact kk h178 M178 (by rw [e178_1, e172_1, e172_2, addBs3, i5, i6, i4]) (by rw [e178_2, e172_2, i6])
            · refine w_aload_n d165_128 rfl ?_
              refine w_iload d165_129 rfl ?_
              refine w_bipush d165_131 (by decide) ?_
              refine w_imul d165_133 (by constructor <;> omega) ?_
              refine w_aload_n d165_134 rfl ?_
              refine w_iload d165_135 rfl ?_
              refine w_iconst d165_137 (by decide) ?_
              refine w_iadd d165_138 (by constructor <;> omega) ?_
              refine w_callv2 d165_139 (by omega) rfl (okg.kd ha) (by simp) (Nat.le_of_ble_eq_true rfl) ?_
              refine r_Row_at okg ha ?_
              rw [rla]
              refine w_iadd d165_142 (by constructor <;> omega) ?_
              refine w_bipush d165_143 (by decide) ?_
              refine w_isub d165_145 (by constructor <;> omega) ?_
              refine w_callv2 d165_146 (by omega) rfl (okg.kd hv) (by simp) (Nat.le_of_ble_eq_true rfl) ?_
              refine k_Vr_isBroken okg (by omega) hv vcg ?_
              show Wp G d 165 149 _ [vI (b2i (brI rs (AI g (sT S 1030 v)) ((atv (rl h a) (p + 1) - 48) * 10 + atv (rl h a) (p + 2) - 48)))] _ Q
              refine w_ifeq d165_149 (fun c149 => ?_) (fun c149 => ?_)
              · have hno : ¬ (atv (rl h a) p = 33 ∧ brI rs (AI g (sT S 1030 v)) ((atv (rl h a) (p + 1) - 48) * 10 + atv (rl h a) (p + 2) - 48) = true) := fun z => absurd c149 (by rw [z.2]; decide)
                refine w_aload_n d165_169 rfl ?_
                obtain ⟨g170, v170, s170⟩ := tg.tx okg 25 (by decide)
                refine w_getstaticS d165_170 v170 ?_
                refine w_callv2 d165_172 (by omega) rfl (okg.kd hr) (by simp) (Nat.le_of_ble_eq_true rfl) ?_
                refine r_Row_addText (by omega) okg hr s170 (fun h172 m172 e172_1 e172_2 => ?_)
                have ok172 := m172.ok
                have M172 := Mo.tr ok Mg m172 (fun x e => (Or.inr (Or.inr (Or.inr (Or.inr e)))))
                refine w_aload_n d165_175 rfl ?_
                refine w_iload d165_176 rfl ?_
                refine w_callv2 d165_178 (by omega) rfl (ok172.kd hr) (by simp) (Nat.le_of_ble_eq_true rfl) ?_
                refine r_Row_addNumber (by omega) ok172 hr (by omega) (fun h178 m178 e178_1 e178_2 => ?_)
                have ok178 := m178.ok
                have M178 := Mo.tr ok M172 m178 (fun x e => (Or.inr (Or.inr (Or.inr (Or.inr e)))))
                refine w_return d165_181 ?_
                rw [dj_o (by omega) (by omega) hc hno] at i4
                exact kk h178 M178 (by rw [e178_1, e172_1, e172_2, addBs3, i5, i6, i4]) (by rw [e178_2, e172_2, i6])
              · have hbk : brI rs (AI g (sT S 1030 v)) ((atv (rl h a) (p + 1) - 48) * 10 + atv (rl h a) (p + 2) - 48) = true := by
                  cases z : brI rs (AI g (sT S 1030 v)) ((atv (rl h a) (p + 1) - 48) * 10 + atv (rl h a) (p + 2) - 48) with
                  | true => rfl
                  | false => rw [z] at c149; exact absurd rfl c149
                refine w_iinc5 d165_152 rfl (by constructor <;> omega) ?_
                refine w_iinc6 d165_155 rfl (by constructor <;> omega) ?_
                refine w_aload_n d165_158 rfl ?_
                refine w_iload d165_159 rfl ?_
                refine w_callv2 d165_161 (by omega) rfl (okg.kd hv) (by simp) (Nat.le_of_ble_eq_true rfl) ?_
                refine k_Vr_goOn okg (by omega) hv (by omega) (fun h161 m161 e161_1 e161_2 => ?_)
                have ok161 := m161.ok
                have M161 := Mo.tr ok Mg m161 (fun x q => q.elim ((fun x e => (Or.inl e)) x) ((fun x e => (Or.inr (Or.inr (Or.inr (Or.inl e))))) x))
                refine w_istore4 d165_164 rfl ?_
                refine w_goto d165_166 ?_
                refine w_goto d165_182 ?_
                have gl := goF_le (lp := AI g (sT S 1032 v)) (lv := AI g (sT S 1033 v)) (lt := AI g (sT S 1034 v)) (w := AI g (sT S 1030 v)) (L := L)
                refine w_less ?_ (IH17 _ (by omega) h161 (n - 1) (goF (AI g (sT S 1032 v)) (AI g (sT S 1033 v)) (AI g (sT S 1034 v)) (AI g (sT S 1030 v)) L).2.2 (e + 1) (p + 3) rfl M161 (by omega) (by omega) (by omega) (by rw [m161.ai okg ⟨by omega, by omega⟩ (by simp [z1032_1030, z1032_1034]), m161.ai okg ⟨by omega, by omega⟩ (by simp [z1033_1030, z1033_1034]), e161_1, e161_2, ← dj_b (by omega) (by omega) hc ⟨c125, hbk⟩]; exact i4) (by rw [m161.rb okg hr (by simp [Ne.symm n1030r, Ne.symm n1034r])]; exact i5) (by rw [show cap h161 r = cap g r from (m161.cp okg hr).2 (by simp [Ne.symm n1030r, Ne.symm n1034r])]; exact i6))
                exact ⟨Or.inr rfl, Or.inr rfl, Or.inr rfl, Or.inr rfl, Or.inr rfl, Or.inr rfl, Or.inr rfl, Or.inl rfl, trivial⟩
          · refine w_iload d165_61 rfl ?_
            refine w_sipush d165_63 (by decide) ?_
            refine w_icmpge d165_66 (fun c66 => ?_) (fun c66 => ?_)
            · have hc : ¬ (atv (rl h a) p = 63 ∧ 0 ≤ atv (rl h a) (p + 1) - 48 ∧ atv (rl h a) (p + 1) - 48 < 5 ∧ L < 512) := fun z => by omega
              refine w_aload_n d165_117 rfl ?_
              refine w_iload d165_118 rfl ?_
              refine w_callv2 d165_120 (by omega) rfl (okg.kd ha) (by simp) (Nat.le_of_ble_eq_true rfl) ?_
              refine r_Row_at okg ha ?_
              rw [rla]
              refine w_bipush d165_123 (by decide) ?_
              refine w_icmpne d165_125 (fun c125 => ?_) (fun c125 => ?_)
              · have hno : ¬ (atv (rl h a) p = 33 ∧ brI rs (AI g (sT S 1030 v)) ((atv (rl h a) (p + 1) - 48) * 10 + atv (rl h a) (p + 2) - 48) = true) := fun z => c125 z.1
                refine w_aload_n d165_169 rfl ?_
                obtain ⟨g170, v170, s170⟩ := tg.tx okg 25 (by decide)
                refine w_getstaticS d165_170 v170 ?_
                refine w_callv2 d165_172 (by omega) rfl (okg.kd hr) (by simp) (Nat.le_of_ble_eq_true rfl) ?_
                refine r_Row_addText (by omega) okg hr s170 (fun h172 m172 e172_1 e172_2 => ?_)
                have ok172 := m172.ok
                have M172 := Mo.tr ok Mg m172 (fun x e => (Or.inr (Or.inr (Or.inr (Or.inr e)))))
                refine w_aload_n d165_175 rfl ?_
                refine w_iload d165_176 rfl ?_
                refine w_callv2 d165_178 (by omega) rfl (ok172.kd hr) (by simp) (Nat.le_of_ble_eq_true rfl) ?_
                refine r_Row_addNumber (by omega) ok172 hr (by omega) (fun h178 m178 e178_1 e178_2 => ?_)
                have ok178 := m178.ok
                have M178 := Mo.tr ok M172 m178 (fun x e => (Or.inr (Or.inr (Or.inr (Or.inr e)))))
                refine w_return d165_181 ?_
                rw [dj_o (by omega) (by omega) hc hno] at i4
                exact kk h178 M178 (by rw [e178_1, e172_1, e172_2, addBs3, i5, i6, i4]) (by rw [e178_2, e172_2, i6])
              · refine w_aload_n d165_128 rfl ?_
                refine w_iload d165_129 rfl ?_
                refine w_bipush d165_131 (by decide) ?_
                refine w_imul d165_133 (by constructor <;> omega) ?_
                refine w_aload_n d165_134 rfl ?_
                refine w_iload d165_135 rfl ?_
                refine w_iconst d165_137 (by decide) ?_
                refine w_iadd d165_138 (by constructor <;> omega) ?_
                refine w_callv2 d165_139 (by omega) rfl (okg.kd ha) (by simp) (Nat.le_of_ble_eq_true rfl) ?_
                refine r_Row_at okg ha ?_
                rw [rla]
                refine w_iadd d165_142 (by constructor <;> omega) ?_
                refine w_bipush d165_143 (by decide) ?_
                refine w_isub d165_145 (by constructor <;> omega) ?_
                refine w_callv2 d165_146 (by omega) rfl (okg.kd hv) (by simp) (Nat.le_of_ble_eq_true rfl) ?_
                refine k_Vr_isBroken okg (by omega) hv vcg ?_
                show Wp G d 165 149 _ [vI (b2i (brI rs (AI g (sT S 1030 v)) ((atv (rl h a) (p + 1) - 48) * 10 + atv (rl h a) (p + 2) - 48)))] _ Q
                refine w_ifeq d165_149 (fun c149 => ?_) (fun c149 => ?_)
                · have hno : ¬ (atv (rl h a) p = 33 ∧ brI rs (AI g (sT S 1030 v)) ((atv (rl h a) (p + 1) - 48) * 10 + atv (rl h a) (p + 2) - 48) = true) := fun z => absurd c149 (by rw [z.2]; decide)
                  refine w_aload_n d165_169 rfl ?_
                  obtain ⟨g170, v170, s170⟩ := tg.tx okg 25 (by decide)
                  refine w_getstaticS d165_170 v170 ?_
                  refine w_callv2 d165_172 (by omega) rfl (okg.kd hr) (by simp) (Nat.le_of_ble_eq_true rfl) ?_
                  refine r_Row_addText (by omega) okg hr s170 (fun h172 m172 e172_1 e172_2 => ?_)
                  have ok172 := m172.ok
                  have M172 := Mo.tr ok Mg m172 (fun x e => (Or.inr (Or.inr (Or.inr (Or.inr e)))))
                  refine w_aload_n d165_175 rfl ?_
                  refine w_iload d165_176 rfl ?_
                  refine w_callv2 d165_178 (by omega) rfl (ok172.kd hr) (by simp) (Nat.le_of_ble_eq_true rfl) ?_
                  refine r_Row_addNumber (by omega) ok172 hr (by omega) (fun h178 m178 e178_1 e178_2 => ?_)
                  have ok178 := m178.ok
                  have M178 := Mo.tr ok M172 m178 (fun x e => (Or.inr (Or.inr (Or.inr (Or.inr e)))))
                  refine w_return d165_181 ?_
                  rw [dj_o (by omega) (by omega) hc hno] at i4
                  exact kk h178 M178 (by rw [e178_1, e172_1, e172_2, addBs3, i5, i6, i4]) (by rw [e178_2, e172_2, i6])
                · have hbk : brI rs (AI g (sT S 1030 v)) ((atv (rl h a) (p + 1) - 48) * 10 + atv (rl h a) (p + 2) - 48) = true := by
                    cases z : brI rs (AI g (sT S 1030 v)) ((atv (rl h a) (p + 1) - 48) * 10 + atv (rl h a) (p + 2) - 48) with
                    | true => rfl
                    | false => rw [z] at c149; exact absurd rfl c149
                  refine w_iinc5 d165_152 rfl (by constructor <;> omega) ?_
                  refine w_iinc6 d165_155 rfl (by constructor <;> omega) ?_
                  refine w_aload_n d165_158 rfl ?_
                  refine w_iload d165_159 rfl ?_
                  refine w_callv2 d165_161 (by omega) rfl (okg.kd hv) (by simp) (Nat.le_of_ble_eq_true rfl) ?_
                  refine k_Vr_goOn okg (by omega) hv (by omega) (fun h161 m161 e161_1 e161_2 => ?_)
                  have ok161 := m161.ok
                  have M161 := Mo.tr ok Mg m161 (fun x q => q.elim ((fun x e => (Or.inl e)) x) ((fun x e => (Or.inr (Or.inr (Or.inr (Or.inl e))))) x))
                  refine w_istore4 d165_164 rfl ?_
                  refine w_goto d165_166 ?_
                  refine w_goto d165_182 ?_
                  have gl := goF_le (lp := AI g (sT S 1032 v)) (lv := AI g (sT S 1033 v)) (lt := AI g (sT S 1034 v)) (w := AI g (sT S 1030 v)) (L := L)
                  refine w_less ?_ (IH17 _ (by omega) h161 (n - 1) (goF (AI g (sT S 1032 v)) (AI g (sT S 1033 v)) (AI g (sT S 1034 v)) (AI g (sT S 1030 v)) L).2.2 (e + 1) (p + 3) rfl M161 (by omega) (by omega) (by omega) (by rw [m161.ai okg ⟨by omega, by omega⟩ (by simp [z1032_1030, z1032_1034]), m161.ai okg ⟨by omega, by omega⟩ (by simp [z1033_1030, z1033_1034]), e161_1, e161_2, ← dj_b (by omega) (by omega) hc ⟨c125, hbk⟩]; exact i4) (by rw [m161.rb okg hr (by simp [Ne.symm n1030r, Ne.symm n1034r])]; exact i5) (by rw [show cap h161 r = cap g r from (m161.cp okg hr).2 (by simp [Ne.symm n1030r, Ne.symm n1034r])]; exact i6))
                  exact ⟨Or.inr rfl, Or.inr rfl, Or.inr rfl, Or.inr rfl, Or.inr rfl, Or.inr rfl, Or.inr rfl, Or.inl rfl, trivial⟩
            · obtain ⟨dg, hdg⟩ : ∃ dg : Nat, atv (rl h a) (p + 1) - 48 = (dg : Int) := ⟨(atv (rl h a) (p + 1) - 48).toNat, (Int.toNat_of_nonneg (by omega)).symm⟩
              rw [hdg]
              refine w_aload_n d165_69 rfl ?_
              refine w_dloadS d165_70 (okg.kd hv) (fr1032 okg hv) ?_
              refine w_iload d165_73 rfl ?_
              refine w_iload d165_75 rfl ?_
              refine wa1032 d165_77 okg hv (by omega) (by omega) (fun h77 e77 m77 => ?_)
              have e77 : h77 = sAI g (sT S 1032 v) L ((dg : Nat) : Int) := e77
              have ok77 := m77.ok
              have M77 := Mo.tr ok Mg m77 (fun x e => (Or.inr (Or.inl e)))
              refine w_aload_n d165_78 rfl ?_
              refine w_dloadS d165_79 (ok77.kd hv) (fr1033 ok77 hv) ?_
              refine w_iload d165_82 rfl ?_
              refine w_aload_n d165_84 rfl ?_
              refine w_dloadS d165_85 (ok77.kd hv) (fr1030 ok77 hv) ?_
              refine w_iload d165_88 rfl ?_
              refine w_ialoadV (x := (AI g (sT S 1030 v) dg)) d165_90 (gi1030 ok77 hv (by omega)) (by rw [m77.ai okg ⟨by omega, by omega⟩ z1030_1032]; rfl) ?_
              have rd := ra1030 okg hv dg
              refine wa1033 d165_91 ok77 hv (by omega) (by omega) (fun h91 e91 m91 => ?_)
              have e91 : h91 = sAI h77 (sT S 1033 v) L (AI g (sT S 1030 v) dg) := e91
              have ok91 := m91.ok
              have M91 := Mo.tr ok M77 m91 (fun x e => (Or.inr (Or.inr (Or.inl e))))
              refine w_aload_n d165_92 rfl ?_
              refine w_dloadS d165_93 (ok91.kd hv) (fr1034 ok91 hv) ?_
              refine w_iload d165_96 rfl ?_
              refine w_iconst d165_98 (by decide) ?_
              refine wa1034 d165_99 ok91 hv (by omega) (by omega) (fun h99 e99 m99 => ?_)
              have e99 : h99 = sAI h91 (sT S 1034 v) L 0 := e99
              have ok99 := m99.ok
              have M99 := Mo.tr ok M91 m99 (fun x e => (Or.inr (Or.inr (Or.inr (Or.inl e)))))
              refine w_aload_n d165_100 rfl ?_
              refine w_dloadS d165_101 (ok99.kd hv) (fr1030 ok99 hv) ?_
              refine w_iload d165_104 rfl ?_
              refine w_iconst d165_106 (by decide) ?_
              refine wa1030 d165_107 ok99 hv (by omega) (by omega) (fun h107 e107 m107 => ?_)
              have e107 : h107 = sAI h99 (sT S 1030 v) dg 0 := e107
              have ok107 := m107.ok
              have M107 := Mo.tr ok M99 m107 (fun x e => (Or.inl e))
              refine w_iinc4 d165_108 rfl (by constructor <;> omega) ?_
              refine w_iinc6 d165_111 rfl (by constructor <;> omega) ?_
              refine w_goto d165_114 ?_
              refine w_goto d165_182 ?_
              have E32 : AI h107 (sT S 1032 v) = up (AI g (sT S 1032 v)) L dg := by rw [m107.ai ok99 ⟨by omega, by omega⟩ z1032_1030, m99.ai ok91 ⟨by omega, by omega⟩ z1032_1034, m91.ai ok77 ⟨by omega, by omega⟩ z1032_1033, e77, up_sAI]
              have E33 : AI h107 (sT S 1033 v) = up (AI g (sT S 1033 v)) L (AI g (sT S 1030 v) dg) := by rw [m107.ai ok99 ⟨by omega, by omega⟩ z1033_1030, m99.ai ok91 ⟨by omega, by omega⟩ z1033_1034, e91, up_sAI, m77.ai okg ⟨by omega, by omega⟩ z1033_1032]
              have E34 : AI h107 (sT S 1034 v) = up (AI g (sT S 1034 v)) L 0 := by rw [m107.ai ok99 ⟨by omega, by omega⟩ z1034_1030, e99, up_sAI, m91.ai ok77 ⟨by omega, by omega⟩ z1034_1033, m77.ai okg ⟨by omega, by omega⟩ z1034_1032]
              have E30 : AI h107 (sT S 1030 v) = up (AI g (sT S 1030 v)) dg 0 := by rw [e107, up_sAI, m99.ai ok91 ⟨by omega, by omega⟩ z1030_1034, m91.ai ok77 ⟨by omega, by omega⟩ z1030_1033, m77.ai okg ⟨by omega, by omega⟩ z1030_1032]
              rw [show ((p : Nat) : Int) + 2 = ((p + 2 : Nat) : Int) by omega]
              refine w_less ?_ (IH17 _ (by omega) h107 (n - 1) (L + 1) e (p + 2) rfl M107 (by omega) (by omega) (by omega) (by rw [E32, E33, E34, E30, ← dj_q (by omega) (by omega) c47 hdg (by omega) (by omega)]; exact i4) (by rw [m107.rb ok99 hr (Ne.symm n1030r), m99.rb ok91 hr (Ne.symm n1034r), m91.rb ok77 hr (Ne.symm n1033r), m77.rb okg hr (Ne.symm n1032r)]; exact i5) (by rw [show cap h107 r = cap h99 r from (m107.cp ok99 hr).2 (Ne.symm n1030r), show cap h99 r = cap h91 r from (m99.cp ok91 hr).2 (Ne.symm n1034r), show cap h91 r = cap h77 r from (m91.cp ok77 hr).2 (Ne.symm n1033r), show cap h77 r = cap g r from (m77.cp okg hr).2 (Ne.symm n1032r)]; exact i6))
              exact ⟨Or.inr rfl, Or.inr rfl, Or.inr rfl, Or.inr rfl, Or.inr rfl, Or.inr rfl, Or.inr rfl, Or.inl rfl, trivial⟩
  refine w_less ?_ (L17 _ h5 ((rl h a).length + 1) 0 0 f rfl M5 (by omega) (by omega) (by omega) (by rw [m5.ai ok ⟨by omega, by omega⟩ z1032_1030, m5.ai ok ⟨by omega, by omega⟩ z1033_1030, m5.ai ok ⟨by omega, by omega⟩ z1034_1030]; exact dj_cg vc.rg e5_1) (by rw [m5.rb ok hr (Ne.symm n1030r)]) (by rw [show cap h5 r = cap h r from (m5.cp ok hr).2 (Ne.symm n1030r)]))
  exact ⟨Or.inr rfl, Or.inr rfl, Or.inr rfl, Or.inr rfl, Or.inr rfl, Or.inr rfl, Or.inr rfl, Or.inl rfl, trivial⟩
