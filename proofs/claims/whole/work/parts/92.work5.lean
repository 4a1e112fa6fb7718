/-! the workshop: sort -/
/-- places of lines that are in order: n of them, in two arrays -/
def SoA (j : List Nat) (a b : Nat → Int) (ls : List (List Nat)) : Prop := ∀ k, k < ls.length → a k ≤ b k ∧ b k ≤ (j.length : Int) ∧ sl j (a k).toNat (b k).toNat = ls.getD k []
/-- n lines, those from p on one place further -/
def shP (a : Nat → Int) (p n : Nat) : Nat → Int := fun i => if p < i ∧ i ≤ n then a (i - 1) else a i
theorem if2 {α : Type} (c : Prop) [Decidable c] (a b d : α) : (if c then a else if c then b else d) = if c then a else d := by
  by_cases q : c
  · rw [if_pos q, if_pos q]
  · rw [if_neg q, if_neg q, if_neg q]
theorem shP_st {a a2 a' : Nat → Int} {k n : Nat} (h0 : 0 < k) (hn : k ≤ n) (e : ∀ i, a' i = if i = k then a (k - 1) else a2 i) (D : ∀ i, a2 i = if i = k then a2 k else shP a k n i) : ∀ i, a' i = if i = k - 1 then a' (k - 1) else shP a (k - 1) n i := fun i => by
  by_cases q : i = k - 1
  · rw [if_pos q, q]
  · rw [if_neg q, e]
    unfold shP
    by_cases q2 : i = k
    · rw [if_pos q2, if_pos ⟨by omega, by omega⟩, q2]
    · rw [if_neg q2, D, if_neg q2]
      unfold shP
      by_cases q3 : k < i ∧ i ≤ n
      · rw [if_pos q3, if_pos ⟨by omega, by omega⟩]
      · rw [if_neg q3, if_neg (by omega)]
theorem SoA.ins {j : List Nat} {a b a' b' : Nat → Int} {ls : List (List Nat)} {f e : Nat} (D : SoA j a b ls) (hf : f ≤ e ∧ e ≤ j.length) {p : Nat} (hp : p = sPos (fun k => cmpL (ls.getD k []) (sl j f e)) ls.length)
    (ha : ∀ i, a' i = if i = p then (f : Int) else shP a p ls.length i) (hb : ∀ i, b' i = if i = p then (e : Int) else shP b p ls.length i) : SoA j a' b' (insW ls (sl j f e)) := by
  intro k hk
  rw [insW_len] at hk
  have pl : p ≤ ls.length := by rw [hp]; exact sPos_le
  have g : (insW ls (sl j f e)).getD k [] = if k < p then ls.getD k [] else if k = p then sl j f e else ls.getD (k - 1) [] := by
    unfold insW
    rw [← hp]
    exact ins_at pl k
  rw [g, ha, hb]
  unfold shP
  by_cases q : k = p
  · subst q
    rw [if_pos rfl, if_pos rfl, if_neg (by omega), if_pos rfl]
    exact ⟨by omega, by omega, rfl⟩
  · rw [if_neg q, if_neg q]
    by_cases q2 : k < p
    · rw [if_neg (by omega), if_neg (by omega), if_pos q2]
      exact D k (by omega)
    · rw [if_pos ⟨by omega, by omega⟩, if_pos ⟨by omega, by omega⟩, if_neg q2, if_neg q]
      exact D (k - 1) (by omega)
theorem d116_0 : dc 116 0 = some (.aload_n 0, 1) := by decide +kernel
theorem d116_1 : dc 116 1 = some (.dload 1154, 4) := by decide +kernel
theorem d116_4 : dc 116 4 = some (.invokevirtual 13, 7) := by decide +kernel
theorem d116_7 : dc 116 7 = some (.sipush 600, 10) := by decide +kernel
theorem d116_10 : dc 116 10 = some (.if_icmp .le ((25 : Nat) : Int), 13) := by decide +kernel
theorem d116_13 : dc 116 13 = some (.aload_n 0, 14) := by decide +kernel
theorem d116_14 : dc 116 14 = some (.dload 1155, 17) := by decide +kernel
theorem d116_17 : dc 116 17 = some (.aload_n 0, 18) := by decide +kernel
theorem d116_18 : dc 116 18 = some (.dload 1154, 21) := by decide +kernel
theorem d116_21 : dc 116 21 = some (.invokevirtual 109, 24) := by decide +kernel
theorem d116_24 : dc 116 24 = some (.return_, 25) := by decide +kernel
theorem d116_25 : dc 116 25 = some (.iconst 0, 26) := by decide +kernel
theorem d116_26 : dc 116 26 = some (.istore_n 1, 27) := by decide +kernel
theorem d116_27 : dc 116 27 = some (.iconst 0, 28) := by decide +kernel
theorem d116_28 : dc 116 28 = some (.istore_n 2, 29) := by decide +kernel
theorem d116_29 : dc 116 29 = some (.iload_n 2, 30) := by decide +kernel
theorem d116_30 : dc 116 30 = some (.aload_n 0, 31) := by decide +kernel
theorem d116_31 : dc 116 31 = some (.dload 1154, 34) := by decide +kernel
theorem d116_34 : dc 116 34 = some (.invokevirtual 13, 37) := by decide +kernel
theorem d116_37 : dc 116 37 = some (.if_icmp .ge ((164 : Nat) : Int), 40) := by decide +kernel
theorem d116_40 : dc 116 40 = some (.iload_n 1, 41) := by decide +kernel
theorem d116_41 : dc 116 41 = some (.aload_n 0, 42) := by decide +kernel
theorem d116_42 : dc 116 42 = some (.dload 1157, 45) := by decide +kernel
theorem d116_45 : dc 116 45 = some (.arraylength, 46) := by decide +kernel
theorem d116_46 : dc 116 46 = some (.if_icmp .ge ((164 : Nat) : Int), 49) := by decide +kernel
theorem d116_49 : dc 116 49 = some (.aload_n 0, 50) := by decide +kernel
theorem d116_50 : dc 116 50 = some (.dload 1154, 53) := by decide +kernel
theorem d116_53 : dc 116 53 = some (.iload_n 2, 54) := by decide +kernel
theorem d116_54 : dc 116 54 = some (.invokevirtual 117, 57) := by decide +kernel
theorem d116_57 : dc 116 57 = some (.istore_n 3, 58) := by decide +kernel
theorem d116_58 : dc 116 58 = some (.iload_n 1, 59) := by decide +kernel
theorem d116_59 : dc 116 59 = some (.istore 4, 61) := by decide +kernel
theorem d116_61 : dc 116 61 = some (.iload 4, 63) := by decide +kernel
theorem d116_63 : dc 116 63 = some (.ifCond .le ((138 : Nat) : Int), 66) := by decide +kernel
theorem d116_66 : dc 116 66 = some (.aload_n 0, 67) := by decide +kernel
theorem d116_67 : dc 116 67 = some (.dload 1154, 70) := by decide +kernel
theorem d116_70 : dc 116 70 = some (.aload_n 0, 71) := by decide +kernel
theorem d116_71 : dc 116 71 = some (.dload 1157, 74) := by decide +kernel
theorem d116_74 : dc 116 74 = some (.iload 4, 76) := by decide +kernel
theorem d116_76 : dc 116 76 = some (.iconst 1, 77) := by decide +kernel
theorem d116_77 : dc 116 77 = some (.isub, 78) := by decide +kernel
theorem d116_78 : dc 116 78 = some (.iaload, 79) := by decide +kernel
theorem d116_79 : dc 116 79 = some (.aload_n 0, 80) := by decide +kernel
theorem d116_80 : dc 116 80 = some (.dload 1158, 83) := by decide +kernel
theorem d116_83 : dc 116 83 = some (.iload 4, 85) := by decide +kernel
theorem d116_85 : dc 116 85 = some (.iconst 1, 86) := by decide +kernel
theorem d116_86 : dc 116 86 = some (.isub, 87) := by decide +kernel
theorem d116_87 : dc 116 87 = some (.iaload, 88) := by decide +kernel
theorem d116_88 : dc 116 88 = some (.aload_n 0, 89) := by decide +kernel
theorem d116_89 : dc 116 89 = some (.dload 1154, 92) := by decide +kernel
theorem d116_92 : dc 116 92 = some (.iload_n 2, 93) := by decide +kernel
theorem d116_93 : dc 116 93 = some (.iload_n 3, 94) := by decide +kernel
theorem d116_94 : dc 116 94 = some (.invokevirtual 118, 97) := by decide +kernel
theorem d116_97 : dc 116 97 = some (.ifCond .le ((138 : Nat) : Int), 100) := by decide +kernel
theorem d116_100 : dc 116 100 = some (.aload_n 0, 101) := by decide +kernel
theorem d116_101 : dc 116 101 = some (.dload 1157, 104) := by decide +kernel
theorem d116_104 : dc 116 104 = some (.iload 4, 106) := by decide +kernel
theorem d116_106 : dc 116 106 = some (.aload_n 0, 107) := by decide +kernel
theorem d116_107 : dc 116 107 = some (.dload 1157, 110) := by decide +kernel
theorem d116_110 : dc 116 110 = some (.iload 4, 112) := by decide +kernel
theorem d116_112 : dc 116 112 = some (.iconst 1, 113) := by decide +kernel
theorem d116_113 : dc 116 113 = some (.isub, 114) := by decide +kernel
theorem d116_114 : dc 116 114 = some (.iaload, 115) := by decide +kernel
theorem d116_115 : dc 116 115 = some (.iastore, 116) := by decide +kernel
theorem d116_116 : dc 116 116 = some (.aload_n 0, 117) := by decide +kernel
theorem d116_117 : dc 116 117 = some (.dload 1158, 120) := by decide +kernel
theorem d116_120 : dc 116 120 = some (.iload 4, 122) := by decide +kernel
theorem d116_122 : dc 116 122 = some (.aload_n 0, 123) := by decide +kernel
theorem d116_123 : dc 116 123 = some (.dload 1158, 126) := by decide +kernel
theorem d116_126 : dc 116 126 = some (.iload 4, 128) := by decide +kernel
theorem d116_128 : dc 116 128 = some (.iconst 1, 129) := by decide +kernel
theorem d116_129 : dc 116 129 = some (.isub, 130) := by decide +kernel
theorem d116_130 : dc 116 130 = some (.iaload, 131) := by decide +kernel
theorem d116_131 : dc 116 131 = some (.iastore, 132) := by decide +kernel
theorem d116_132 : dc 116 132 = some (.iinc 4 (-1), 135) := by decide +kernel
theorem d116_135 : dc 116 135 = some (.goto ((61 : Nat) : Int), 138) := by decide +kernel
theorem d116_138 : dc 116 138 = some (.aload_n 0, 139) := by decide +kernel
theorem d116_139 : dc 116 139 = some (.dload 1157, 142) := by decide +kernel
theorem d116_142 : dc 116 142 = some (.iload 4, 144) := by decide +kernel
theorem d116_144 : dc 116 144 = some (.iload_n 2, 145) := by decide +kernel
theorem d116_145 : dc 116 145 = some (.iastore, 146) := by decide +kernel
theorem d116_146 : dc 116 146 = some (.aload_n 0, 147) := by decide +kernel
theorem d116_147 : dc 116 147 = some (.dload 1158, 150) := by decide +kernel
theorem d116_150 : dc 116 150 = some (.iload 4, 152) := by decide +kernel
theorem d116_152 : dc 116 152 = some (.iload_n 3, 153) := by decide +kernel
theorem d116_153 : dc 116 153 = some (.iastore, 154) := by decide +kernel
theorem d116_154 : dc 116 154 = some (.iinc 1 1, 157) := by decide +kernel
theorem d116_157 : dc 116 157 = some (.iload_n 3, 158) := by decide +kernel
theorem d116_158 : dc 116 158 = some (.iconst 1, 159) := by decide +kernel
theorem d116_159 : dc 116 159 = some (.iadd, 160) := by decide +kernel
theorem d116_160 : dc 116 160 = some (.istore_n 2, 161) := by decide +kernel
theorem d116_161 : dc 116 161 = some (.goto ((29 : Nat) : Int), 164) := by decide +kernel
theorem d116_164 : dc 116 164 = some (.iconst 0, 165) := by decide +kernel
theorem d116_165 : dc 116 165 = some (.istore_n 3, 166) := by decide +kernel
theorem d116_166 : dc 116 166 = some (.iload_n 3, 167) := by decide +kernel
theorem d116_167 : dc 116 167 = some (.iload_n 1, 168) := by decide +kernel
theorem d116_168 : dc 116 168 = some (.if_icmp .ge ((200 : Nat) : Int), 171) := by decide +kernel
theorem d116_171 : dc 116 171 = some (.aload_n 0, 172) := by decide +kernel
theorem d116_172 : dc 116 172 = some (.dload 1155, 175) := by decide +kernel
theorem d116_175 : dc 116 175 = some (.aload_n 0, 176) := by decide +kernel
theorem d116_176 : dc 116 176 = some (.dload 1154, 179) := by decide +kernel
theorem d116_179 : dc 116 179 = some (.aload_n 0, 180) := by decide +kernel
theorem d116_180 : dc 116 180 = some (.dload 1157, 183) := by decide +kernel
theorem d116_183 : dc 116 183 = some (.iload_n 3, 184) := by decide +kernel
theorem d116_184 : dc 116 184 = some (.iaload, 185) := by decide +kernel
theorem d116_185 : dc 116 185 = some (.aload_n 0, 186) := by decide +kernel
theorem d116_186 : dc 116 186 = some (.dload 1158, 189) := by decide +kernel
theorem d116_189 : dc 116 189 = some (.iload_n 3, 190) := by decide +kernel
theorem d116_190 : dc 116 190 = some (.iaload, 191) := by decide +kernel
theorem d116_191 : dc 116 191 = some (.invokevirtual 119, 194) := by decide +kernel
theorem d116_194 : dc 116 194 = some (.iinc 3 1, 197) := by decide +kernel
theorem d116_197 : dc 116 197 = some (.goto ((166 : Nat) : Int), 200) := by decide +kernel
theorem d116_200 : dc 116 200 = some (.return_, 201) := by decide +kernel
theorem k_Wk_sort {S : Shp} {G : Nat → Option Nat} {d : Nat} {h : Hp} {Q : Option MV → Hp → Prop} {w : Nat}  (ok : Ok S h) (h1 : 2 ≤ d) (hw : sK S w = 10)  (hj : (rl h (sT S 1154 w)).length ≤ 4000)
    (kk : ∀ h', Mo S (fun y => y = sT S 1155 w ∨ y = sT S 1157 w ∨ y = sT S 1158 w) h h' → rl h' (sT S 1155 w) = addBs (cap h (sT S 1155 w)) (rl h (sT S 1155 w)) (srtT (rl h (sT S 1154 w))) → cap h' (sT S 1155 w) = cap h (sT S 1155 w) → Q none h') : Cl G d 116 [vR (some w)] h Q := by
  show Wp G d 116 0 [some (vR (some w)), none, none, none, none] [] h Q
  have K54 := kT1154 ok hw
  have K55 := kT1155 ok hw
  have K57 := kT1157 ok hw
  have K58 := kT1158 ok hw
  have njo : sT S 1154 w ≠ sT S 1155 w := ok.so.ou (by decide) (by decide) (Or.inl (by decide))
  have n78 : sT S 1157 w ≠ sT S 1158 w := ok.so.ou (by decide) (by decide) (Or.inl (by decide))
  have nr : ∀ r, sK S r = 6 → r ≠ sT S 1157 w ∧ r ≠ sT S 1158 w := fun r k => ⟨fun z => by rw [z] at k; omega, fun z => by rw [z] at k; omega⟩
  have nao : sT S 1157 w ≠ sT S 1155 w ∧ sT S 1158 w ≠ sT S 1155 w := ⟨fun z => by rw [z] at K57; omega, fun z => by rw [z] at K58; omega⟩
  refine w_aload_n d116_0 rfl ?_
  refine w_dloadS d116_1 (ok.kd hw) (fr1154 ok hw) ?_
  refine w_callv1 d116_4 (by omega) rfl (ok.kd (kT1154 ok hw)) (by simp) (Nat.le_of_ble_eq_true rfl) ?_
  refine r_Row_size ok (kT1154 ok hw) ?_
  refine w_sipush d116_7 (by decide) ?_
  refine w_icmple d116_10 (fun c10 => ?_) (fun c10 => ?_)
  · have sm : ¬ 600 < (rl h (sT S 1154 w)).length := by omega
    refine w_iconst d116_25 (by decide) ?_
    refine w_istore1 d116_26 rfl ?_
    refine w_iconst d116_27 (by decide) ?_
    refine w_istore2 d116_28 rfl ?_
    have L29 : ∀ (m29 : Nat) (g : Hp) (n f : Nat) (ls : List (List Nat)), (rl h (sT S 1154 w)).length + 1 - f = m29 → Mo S (fun x => x = (sT S 1155 w) ∨ x = (sT S 1157 w) ∨ x = (sT S 1158 w)) h g → (f ≤ (rl h (sT S 1154 w)).length + 1) → ((n ≤ f ∧ n ≤ (rl h (sT S 1154 w)).length) ∧ ls.length = n) → (SoA (rl h (sT S 1154 w)) (AI g (sT S 1157 w)) (AI g (sT S 1158 w)) ls) → ((lns ((rl h (sT S 1154 w)).drop f)).foldl insW ls = (lns (rl h (sT S 1154 w))).foldl insW []) → (rl g (sT S 1155 w) = rl h (sT S 1155 w)) → (cap g (sT S 1155 w) = cap h (sT S 1155 w)) → Wp G d 116 29 [some (vR (some w)), some (vI (n : Nat)), some (vI (f : Nat)), none, none] [] g Q := by
      intro m29
      induction m29 using Nat.strongRecOn with | ind m29 IH29 => ?_
      intro g n f ls hm29 Mg i1 i2 i3 i4 i5 i6
      have okg := Mg.ok
      have rg : rl g (sT S 1154 w) = rl h (sT S 1154 w) := Mg.rb ok K54 (by simp [njo, nr _ K54])
      refine w_iload_n d116_29 rfl ?_
      refine w_aload_n d116_30 rfl ?_
      refine w_dloadS d116_31 (okg.kd hw) (fr1154 okg hw) ?_
      refine w_callv1 d116_34 (by omega) rfl (okg.kd (kT1154 okg hw)) (by simp) (Nat.le_of_ble_eq_true rfl) ?_
      refine r_Row_size okg (kT1154 okg hw) ?_
      rw [rg]
      refine w_icmpge d116_37 (fun c37 => ?_) (fun c37 => ?_)
      · rw [lns_end (by omega)] at i4
        have i4b : ls = (lns (rl h (sT S 1154 w))).foldl insW [] := i4
        refine w_iconst d116_164 (by decide) ?_
        refine w_istore3 d116_165 rfl ?_
        have L166 : ∀ (m166 : Nat) (g3 : Hp) (i : Nat), n - i = m166 → Mo S (fun x => x = (sT S 1155 w) ∨ x = (sT S 1157 w) ∨ x = (sT S 1158 w)) h g3 → (i ≤ n) → (rl g3 (sT S 1155 w) = addBs (cap h (sT S 1155 w)) (rl h (sT S 1155 w)) (enT ls i)) → (cap g3 (sT S 1155 w) = cap h (sT S 1155 w)) → (AI g3 (sT S 1157 w) = AI g (sT S 1157 w) ∧ AI g3 (sT S 1158 w) = AI g (sT S 1158 w)) → Wp G d 116 166 [some (vR (some w)), some (vI (n : Nat)), some (vI (f : Nat)), some (vI (i : Nat)), none] [] g3 Q := by
          intro m166
          induction m166 using Nat.strongRecOn with | ind m166 IH166 => ?_
          intro g3 i hm166 Mg3 l1 l2 l3 l4
          have okg3 := Mg3.ok
          have rg3 : rl g3 (sT S 1154 w) = rl h (sT S 1154 w) := Mg3.rb ok K54 (by simp [njo, nr _ K54])
          refine w_iload_n d116_166 rfl ?_
          refine w_iload_n d116_167 rfl ?_
          refine w_icmpge d116_168 (fun c168 => ?_) (fun c168 => ?_)
          · refine w_return d116_200 ?_
            unfold srtT at kk
            rw [if_neg sm, ← i4b] at kk
            exact kk g3 Mg3 (by rw [l2, show i = ls.length by omega]) l3
          · obtain ⟨z1, z2, z3⟩ := i3 i (by omega)
            have y0 := ra1157 okg hw i
            have y1 := ra1158 okg hw i
            obtain ⟨b, hb⟩ : ∃ b : Nat, AI g (sT S 1157 w) i = b := ⟨_, (Int.toNat_of_nonneg (by omega)).symm⟩
            obtain ⟨e, he⟩ : ∃ e : Nat, AI g (sT S 1158 w) i = e := ⟨_, (Int.toNat_of_nonneg (by omega)).symm⟩
            rw [hb, he] at z3
            have z3b : sl (rl h (sT S 1154 w)) b e = ls.getD i [] := z3
            refine w_aload_n d116_171 rfl ?_
            refine w_dloadS d116_172 (okg3.kd hw) (fr1155 okg3 hw) ?_
            refine w_aload_n d116_175 rfl ?_
            refine w_dloadS d116_176 (okg3.kd hw) (fr1154 okg3 hw) ?_
            refine w_aload_n d116_179 rfl ?_
            refine w_dloadS d116_180 (okg3.kd hw) (fr1157 okg3 hw) ?_
            refine w_iload_n d116_183 rfl ?_
            refine w_ialoadV (x := ((b : Nat) : Int)) d116_184 (gi1157 okg3 hw (by omega)) ((congrFun l4.1 i).trans hb) ?_
            refine w_aload_n d116_185 rfl ?_
            refine w_dloadS d116_186 (okg3.kd hw) (fr1158 okg3 hw) ?_
            refine w_iload_n d116_189 rfl ?_
            refine w_ialoadV (x := ((e : Nat) : Int)) d116_190 (gi1158 okg3 hw (by omega)) ((congrFun l4.2 i).trans he) ?_
            refine w_callv4 d116_191 (by omega) rfl (okg3.kd (kT1155 okg3 hw)) (by simp) (Nat.le_of_ble_eq_true rfl) ?_
            refine r_Row_addLine (by omega) okg3 (kT1155 okg3 hw) (kT1154 okg3 hw) njo ⟨by omega, by rw [rg3]; omega⟩ (fun h191 m191 e191_1 e191_2 => ?_)
            rw [rg3, z3b] at e191_1
            have ok191 := m191.ok
            have M191 := Mo.tr ok Mg3 m191 (fun x e => (Or.inl e))
            refine w_iinc3 d116_194 rfl (by constructor <;> omega) ?_
            refine w_goto d116_197 ?_
            refine w_less ?_ (IH166 _ (by omega) h191 (i + 1) rfl M191 (by omega) (by rw [e191_1, l3, l2, addBs3]; rfl) (by rw [e191_2, l3]) ⟨by rw [m191.ai okg3 ⟨by omega, by omega⟩ nao.1]; exact l4.1, by rw [m191.ai okg3 ⟨by omega, by omega⟩ nao.2]; exact l4.2⟩)
            exact ⟨Or.inr rfl, Or.inr rfl, Or.inr rfl, Or.inr rfl, Or.inl rfl, trivial⟩
        refine w_less ?_ (L166 _ g 0 rfl Mg (by omega) i5 i6 ⟨rfl, rfl⟩)
        exact ⟨Or.inr rfl, Or.inr rfl, Or.inr rfl, Or.inr rfl, Or.inl rfl, trivial⟩
      · have le := lineE_le (l := (rl h (sT S 1154 w))) (i := f) (by omega)
        have lg := lineE_ge (rl h (sT S 1154 w)) f
        refine w_iload_n d116_40 rfl ?_
        refine w_aload_n d116_41 rfl ?_
        refine w_dloadS d116_42 (okg.kd hw) (fr1157 okg hw) ?_
        refine wl1157 d116_45 okg hw ?_
        refine w_icmpge d116_46 (fun c46 => ?_) (fun c46 => ?_)
        · omega
        · refine w_aload_n d116_49 rfl ?_
          refine w_dloadS d116_50 (okg.kd hw) (fr1154 okg hw) ?_
          refine w_iload_n d116_53 rfl ?_
          refine w_callv2 d116_54 (by omega) rfl (okg.kd (kT1154 okg hw)) (by simp) (Nat.le_of_ble_eq_true rfl) ?_
          refine r_Row_lineEndN (by omega) okg (kT1154 okg hw) (by omega) ?_
          rw [rg]
          refine w_istore3 d116_57 rfl ?_
          refine w_iload_n d116_58 rfl ?_
          refine w_istore4 d116_59 rfl ?_
          have L61 : ∀ (m61 : Nat) (g2 : Hp) (k : Nat), k = m61 → Mo S (fun x => x = (sT S 1155 w) ∨ x = (sT S 1157 w) ∨ x = (sT S 1158 w)) h g2 → (k ≤ n) → (sPos (fun i => cmpL (ls.getD i []) (sl (rl h (sT S 1154 w)) f (lineE (rl h (sT S 1154 w)) f))) n = sPos (fun i => cmpL (ls.getD i []) (sl (rl h (sT S 1154 w)) f (lineE (rl h (sT S 1154 w)) f))) k) → (∀ i, AI g2 (sT S 1157 w) i = if i = k then AI g2 (sT S 1157 w) k else shP (AI g (sT S 1157 w)) k n i) → (∀ i, AI g2 (sT S 1158 w) i = if i = k then AI g2 (sT S 1158 w) k else shP (AI g (sT S 1158 w)) k n i) → (∀ i, i < k → AI g2 (sT S 1157 w) i = AI g (sT S 1157 w) i ∧ AI g2 (sT S 1158 w) i = AI g (sT S 1158 w) i) → (rl g2 (sT S 1155 w) = rl h (sT S 1155 w)) → (cap g2 (sT S 1155 w) = cap h (sT S 1155 w)) → Wp G d 116 61 [some (vR (some w)), some (vI (n : Nat)), some (vI (f : Nat)), some (vI ((lineE (rl h (sT S 1154 w)) f) : Nat)), some (vI (k : Nat))] [] g2 Q := by
            intro m61
            induction m61 using Nat.strongRecOn with | ind m61 IH61 => ?_
            intro g2 k hm61 Mg2 k1 k3 k4 k5 k8 k6 k7
            have okg2 := Mg2.ok
            have rg2 : rl g2 (sT S 1154 w) = rl h (sT S 1154 w) := Mg2.rb ok K54 (by simp [njo, nr _ K54])
            refine w_iload d116_61 rfl ?_
            refine w_ifle d116_63 (fun c63 => ?_) (fun c63 => ?_)
            · have ks : k = 0 ∨ ¬ 0 < (fun i => cmpL (ls.getD i []) (sl (rl h (sT S 1154 w)) f (lineE (rl h (sT S 1154 w)) f))) (k - 1) := Or.inl (by omega)
              refine w_aload_n d116_138 rfl ?_
              refine w_dloadS d116_139 (okg2.kd hw) (fr1157 okg2 hw) ?_
              refine w_iload d116_142 rfl ?_
              refine w_iload_n d116_144 rfl ?_
              refine wa1157 d116_145 okg2 hw (by omega) (by omega) (fun h145 e145 m145 => ?_)
              have e145 : h145 = sAI g2 (sT S 1157 w) k ((f : Nat) : Int) := e145
              have ok145 := m145.ok
              have M145 := Mo.tr ok Mg2 m145 (fun x e => (Or.inr (Or.inl e)))
              refine w_aload_n d116_146 rfl ?_
              refine w_dloadS d116_147 (ok145.kd hw) (fr1158 ok145 hw) ?_
              refine w_iload d116_150 rfl ?_
              refine w_iload_n d116_152 rfl ?_
              refine wa1158 d116_153 ok145 hw (by omega) (by omega) (fun h153 e153 m153 => ?_)
              have e153 : h153 = sAI h145 (sT S 1158 w) k (((lineE (rl h (sT S 1154 w)) f) : Nat) : Int) := e153
              have ok153 := m153.ok
              have M153 := Mo.tr ok M145 m153 (fun x e => (Or.inr (Or.inr e)))
              refine w_iinc1 d116_154 rfl (by constructor <;> omega) ?_
              refine w_iload_n d116_157 rfl ?_
              refine w_iconst d116_158 (by decide) ?_
              refine w_iadd d116_159 (by constructor <;> omega) ?_
              rw [show (((lineE (rl h (sT S 1154 w)) f) : Nat) : Int) + 1 = (((lineE (rl h (sT S 1154 w)) f) + 1 : Nat) : Int) by omega]
              refine w_istore2 d116_160 rfl ?_
              refine w_goto d116_161 ?_
              refine w_less ?_ (IH29 _ (by omega) h153 (n + 1) ((lineE (rl h (sT S 1154 w)) f) + 1) (insW ls (sl (rl h (sT S 1154 w)) f (lineE (rl h (sT S 1154 w)) f))) rfl M153 (by omega) ⟨⟨by omega, by omega⟩, by rw [insW_len, i2.2]⟩ (i3.ins ⟨lg, le⟩ (p := k) (by rw [i2.2, k3, sPos_at ks]) (fun i => by rw [m153.ai ok145 ⟨by omega, by omega⟩ n78, e145, sArr]; rw [k4, i2.2]; exact if2 _ _ _ _) (fun i => by rw [e153, sArr, m145.ai okg2 ⟨by omega, by omega⟩ (Ne.symm n78)]; rw [k5, i2.2]; exact if2 _ _ _ _)) (by rw [← i4, lns_at (l := (rl h (sT S 1154 w))) (i := f) (by omega)]; rfl) (by rw [m153.rb ok145 K55 (nr _ K55).2, m145.rb okg2 K55 (nr _ K55).1]; exact k6) (by rw [show cap h153 (sT S 1155 w) = cap h145 (sT S 1155 w) from (m153.cp ok145 K55).2 (nr _ K55).2, show cap h145 (sT S 1155 w) = cap g2 (sT S 1155 w) from (m145.cp okg2 K55).2 (nr _ K55).1]; exact k7))
              exact ⟨Or.inr rfl, Or.inr rfl, Or.inr rfl, Or.inl rfl, Or.inl rfl, trivial⟩
            · obtain ⟨z1, z2, z3⟩ := i3 (k - 1) (by omega)
              have y0 := ra1157 okg hw (k - 1)
              have y1 := ra1158 okg hw (k - 1)
              obtain ⟨b, hb⟩ : ∃ b : Nat, AI g (sT S 1157 w) (k - 1) = b := ⟨_, (Int.toNat_of_nonneg (by omega)).symm⟩
              obtain ⟨e, he⟩ : ∃ e : Nat, AI g (sT S 1158 w) (k - 1) = e := ⟨_, (Int.toNat_of_nonneg (by omega)).symm⟩
              rw [hb, he] at z3
              have z3b : sl (rl h (sT S 1154 w)) b e = ls.getD (k - 1) [] := z3
              refine w_aload_n d116_66 rfl ?_
              refine w_dloadS d116_67 (okg2.kd hw) (fr1154 okg2 hw) ?_
              refine w_aload_n d116_70 rfl ?_
              refine w_dloadS d116_71 (okg2.kd hw) (fr1157 okg2 hw) ?_
              refine w_iload d116_74 rfl ?_
              refine w_iconst d116_76 (by decide) ?_
              refine w_isub d116_77 (by constructor <;> omega) ?_
              rw [show ((k : Nat) : Int) - 1 = ((k - 1 : Nat) : Int) by omega]
              refine w_ialoadV (x := ((b : Nat) : Int)) d116_78 (gi1157 okg2 hw (by omega)) ((k8 (k - 1) (by omega)).1.trans hb) ?_
              refine w_aload_n d116_79 rfl ?_
              refine w_dloadS d116_80 (okg2.kd hw) (fr1158 okg2 hw) ?_
              refine w_iload d116_83 rfl ?_
              refine w_iconst d116_85 (by decide) ?_
              refine w_isub d116_86 (by constructor <;> omega) ?_
              rw [show ((k : Nat) : Int) - 1 = ((k - 1 : Nat) : Int) by omega]
              refine w_ialoadV (x := ((e : Nat) : Int)) d116_87 (gi1158 okg2 hw (by omega)) ((k8 (k - 1) (by omega)).2.trans he) ?_
              refine w_aload_n d116_88 rfl ?_
              refine w_dloadS d116_89 (okg2.kd hw) (fr1154 okg2 hw) ?_
              refine w_iload_n d116_92 rfl ?_
              refine w_iload_n d116_93 rfl ?_
              refine w_callv6 d116_94 (by omega) rfl (okg2.kd (kT1154 okg2 hw)) (by simp) (Nat.le_of_ble_eq_true rfl) ?_
              refine r_Row_order (by omega) okg2 (kT1154 okg2 hw) (kT1154 okg2 hw) ⟨by omega, by rw [rg2]; omega⟩ ⟨lg, by rw [rg2]; exact le⟩ ?_
              rw [rg2, z3b]
              refine w_ifle d116_97 (fun c97 => ?_) (fun c97 => ?_)
              · have ks : k = 0 ∨ ¬ 0 < (fun i => cmpL (ls.getD i []) (sl (rl h (sT S 1154 w)) f (lineE (rl h (sT S 1154 w)) f))) (k - 1) := Or.inr (by show ¬ 0 < cmpL (ls.getD (k - 1) []) (sl (rl h (sT S 1154 w)) f (lineE (rl h (sT S 1154 w)) f)); omega)
                refine w_aload_n d116_138 rfl ?_
                refine w_dloadS d116_139 (okg2.kd hw) (fr1157 okg2 hw) ?_
                refine w_iload d116_142 rfl ?_
                refine w_iload_n d116_144 rfl ?_
                refine wa1157 d116_145 okg2 hw (by omega) (by omega) (fun h145 e145 m145 => ?_)
                have e145 : h145 = sAI g2 (sT S 1157 w) k ((f : Nat) : Int) := e145
                have ok145 := m145.ok
                have M145 := Mo.tr ok Mg2 m145 (fun x e => (Or.inr (Or.inl e)))
                refine w_aload_n d116_146 rfl ?_
                refine w_dloadS d116_147 (ok145.kd hw) (fr1158 ok145 hw) ?_
                refine w_iload d116_150 rfl ?_
                refine w_iload_n d116_152 rfl ?_
                refine wa1158 d116_153 ok145 hw (by omega) (by omega) (fun h153 e153 m153 => ?_)
                have e153 : h153 = sAI h145 (sT S 1158 w) k (((lineE (rl h (sT S 1154 w)) f) : Nat) : Int) := e153
                have ok153 := m153.ok
                have M153 := Mo.tr ok M145 m153 (fun x e => (Or.inr (Or.inr e)))
                refine w_iinc1 d116_154 rfl (by constructor <;> omega) ?_
                refine w_iload_n d116_157 rfl ?_
                refine w_iconst d116_158 (by decide) ?_
                refine w_iadd d116_159 (by constructor <;> omega) ?_
                rw [show (((lineE (rl h (sT S 1154 w)) f) : Nat) : Int) + 1 = (((lineE (rl h (sT S 1154 w)) f) + 1 : Nat) : Int) by omega]
                refine w_istore2 d116_160 rfl ?_
                refine w_goto d116_161 ?_
                refine w_less ?_ (IH29 _ (by omega) h153 (n + 1) ((lineE (rl h (sT S 1154 w)) f) + 1) (insW ls (sl (rl h (sT S 1154 w)) f (lineE (rl h (sT S 1154 w)) f))) rfl M153 (by omega) ⟨⟨by omega, by omega⟩, by rw [insW_len, i2.2]⟩ (i3.ins ⟨lg, le⟩ (p := k) (by rw [i2.2, k3, sPos_at ks]) (fun i => by rw [m153.ai ok145 ⟨by omega, by omega⟩ n78, e145, sArr]; rw [k4, i2.2]; exact if2 _ _ _ _) (fun i => by rw [e153, sArr, m145.ai okg2 ⟨by omega, by omega⟩ (Ne.symm n78)]; rw [k5, i2.2]; exact if2 _ _ _ _)) (by rw [← i4, lns_at (l := (rl h (sT S 1154 w))) (i := f) (by omega)]; rfl) (by rw [m153.rb ok145 K55 (nr _ K55).2, m145.rb okg2 K55 (nr _ K55).1]; exact k6) (by rw [show cap h153 (sT S 1155 w) = cap h145 (sT S 1155 w) from (m153.cp ok145 K55).2 (nr _ K55).2, show cap h145 (sT S 1155 w) = cap g2 (sT S 1155 w) from (m145.cp okg2 K55).2 (nr _ K55).1]; exact k7))
                exact ⟨Or.inr rfl, Or.inr rfl, Or.inr rfl, Or.inl rfl, Or.inl rfl, trivial⟩
              · have sp := sPos_dn (c := (fun i => cmpL (ls.getD i []) (sl (rl h (sT S 1154 w)) f (lineE (rl h (sT S 1154 w)) f)))) (k := k) (by omega) (by show 0 < cmpL (ls.getD (k - 1) []) (sl (rl h (sT S 1154 w)) f (lineE (rl h (sT S 1154 w)) f)); omega)
                refine w_aload_n d116_100 rfl ?_
                refine w_dloadS d116_101 (okg2.kd hw) (fr1157 okg2 hw) ?_
                refine w_iload d116_104 rfl ?_
                refine w_aload_n d116_106 rfl ?_
                refine w_dloadS d116_107 (okg2.kd hw) (fr1157 okg2 hw) ?_
                refine w_iload d116_110 rfl ?_
                refine w_iconst d116_112 (by decide) ?_
                refine w_isub d116_113 (by constructor <;> omega) ?_
                rw [show ((k : Nat) : Int) - 1 = ((k - 1 : Nat) : Int) by omega]
                refine w_ialoadV (x := ((b : Nat) : Int)) d116_114 (gi1157 okg2 hw (by omega)) ((k8 (k - 1) (by omega)).1.trans hb) ?_
                refine wa1157 d116_115 okg2 hw (by omega) (by omega) (fun h115 e115 m115 => ?_)
                have e115 : h115 = sAI g2 (sT S 1157 w) k ((b : Nat) : Int) := e115
                have ok115 := m115.ok
                have M115 := Mo.tr ok Mg2 m115 (fun x e => (Or.inr (Or.inl e)))
                refine w_aload_n d116_116 rfl ?_
                refine w_dloadS d116_117 (ok115.kd hw) (fr1158 ok115 hw) ?_
                refine w_iload d116_120 rfl ?_
                refine w_aload_n d116_122 rfl ?_
                refine w_dloadS d116_123 (ok115.kd hw) (fr1158 ok115 hw) ?_
                refine w_iload d116_126 rfl ?_
                refine w_iconst d116_128 (by decide) ?_
                refine w_isub d116_129 (by constructor <;> omega) ?_
                rw [show ((k : Nat) : Int) - 1 = ((k - 1 : Nat) : Int) by omega]
                refine w_ialoadV (x := ((e : Nat) : Int)) d116_130 (gi1158 ok115 hw (by omega)) (by rw [m115.ai okg2 ⟨by omega, by omega⟩ (Ne.symm n78)]; exact (k8 (k - 1) (by omega)).2.trans he) ?_
                refine wa1158 d116_131 ok115 hw (by omega) (by omega) (fun h131 e131 m131 => ?_)
                have e131 : h131 = sAI h115 (sT S 1158 w) k ((e : Nat) : Int) := e131
                have ok131 := m131.ok
                have M131 := Mo.tr ok M115 m131 (fun x e => (Or.inr (Or.inr e)))
                refine w_iinc4 d116_132 rfl (by constructor <;> omega) ?_
                rw [show ((k : Nat) : Int) + (-1) = ((k - 1 : Nat) : Int) by omega]
                refine w_goto d116_135 ?_
                refine w_less ?_ (IH61 _ (by omega) h131 (k - 1) rfl M131 (by omega) (k3.trans sp) (shP_st (by omega) k1 (fun i => by rw [m131.ai ok115 ⟨by omega, by omega⟩ n78, e115, sArr, hb]) k4) (shP_st (by omega) k1 (fun i => by rw [e131, sArr, he, m115.ai okg2 ⟨by omega, by omega⟩ (Ne.symm n78)]) k5) (fun i hi => ⟨by rw [m131.ai ok115 ⟨by omega, by omega⟩ n78, e115, sArr, if_neg (by omega)]; exact (k8 i (by omega)).1, by rw [e131, sArr, if_neg (by omega), m115.ai okg2 ⟨by omega, by omega⟩ (Ne.symm n78)]; exact (k8 i (by omega)).2⟩) (by rw [m131.rb ok115 K55 (nr _ K55).2, m115.rb okg2 K55 (nr _ K55).1]; exact k6) (by rw [show cap h131 (sT S 1155 w) = cap h115 (sT S 1155 w) from (m131.cp ok115 K55).2 (nr _ K55).2, show cap h115 (sT S 1155 w) = cap g2 (sT S 1155 w) from (m115.cp okg2 K55).2 (nr _ K55).1]; exact k7))
                exact ⟨Or.inr rfl, Or.inr rfl, Or.inr rfl, Or.inr rfl, Or.inr rfl, trivial⟩
          refine w_less ?_ (L61 _ g n rfl Mg (Nat.le_refl _) rfl (fun i => by unfold shP; by_cases q : i = n; rw [if_pos q, q]; rw [if_neg q, if_neg (by omega)]) (fun i => by unfold shP; by_cases q : i = n; rw [if_pos q, q]; rw [if_neg q, if_neg (by omega)]) (fun i hi => ⟨rfl, rfl⟩) i5 i6)
          exact ⟨Or.inr rfl, Or.inr rfl, Or.inr rfl, Or.inr rfl, Or.inr rfl, trivial⟩
    have M0_ := Mo.refl (A := (fun x => x = (sT S 1155 w) ∨ x = (sT S 1157 w) ∨ x = (sT S 1158 w))) ok
    refine w_less ?_ (L29 _ h 0 0 [] rfl M0_ (by omega) ⟨⟨by omega, by omega⟩, rfl⟩ (fun k hk => absurd hk (Nat.not_lt_zero _)) (by rw [List.drop_zero]) rfl rfl)
    exact ⟨Or.inr rfl, Or.inr rfl, Or.inr rfl, Or.inl rfl, Or.inl rfl, trivial⟩
  · have big : 600 < (rl h (sT S 1154 w)).length := by omega
    refine w_aload_n d116_13 rfl ?_
    refine w_dloadS d116_14 (ok.kd hw) (fr1155 ok hw) ?_
    refine w_aload_n d116_17 rfl ?_
    refine w_dloadS d116_18 (ok.kd hw) (fr1154 ok hw) ?_
    refine w_callv2 d116_21 (by omega) rfl (ok.kd (kT1155 ok hw)) (by simp) (Nat.le_of_ble_eq_true rfl) ?_
    refine r_Row_addRow (by omega) ok (kT1155 ok hw) (kT1154 ok hw) njo (fun h21 m21 e21_1 e21_2 => ?_)
    have ok21 := m21.ok
    have M21 := Mo.tr ok (Mo.refl (A := (fun x => x = (sT S 1155 w) ∨ x = (sT S 1157 w) ∨ x = (sT S 1158 w))) ok) m21 (fun x e => (Or.inl e))
    refine w_return d116_24 ?_
    unfold srtT at kk
    rw [if_pos big] at kk
    exact kk h21 M21 e21_1 e21_2
