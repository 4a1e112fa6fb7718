/-! the reference: a release -/
theorem EdR.w {S : Shp} {m : Nat} {h h' : Hp} {rb : Nat → Bool} {ed : Nat → Nat → Nat} {t a b c : Nat} {e' : Nat → Nat} (D : EdR S h m rb ed) (h0 : AI h' (sT S 1676 m) (3 * t) = (a : Nat)) (h1 : AI h' (sT S 1676 m) (3 * t + 1) = (b : Nat)) (h2 : AI h' (sT S 1676 m) (3 * t + 2) = (c : Nat)) (ho : ∀ k, k ≠ 3 * t → k ≠ 3 * t + 1 → k ≠ 3 * t + 2 → AI h' (sT S 1676 m) k = AI h (sT S 1676 m) k) (hr : AI h' (sT S 1674 m) = AI h (sT S 1674 m)) (e0 : e' 0 = a) (e1 : e' 1 = b) (e2 : e' 2 = c) : EdR S h' m rb (upO ed t e') := fun u hu => by
  refine ⟨by rw [hr]; exact (D u hu).1, fun i hi => ?_⟩
  unfold upO
  by_cases q : u = t
  · rw [if_pos q, q]
    rcases i with _ | _ | _ | i
    · rw [e0]; exact h0
    · rw [e1]; exact h1
    · rw [e2]; exact h2
    · omega
  · rw [if_neg q, ho _ (by omega) (by omega) (by omega)]
    exact (D u hu).2 i hi
theorem relU_0 {o n : OutV} (h : o.1 = false) : relU o n = 0 := by unfold relU; rw [if_pos h]
theorem relU_1 {o n : OutV} (h : o.1 = true) (h2 : ¬ ∀ t ∈ lns (oF o), t ∈ lns (oF n)) : relU o n = 0 := by unfold relU; rw [if_neg (by rw [h]; decide), if_pos h2]
theorem relU_2 {o n : OutV} (h : o.1 = true) (h2 : ∀ t ∈ lns (oF o), t ∈ lns (oF n)) (h3 : ¬ ∀ t ∈ lns (oF n), t ∈ lns (oF o)) : relU o n = 1 := by unfold relU; rw [if_neg (by rw [h]; decide), if_neg (fun z => z h2), if_pos h3]
theorem relU_3 {o n : OutV} (h : o.1 = true) (h2 : ∀ t ∈ lns (oF o), t ∈ lns (oF n)) (h3 : ∀ t ∈ lns (oF n), t ∈ lns (oF o)) (h4 : oO n ≠ oO o) : relU o n = 2 := by unfold relU; rw [if_neg (by rw [h]; decide), if_neg (fun z => z h2), if_neg (fun z => z h3), if_pos h4]
theorem relU_4 {o n : OutV} (h : o.1 = true) (h2 : ∀ t ∈ lns (oF o), t ∈ lns (oF n)) (h3 : ∀ t ∈ lns (oF n), t ∈ lns (oF o)) (h4 : oO n = oO o) : relU o n = 3 := by unfold relU; rw [if_neg (by rw [h]; decide), if_neg (fun z => z h2), if_neg (fun z => z h3), if_neg (fun z => z h4)]
theorem d295_0 : dc 295 0 = some (.aload_n 0, 1) := by decide +kernel
theorem d295_1 : dc 295 1 = some (.dload 1667, 4) := by decide +kernel
theorem d295_4 : dc 295 4 = some (.iload_n 1, 5) := by decide +kernel
theorem d295_5 : dc 295 5 = some (.aaload, 6) := by decide +kernel
theorem d295_6 : dc 295 6 = some (.astore_n 2, 7) := by decide +kernel
theorem d295_7 : dc 295 7 = some (.aload_n 0, 8) := by decide +kernel
theorem d295_8 : dc 295 8 = some (.dload 1675, 11) := by decide +kernel
theorem d295_11 : dc 295 11 = some (.iload_n 1, 12) := by decide +kernel
theorem d295_12 : dc 295 12 = some (.aaload, 13) := by decide +kernel
theorem d295_13 : dc 295 13 = some (.astore_n 3, 14) := by decide +kernel
theorem d295_14 : dc 295 14 = some (.iconst 3, 15) := by decide +kernel
theorem d295_15 : dc 295 15 = some (.iload_n 1, 16) := by decide +kernel
theorem d295_16 : dc 295 16 = some (.imul, 17) := by decide +kernel
theorem d295_17 : dc 295 17 = some (.istore 4, 19) := by decide +kernel
theorem d295_19 : dc 295 19 = some (.aload_n 0, 20) := by decide +kernel
theorem d295_20 : dc 295 20 = some (.dload 1674, 23) := by decide +kernel
theorem d295_23 : dc 295 23 = some (.iload_n 1, 24) := by decide +kernel
theorem d295_24 : dc 295 24 = some (.baload, 25) := by decide +kernel
theorem d295_25 : dc 295 25 = some (.ifCond .ne ((59 : Nat) : Int), 28) := by decide +kernel
theorem d295_28 : dc 295 28 = some (.aload_n 0, 29) := by decide +kernel
theorem d295_29 : dc 295 29 = some (.dload 1676, 32) := by decide +kernel
theorem d295_32 : dc 295 32 = some (.iload 4, 34) := by decide +kernel
theorem d295_34 : dc 295 34 = some (.iconst 1, 35) := by decide +kernel
theorem d295_35 : dc 295 35 = some (.iastore, 36) := by decide +kernel
theorem d295_36 : dc 295 36 = some (.aload_n 0, 37) := by decide +kernel
theorem d295_37 : dc 295 37 = some (.dload 1676, 40) := by decide +kernel
theorem d295_40 : dc 295 40 = some (.iload 4, 42) := by decide +kernel
theorem d295_42 : dc 295 42 = some (.iconst 1, 43) := by decide +kernel
theorem d295_43 : dc 295 43 = some (.iadd, 44) := by decide +kernel
theorem d295_44 : dc 295 44 = some (.iconst 0, 45) := by decide +kernel
theorem d295_45 : dc 295 45 = some (.iastore, 46) := by decide +kernel
theorem d295_46 : dc 295 46 = some (.aload_n 0, 47) := by decide +kernel
theorem d295_47 : dc 295 47 = some (.dload 1676, 50) := by decide +kernel
theorem d295_50 : dc 295 50 = some (.iload 4, 52) := by decide +kernel
theorem d295_52 : dc 295 52 = some (.iconst 2, 53) := by decide +kernel
theorem d295_53 : dc 295 53 = some (.iadd, 54) := by decide +kernel
theorem d295_54 : dc 295 54 = some (.iconst 0, 55) := by decide +kernel
theorem d295_55 : dc 295 55 = some (.iastore, 56) := by decide +kernel
theorem d295_56 : dc 295 56 = some (.goto ((182 : Nat) : Int), 59) := by decide +kernel
theorem d295_59 : dc 295 59 = some (.aload_n 3, 60) := by decide +kernel
theorem d295_60 : dc 295 60 = some (.aload_n 2, 61) := by decide +kernel
theorem d295_61 : dc 295 61 = some (.invokevirtual 296, 64) := by decide +kernel
theorem d295_64 : dc 295 64 = some (.ifCond .ne ((101 : Nat) : Int), 67) := by decide +kernel
theorem d295_67 : dc 295 67 = some (.aload_n 0, 68) := by decide +kernel
theorem d295_68 : dc 295 68 = some (.dload 1676, 71) := by decide +kernel
theorem d295_71 : dc 295 71 = some (.iload 4, 73) := by decide +kernel
theorem d295_73 : dc 295 73 = some (.dup2, 74) := by decide +kernel
theorem d295_74 : dc 295 74 = some (.iaload, 75) := by decide +kernel
theorem d295_75 : dc 295 75 = some (.iconst 1, 76) := by decide +kernel
theorem d295_76 : dc 295 76 = some (.iadd, 77) := by decide +kernel
theorem d295_77 : dc 295 77 = some (.iastore, 78) := by decide +kernel
theorem d295_78 : dc 295 78 = some (.aload_n 0, 79) := by decide +kernel
theorem d295_79 : dc 295 79 = some (.dload 1676, 82) := by decide +kernel
theorem d295_82 : dc 295 82 = some (.iload 4, 84) := by decide +kernel
theorem d295_84 : dc 295 84 = some (.iconst 1, 85) := by decide +kernel
theorem d295_85 : dc 295 85 = some (.iadd, 86) := by decide +kernel
theorem d295_86 : dc 295 86 = some (.iconst 0, 87) := by decide +kernel
theorem d295_87 : dc 295 87 = some (.iastore, 88) := by decide +kernel
theorem d295_88 : dc 295 88 = some (.aload_n 0, 89) := by decide +kernel
theorem d295_89 : dc 295 89 = some (.dload 1676, 92) := by decide +kernel
theorem d295_92 : dc 295 92 = some (.iload 4, 94) := by decide +kernel
theorem d295_94 : dc 295 94 = some (.iconst 2, 95) := by decide +kernel
theorem d295_95 : dc 295 95 = some (.iadd, 96) := by decide +kernel
theorem d295_96 : dc 295 96 = some (.iconst 0, 97) := by decide +kernel
theorem d295_97 : dc 295 97 = some (.iastore, 98) := by decide +kernel
theorem d295_98 : dc 295 98 = some (.goto ((182 : Nat) : Int), 101) := by decide +kernel
theorem d295_101 : dc 295 101 = some (.aload_n 2, 102) := by decide +kernel
theorem d295_102 : dc 295 102 = some (.aload_n 3, 103) := by decide +kernel
theorem d295_103 : dc 295 103 = some (.invokevirtual 296, 106) := by decide +kernel
theorem d295_106 : dc 295 106 = some (.ifCond .ne ((135 : Nat) : Int), 109) := by decide +kernel
theorem d295_109 : dc 295 109 = some (.aload_n 0, 110) := by decide +kernel
theorem d295_110 : dc 295 110 = some (.dload 1676, 113) := by decide +kernel
theorem d295_113 : dc 295 113 = some (.iload 4, 115) := by decide +kernel
theorem d295_115 : dc 295 115 = some (.iconst 1, 116) := by decide +kernel
theorem d295_116 : dc 295 116 = some (.iadd, 117) := by decide +kernel
theorem d295_117 : dc 295 117 = some (.dup2, 118) := by decide +kernel
theorem d295_118 : dc 295 118 = some (.iaload, 119) := by decide +kernel
theorem d295_119 : dc 295 119 = some (.iconst 1, 120) := by decide +kernel
theorem d295_120 : dc 295 120 = some (.iadd, 121) := by decide +kernel
theorem d295_121 : dc 295 121 = some (.iastore, 122) := by decide +kernel
theorem d295_122 : dc 295 122 = some (.aload_n 0, 123) := by decide +kernel
theorem d295_123 : dc 295 123 = some (.dload 1676, 126) := by decide +kernel
theorem d295_126 : dc 295 126 = some (.iload 4, 128) := by decide +kernel
theorem d295_128 : dc 295 128 = some (.iconst 2, 129) := by decide +kernel
theorem d295_129 : dc 295 129 = some (.iadd, 130) := by decide +kernel
theorem d295_130 : dc 295 130 = some (.iconst 0, 131) := by decide +kernel
theorem d295_131 : dc 295 131 = some (.iastore, 132) := by decide +kernel
theorem d295_132 : dc 295 132 = some (.goto ((182 : Nat) : Int), 135) := by decide +kernel
theorem d295_135 : dc 295 135 = some (.aload_n 3, 136) := by decide +kernel
theorem d295_136 : dc 295 136 = some (.dload 1536, 139) := by decide +kernel
theorem d295_139 : dc 295 139 = some (.iconst 0, 140) := by decide +kernel
theorem d295_140 : dc 295 140 = some (.aload_n 3, 141) := by decide +kernel
theorem d295_141 : dc 295 141 = some (.getfield 1537, 144) := by decide +kernel
theorem d295_144 : dc 295 144 = some (.aload_n 2, 145) := by decide +kernel
theorem d295_145 : dc 295 145 = some (.dload 1536, 148) := by decide +kernel
theorem d295_148 : dc 295 148 = some (.iconst 0, 149) := by decide +kernel
theorem d295_149 : dc 295 149 = some (.aload_n 2, 150) := by decide +kernel
theorem d295_150 : dc 295 150 = some (.getfield 1537, 153) := by decide +kernel
theorem d295_153 : dc 295 153 = some (.invokevirtual 224, 156) := by decide +kernel
theorem d295_156 : dc 295 156 = some (.ifCond .ne ((175 : Nat) : Int), 159) := by decide +kernel
theorem d295_159 : dc 295 159 = some (.aload_n 0, 160) := by decide +kernel
theorem d295_160 : dc 295 160 = some (.dload 1676, 163) := by decide +kernel
theorem d295_163 : dc 295 163 = some (.iload 4, 165) := by decide +kernel
theorem d295_165 : dc 295 165 = some (.iconst 2, 166) := by decide +kernel
theorem d295_166 : dc 295 166 = some (.iadd, 167) := by decide +kernel
theorem d295_167 : dc 295 167 = some (.dup2, 168) := by decide +kernel
theorem d295_168 : dc 295 168 = some (.iaload, 169) := by decide +kernel
theorem d295_169 : dc 295 169 = some (.iconst 1, 170) := by decide +kernel
theorem d295_170 : dc 295 170 = some (.iadd, 171) := by decide +kernel
theorem d295_171 : dc 295 171 = some (.iastore, 172) := by decide +kernel
theorem d295_172 : dc 295 172 = some (.goto ((182 : Nat) : Int), 175) := by decide +kernel
theorem d295_175 : dc 295 175 = some (.aload_n 0, 176) := by decide +kernel
theorem d295_176 : dc 295 176 = some (.getstatic 59, 179) := by decide +kernel
theorem d295_179 : dc 295 179 = some (.invokevirtual 217, 182) := by decide +kernel
theorem d295_182 : dc 295 182 = some (.aload_n 0, 183) := by decide +kernel
theorem d295_183 : dc 295 183 = some (.dload 1674, 186) := by decide +kernel
theorem d295_186 : dc 295 186 = some (.iload_n 1, 187) := by decide +kernel
theorem d295_187 : dc 295 187 = some (.iconst 1, 188) := by decide +kernel
theorem d295_188 : dc 295 188 = some (.bastore, 189) := by decide +kernel
theorem d295_189 : dc 295 189 = some (.aload_n 3, 190) := by decide +kernel
theorem d295_190 : dc 295 190 = some (.aload_n 2, 191) := by decide +kernel
theorem d295_191 : dc 295 191 = some (.invokevirtual 263, 194) := by decide +kernel
theorem d295_194 : dc 295 194 = some (.aload_n 0, 195) := by decide +kernel
theorem d295_195 : dc 295 195 = some (.iload_n 1, 196) := by decide +kernel
theorem d295_196 : dc 295 196 = some (.invokevirtual 298, 199) := by decide +kernel
theorem d295_199 : dc 295 199 = some (.return_, 200) := by decide +kernel
theorem k_M_releaseTarget {S : Shp} {G : Nat → Option Nat} {d : Nat} {h : Hp} {Q : Option MV → Hp → Prop} {m : Nat} {t : Nat} {la : List Nat} {re : Nat → OutV} {n : OutV} {ed : Nat → Nat → Nat} {bp br : Nat → OmV} (ok : Ok S h) (h1 : 14 ≤ d) (hm : sK S m = 14) (TE : TeR S h m la) (ED : EdR S h m (fun u => (re u).1) ed) (PT : OmA S h m 1667 bp) (RL : OmA S h m 1675 br) (tg : Tg S G) (ht : t < 14) (hpu : (bp t).1 = oO n ∧ (bp t).2.1 = oF n) (hre : (re t).1 = true → (br t).1 = oO (re t) ∧ (br t).2.1 = oF (re t)) (hb : ∀ i, ed t i < 2147483647)
    (kk : ∀ h', Fr S m [1732, 1733, 1674, 1676, 1675] h h' → EdR S h' m (upO (fun u => (re u).1) t true) (upO ed t (relE (re t) n (ed t))) → OmA S h' m 1675 (upO br t (bp t)) → TeR S h' m (addBs 20000 la (relTxt (re t) n (ed t))) → Q none h') : Cl G d 295 [vR (some m), vI (t : Nat)] h Q := by
  show Wp G d 295 0 [some (vR (some m)), some (vI (t : Nat)), none, none, none] [] h Q
  have TE_0 := TE
  have ED_0 := ED
  have PT_0 := PT
  have RL_0 := RL
  have v0 := (ED_0 t ht).2 0 (by decide)
  have v1 := (ED_0 t ht).2 1 (by decide)
  have v2 := (ED_0 t ht).2 2 (by decide)
  rw [Nat.add_zero] at v0
  have b0 := hb 0
  have b1 := hb 1
  have b2 := hb 2
  have ko := (otA ok hm (Or.inl rfl) ht).2.2.1
  have ko2 := (otA ok hm (Or.inr (Or.inl rfl)) ht).2.2.1
  have hbn : ∀ i, i < 3 → (upO ed t (relE (re t) n (ed t))) t i < 10000000000 := fun i _ => by
    unfold upO relE
    rw [if_pos rfl]
    have := hb i
    (repeat' split) <;> omega
  have nUU : ∀ z, U S (sE S (sT S 1667 m) t) z → ¬ U S (sE S (sT S 1675 m) t) z := fun z u v => by
    have a : U S (sT S 1667 m) z := U_trans (ok.so.uE (by omega) U_refl) u
    have b : U S (sT S 1675 m) z := U_trans (ok.so.uE (by omega) U_refl) v
    exact MA.no (F := [1675]) (m := m) ok.so (by decide) (by decide) (by decide) a (Or.inr ⟨1675, by decide, b⟩)
  refine w_aload_n d295_0 rfl ?_
  refine w_dloadS d295_1 (ok.kd hm) (fr1667 ok hm) ?_
  refine w_iload_n d295_4 rfl ?_
  refine w_aaloadSN d295_5 (otA ok hm (Or.inl rfl) ht).1 (otA ok hm (Or.inl rfl) ht).2.1 ?_
  refine w_astore2 d295_6 rfl ?_
  refine w_aload_n d295_7 rfl ?_
  refine w_dloadS d295_8 (ok.kd hm) (fr1675 ok hm) ?_
  refine w_iload_n d295_11 rfl ?_
  refine w_aaloadSN d295_12 (otA ok hm (Or.inr (Or.inl rfl)) ht).1 (otA ok hm (Or.inr (Or.inl rfl)) ht).2.1 ?_
  refine w_astore3 d295_13 rfl ?_
  refine w_iconst d295_14 (by decide) ?_
  refine w_iload_n d295_15 rfl ?_
  refine w_imul d295_16 (by constructor <;> omega) ?_
  rw [show (3 : Int) * ((t : Nat) : Int) = ((3 * t : Nat) : Int) by omega]
  refine w_istore4 d295_17 rfl ?_
  refine w_aload_n d295_19 rfl ?_
  refine w_dloadS d295_20 (ok.kd hm) (fr1674 ok hm) ?_
  refine w_iload_n d295_23 rfl ?_
  refine w_baloadV (x := (b2i (re t).1)) d295_24 (gi1674 ok hm (by omega)) (ED t ht).1 ?_
  have L182 : ∀ (m182 : Nat) (g182 : Hp) (lb : List Nat), 0 = m182 → Fr S m [1732, 1733, 1674, 1676, 1675] h g182 → (TeR S g182 m lb) → (EdR S g182 m (fun u => (re u).1) (upO ed t (relE (re t) n (ed t)))) → (lb = addBs 20000 la (if relU (re t) n = 3 then txt 9 else [])) → (OmA S g182 m 1675 br) → Wp G d 295 182 [some (vR (some m)), some (vI (t : Nat)), some (vR (some (sE S (sT S 1667 m) t))), some (vR (some (sE S (sT S 1675 m) t))), some (vI (3 * t : Nat))] [] g182 Q := by
    intro m182
    induction m182 using Nat.strongRecOn with | ind m182 IH182 => ?_
    intro g182 lb hm182 FRg182 TE ED hlb RL
    have okg182 := FRg182.ok
    have PT := PT_0.r FRg182 hm
    refine w_aload_n d295_182 rfl ?_
    refine w_dloadS d295_183 (okg182.kd hm) (fr1674 okg182 hm) ?_
    refine w_iload_n d295_186 rfl ?_
    refine w_iconst d295_187 (by decide) ?_
    have ED_g := ED
    refine wa1674 d295_188 okg182 hm (by omega) (by omega) (fun h188 e188 m188 => ?_)
    have e188 : h188 = sAI g182 (sT S 1674 m) t 1 := e188
    have f188 : Fr S m [1674] _ _ := Fr.wB okg182 hm m188 (fun ζ e => ⟨1674, by decide, by decide, e ▸ U_refl⟩)
    have ok188 := f188.ok
    have FR188 := Fr.tr (F := [1732, 1733, 1674, 1676, 1675]) FRg182 f188 (by decide) (by decide)
    have RL := RL.r f188 hm
    have PT := PT.r f188 hm
    have TE := TE.r f188 hm
    have ED : EdR S h188 m (upO (fun u => (re u).1) t true) (upO ed t (relE (re t) n (ed t))) := fun u hu => by
      refine ⟨?_, fun i hi => ?_⟩
      · rw [e188, sArr]; unfold upO; by_cases q : u = t; rw [if_pos q, if_pos q]; rfl; rw [if_neg q, if_neg q]; exact (ED_g u hu).1
      · rw [f188.ai (by have := kT1676 ok hm; omega) (by decide) (by decide) (by decide)]; exact (ED_g u hu).2 i hi
    refine w_aload_n d295_189 rfl ?_
    refine w_aload_n d295_190 rfl ?_
    have RL_p := RL
    refine w_callv2 d295_191 (by omega) rfl (ok188.kd (otA ok hm (Or.inr (Or.inl rfl)) ht).2.2.1) (by simp) (Nat.le_of_ble_eq_true rfl) ?_
    refine k_O_copy ok188 (by omega) ((otA ok hm (Or.inr (Or.inl rfl)) ht).2.2.1) ((otA ok hm (Or.inl rfl) ht).2.2.1) (PT t ht) nUU (fun h191 m191 OC_191 => ?_)
    have f191 : Fr S m [1675] _ _ := Fr.wB ok188 hm m191 (fun ζ u => ⟨1675, by decide, by decide, U_trans (ok.so.uE (by omega) U_refl) u⟩)
    have ok191 := f191.ok
    have FR191 := Fr.tr (F := [1732, 1733, 1674, 1676, 1675]) FR188 f191 (by decide) (by decide)
    have PT := PT.r f191 hm
    have TE := TE.r f191 hm
    have ED := ED.r f191 hm
    have RL2 : OmA S h191 m 1675 (upO br t (bp t)) := fun j hj => by
      unfold upO
      by_cases q : j = t
      · rw [if_pos q, q]; exact OC_191
      · rw [if_neg q]
        exact (RL_p j hj).u ok188 m191 (otA ok hm (Or.inr (Or.inl rfl)) hj).2.2.1 (fun y u v => by
          rcases U_tree u v with z | z
          · rcases (ok.so.U_E (by omega)).mp z with z | z
            · exact q ((ok.so.injE (by omega) (by omega)).mp z).2
            · have := ok.so.uLe z
              have := ok.so.ltE (b := sT S 1675 m) (j := j) (by omega)
              omega
          · rcases (ok.so.U_E (by omega)).mp z with z | z
            · exact q ((ok.so.injE (by omega) (by omega)).mp z).2.symm
            · have := ok.so.uLe z
              have := ok.so.ltE (b := sT S 1675 m) (j := t) (by omega)
              omega)
    refine w_aload_n d295_194 rfl ?_
    refine w_iload_n d295_195 rfl ?_
    refine w_callv2 d295_196 (by omega) rfl (ok191.kd hm) (by simp) (Nat.le_of_ble_eq_true rfl) ?_
    refine k_M_sayEdition ok191 (by omega) hm TE ED ht hbn (fun h196 f196 TE => ?_)
    have ok196 := f196.ok
    have FR196 := Fr.tr (F := [1732, 1733, 1674, 1676, 1675]) FR191 f196 (by decide) (by decide)
    have PT := PT.r f196 hm
    have ED := ED.r f196 hm
    have RL2 := RL2.r f196 hm
    refine w_return d295_199 ?_
    have u1 : (upO ed t (relE (re t) n (ed t))) t = (relE (re t) n (ed t)) := by unfold upO; rw [if_pos rfl]
    rw [hlb, ← addBs_app, u1] at TE
    refine kk h196 FR196 ED RL2 TE
  refine w_ifne d295_25 (fun c25 => ?_) (fun c25 => ?_)
  · have rt : (re t).1 = true := by
      cases hz : (re t).1 with
      | true => rfl
      | false => rw [hz] at c25; exact absurd rfl c25
    obtain ⟨w1, w2⟩ := hre rt
    refine w_aload_n d295_59 rfl ?_
    refine w_aload_n d295_60 rfl ?_
    refine w_calls2 d295_61 (by omega) rfl rfl (by simp) (Nat.le_of_ble_eq_true rfl) ?_
    refine k_M_hasAll (x := br t) (z := bp t) ok (by omega) ((otA ok hm (Or.inr (Or.inl rfl)) ht).2.2.1) ((otA ok hm (Or.inl rfl) ht).2.2.1) (RL t ht) (PT t ht) ?_
    refine w_ifne d295_64 (fun c64 => ?_) (fun c64 => ?_)
    · have q1 : ∀ t_ ∈ lns (br t).2.1, t_ ∈ lns (bp t).2.1 := by
        by_cases z : ∀ t_ ∈ lns (br t).2.1, t_ ∈ lns (bp t).2.1
        · exact z
        · rw [decide_eq_false z] at c64; exact absurd rfl c64
      have q1 : ∀ t_ ∈ lns (oF (re t)), t_ ∈ lns (oF n) := by rw [← w2, ← hpu.2]; exact q1
      refine w_aload_n d295_101 rfl ?_
      refine w_aload_n d295_102 rfl ?_
      refine w_calls2 d295_103 (by omega) rfl rfl (by simp) (Nat.le_of_ble_eq_true rfl) ?_
      refine k_M_hasAll (x := bp t) (z := br t) ok (by omega) ((otA ok hm (Or.inl rfl) ht).2.2.1) ((otA ok hm (Or.inr (Or.inl rfl)) ht).2.2.1) (PT t ht) (RL t ht) ?_
      refine w_ifne d295_106 (fun c106 => ?_) (fun c106 => ?_)
      · have q2 : ∀ t_ ∈ lns (bp t).2.1, t_ ∈ lns (br t).2.1 := by
          by_cases z : ∀ t_ ∈ lns (bp t).2.1, t_ ∈ lns (br t).2.1
          · exact z
          · rw [decide_eq_false z] at c106; exact absurd rfl c106
        have q2 : ∀ t_ ∈ lns (oF n), t_ ∈ lns (oF (re t)) := by rw [← w2, ← hpu.2]; exact q2
        refine w_aload_n d295_135 rfl ?_
        refine w_dloadS d295_136 (ok.kd (otA ok hm (Or.inr (Or.inl rfl)) ht).2.2.1) (fr1536 ok (otA ok hm (Or.inr (Or.inl rfl)) ht).2.2.1) ?_
        refine w_iconst d295_139 (by decide) ?_
        refine w_aload_n d295_140 rfl ?_
        refine w_getI (x := (((br t).1.length : Nat) : Int)) d295_141 (ok.kd (otA ok hm (Or.inr (Or.inl rfl)) ht).2.2.1) (RL t ht).1 ?_
        refine w_aload_n d295_144 rfl ?_
        refine w_dloadS d295_145 (ok.kd (otA ok hm (Or.inl rfl) ht).2.2.1) (fr1536 ok (otA ok hm (Or.inl rfl) ht).2.2.1) ?_
        refine w_iconst d295_148 (by decide) ?_
        refine w_aload_n d295_149 rfl ?_
        refine w_getI (x := (((bp t).1.length : Nat) : Int)) d295_150 (ok.kd (otA ok hm (Or.inl rfl) ht).2.2.1) (PT t ht).1 ?_
        refine w_calls6 d295_153 (by omega) rfl rfl (by simp) (Nat.le_of_ble_eq_true rfl) ?_
        refine k_D_isSame (f := 0) (q := 0) ok (by omega) rfl rfl (RL t ht).2.2.2.1 (PT t ht).2.2.2.1 ?_
        refine w_ifne d295_156 (fun c156 => ?_) (fun c156 => ?_)
        · have q3 : (br t).1 = (bp t).1 := by
            by_cases z : (br t).1 = (bp t).1
            · exact z
            · rw [decide_eq_false z] at c156; exact absurd rfl c156
          have hU := relU_4 (n := n) rt q1 q2 (by rw [← w1, ← hpu.1]; exact q3.symm)
          refine w_aload_n d295_175 rfl ?_
          obtain ⟨g176, v176, s176⟩ := tg.al ok 9 (by decide)
          refine w_getstaticS d295_176 v176 ?_
          refine w_callv2 d295_179 (by omega) rfl (ok.kd hm) (by simp) (Nat.le_of_ble_eq_true rfl) ?_
          refine k_M_say ok (by omega) hm TE s176 (fun h179 m179 q179 TE => ?_)
          have f179 : Fr S m [1732, 1733] _ _ := Fr.mk ok m179 (fun ζ q => q.elim ((fun ζ e => Or.inl e) ζ) ((fun ζ e => Or.inr ⟨1732, by decide, e ▸ U_refl⟩) ζ)) q179 (by decide)
          have ok179 := f179.ok
          have FR179 := Fr.le (F := [1732, 1733, 1674, 1676, 1675]) f179 (by decide)
          have ED := ED.r f179 hm
          have PT := PT.r f179 hm
          have RL := RL.r f179 hm
          have E2 : EdR S h179 m (fun u => (re u).1) (upO ed t (relE (re t) n (ed t))) := ED.w (a := ed t 0) (b := ed t 1) (c := ed t 2) (by have := (ED t ht).2 0 (by decide); rwa [Nat.add_zero] at this) ((ED t ht).2 1 (by decide)) ((ED t ht).2 2 (by decide)) (fun _ _ _ _ => rfl) rfl (by unfold relE; rw [hU]; simp [rt]) (by unfold relE; rw [hU]; simp [rt]) (by unfold relE; rw [hU]; simp [rt])
          refine w_less ?_ (L182 _ h179 _ rfl FR179 TE E2 (by rw [hU]; rfl) RL)
          exact ⟨Or.inr rfl, Or.inr rfl, Or.inr rfl, Or.inr rfl, Or.inr rfl, trivial⟩
        · have q3 : ¬ ((br t).1 = (bp t).1) := fun z => by rw [decide_eq_true z] at c156; exact absurd c156 (by decide)
          have hU := relU_3 (n := n) rt q1 q2 (by rw [← w1, ← hpu.1]; exact fun z => q3 z.symm)
          refine w_aload_n d295_159 rfl ?_
          refine w_dloadS d295_160 (ok.kd hm) (fr1676 ok hm) ?_
          refine w_iload d295_163 rfl ?_
          refine w_iconst d295_165 (by decide) ?_
          refine w_iadd d295_166 (by constructor <;> omega) ?_
          rw [show ((3 * t : Nat) : Int) + 2 = ((3 * t + 2 : Nat) : Int) by omega]
          refine w_dup2 d295_167 ?_
          refine w_ialoadV (x := ((ed t 2 : Nat) : Int)) d295_168 (gi1676 ok hm (by omega)) v2 ?_
          refine w_iconst d295_169 (by decide) ?_
          refine w_iadd d295_170 (by constructor <;> omega) ?_
          refine wa1676 d295_171 ok hm (by omega) (by omega) (fun h171 e171 m171 => ?_)
          have e171 : h171 = sAI h (sT S 1676 m) (3 * t + 2) (((ed t 2 : Nat) : Int) + 1) := e171
          have f171 : Fr S m [1676] _ _ := Fr.wB ok hm m171 (fun ζ e => ⟨1676, by decide, by decide, e ▸ U_refl⟩)
          have ok171 := f171.ok
          have FR171 := Fr.le (F := [1732, 1733, 1674, 1676, 1675]) f171 (by decide)
          have TE := TE.r f171 hm
          have PT := PT.r f171 hm
          have RL := RL.r f171 hm
          refine w_goto d295_172 ?_
          have E2 : EdR S h171 m (fun u => (re u).1) (upO ed t (relE (re t) n (ed t))) := ED_0.w (a := ed t 0) (b := ed t 1) (c := ed t 2 + 1) (by simp only [e171, sArr]; (repeat' split) <;> first | omega | (exfalso; simp_all)) (by simp only [e171, sArr]; (repeat' split) <;> first | omega | (exfalso; simp_all)) (by simp only [e171, sArr]; (repeat' split) <;> first | omega | (exfalso; simp_all)) (fun k k0 k1 k2 => by simp only [e171, sArr]; (repeat' split) <;> first | omega | (exfalso; simp_all)) (by rw [f171.ai (by have := kT1674 ok hm; omega) (by decide) (by decide) (by decide)]) (by unfold relE; rw [hU]; simp [rt]) (by unfold relE; rw [hU]; simp [rt]) (by unfold relE; rw [hU]; simp [rt])
          refine w_less ?_ (L182 _ h171 la rfl FR171 TE E2 (by rw [hU]; rfl) RL)
          exact ⟨Or.inr rfl, Or.inr rfl, Or.inr rfl, Or.inr rfl, Or.inr rfl, trivial⟩
      · have q2 : ¬ (∀ t_ ∈ lns (bp t).2.1, t_ ∈ lns (br t).2.1) := fun z => by rw [decide_eq_true z] at c106; exact absurd c106 (by decide)
        have hU := relU_2 (n := n) rt q1 (by rw [← w2, ← hpu.2]; exact q2)
        refine w_aload_n d295_109 rfl ?_
        refine w_dloadS d295_110 (ok.kd hm) (fr1676 ok hm) ?_
        refine w_iload d295_113 rfl ?_
        refine w_iconst d295_115 (by decide) ?_
        refine w_iadd d295_116 (by constructor <;> omega) ?_
        rw [show ((3 * t : Nat) : Int) + 1 = ((3 * t + 1 : Nat) : Int) by omega]
        refine w_dup2 d295_117 ?_
        refine w_ialoadV (x := ((ed t 1 : Nat) : Int)) d295_118 (gi1676 ok hm (by omega)) v1 ?_
        refine w_iconst d295_119 (by decide) ?_
        refine w_iadd d295_120 (by constructor <;> omega) ?_
        refine wa1676 d295_121 ok hm (by omega) (by omega) (fun h121 e121 m121 => ?_)
        have e121 : h121 = sAI h (sT S 1676 m) (3 * t + 1) (((ed t 1 : Nat) : Int) + 1) := e121
        have f121 : Fr S m [1676] _ _ := Fr.wB ok hm m121 (fun ζ e => ⟨1676, by decide, by decide, e ▸ U_refl⟩)
        have ok121 := f121.ok
        have FR121 := Fr.le (F := [1732, 1733, 1674, 1676, 1675]) f121 (by decide)
        have TE := TE.r f121 hm
        have PT := PT.r f121 hm
        have RL := RL.r f121 hm
        refine w_aload_n d295_122 rfl ?_
        refine w_dloadS d295_123 (ok121.kd hm) (fr1676 ok121 hm) ?_
        refine w_iload d295_126 rfl ?_
        refine w_iconst d295_128 (by decide) ?_
        refine w_iadd d295_129 (by constructor <;> omega) ?_
        rw [show ((3 * t : Nat) : Int) + 2 = ((3 * t + 2 : Nat) : Int) by omega]
        refine w_iconst d295_130 (by decide) ?_
        refine wa1676 d295_131 ok121 hm (by omega) (by omega) (fun h131 e131 m131 => ?_)
        have e131 : h131 = sAI h121 (sT S 1676 m) (3 * t + 2) 0 := e131
        have f131 : Fr S m [1676] _ _ := Fr.wB ok121 hm m131 (fun ζ e => ⟨1676, by decide, by decide, e ▸ U_refl⟩)
        have ok131 := f131.ok
        have FR131 := Fr.tr (F := [1732, 1733, 1674, 1676, 1675]) FR121 f131 (by decide) (by decide)
        have TE := TE.r f131 hm
        have PT := PT.r f131 hm
        have RL := RL.r f131 hm
        refine w_goto d295_132 ?_
        have E2 : EdR S h131 m (fun u => (re u).1) (upO ed t (relE (re t) n (ed t))) := ED_0.w (a := ed t 0) (b := ed t 1 + 1) (c := 0) (by simp only [e131, e121, sArr]; (repeat' split) <;> first | omega | (exfalso; simp_all)) (by simp only [e131, e121, sArr]; (repeat' split) <;> first | omega | (exfalso; simp_all)) (by simp only [e131, e121, sArr]; (repeat' split) <;> first | omega | (exfalso; simp_all)) (fun k k0 k1 k2 => by simp only [e131, e121, sArr]; (repeat' split) <;> first | omega | (exfalso; simp_all)) (by rw [f131.ai (by have := kT1674 ok hm; omega) (by decide) (by decide) (by decide), f121.ai (by have := kT1674 ok hm; omega) (by decide) (by decide) (by decide)]) (by unfold relE; rw [hU]; simp [rt]) (by unfold relE; rw [hU]; simp [rt]) (by unfold relE; rw [hU]; simp [rt])
        refine w_less ?_ (L182 _ h131 la rfl FR131 TE E2 (by rw [hU]; rfl) RL)
        exact ⟨Or.inr rfl, Or.inr rfl, Or.inr rfl, Or.inr rfl, Or.inr rfl, trivial⟩
    · have q1 : ¬ (∀ t_ ∈ lns (br t).2.1, t_ ∈ lns (bp t).2.1) := fun z => by rw [decide_eq_true z] at c64; exact absurd c64 (by decide)
      have hU := relU_1 (n := n) rt (by rw [← w2, ← hpu.2]; exact q1)
      refine w_aload_n d295_67 rfl ?_
      refine w_dloadS d295_68 (ok.kd hm) (fr1676 ok hm) ?_
      refine w_iload d295_71 rfl ?_
      refine w_dup2 d295_73 ?_
      refine w_ialoadV (x := ((ed t 0 : Nat) : Int)) d295_74 (gi1676 ok hm (by omega)) v0 ?_
      refine w_iconst d295_75 (by decide) ?_
      refine w_iadd d295_76 (by constructor <;> omega) ?_
      refine wa1676 d295_77 ok hm (by omega) (by omega) (fun h77 e77 m77 => ?_)
      have e77 : h77 = sAI h (sT S 1676 m) (3 * t) (((ed t 0 : Nat) : Int) + 1) := e77
      have f77 : Fr S m [1676] _ _ := Fr.wB ok hm m77 (fun ζ e => ⟨1676, by decide, by decide, e ▸ U_refl⟩)
      have ok77 := f77.ok
      have FR77 := Fr.le (F := [1732, 1733, 1674, 1676, 1675]) f77 (by decide)
      have TE := TE.r f77 hm
      have PT := PT.r f77 hm
      have RL := RL.r f77 hm
      refine w_aload_n d295_78 rfl ?_
      refine w_dloadS d295_79 (ok77.kd hm) (fr1676 ok77 hm) ?_
      refine w_iload d295_82 rfl ?_
      refine w_iconst d295_84 (by decide) ?_
      refine w_iadd d295_85 (by constructor <;> omega) ?_
      rw [show ((3 * t : Nat) : Int) + 1 = ((3 * t + 1 : Nat) : Int) by omega]
      refine w_iconst d295_86 (by decide) ?_
      refine wa1676 d295_87 ok77 hm (by omega) (by omega) (fun h87 e87 m87 => ?_)
      have e87 : h87 = sAI h77 (sT S 1676 m) (3 * t + 1) 0 := e87
      have f87 : Fr S m [1676] _ _ := Fr.wB ok77 hm m87 (fun ζ e => ⟨1676, by decide, by decide, e ▸ U_refl⟩)
      have ok87 := f87.ok
      have FR87 := Fr.tr (F := [1732, 1733, 1674, 1676, 1675]) FR77 f87 (by decide) (by decide)
      have TE := TE.r f87 hm
      have PT := PT.r f87 hm
      have RL := RL.r f87 hm
      refine w_aload_n d295_88 rfl ?_
      refine w_dloadS d295_89 (ok87.kd hm) (fr1676 ok87 hm) ?_
      refine w_iload d295_92 rfl ?_
      refine w_iconst d295_94 (by decide) ?_
      refine w_iadd d295_95 (by constructor <;> omega) ?_
      rw [show ((3 * t : Nat) : Int) + 2 = ((3 * t + 2 : Nat) : Int) by omega]
      refine w_iconst d295_96 (by decide) ?_
      refine wa1676 d295_97 ok87 hm (by omega) (by omega) (fun h97 e97 m97 => ?_)
      have e97 : h97 = sAI h87 (sT S 1676 m) (3 * t + 2) 0 := e97
      have f97 : Fr S m [1676] _ _ := Fr.wB ok87 hm m97 (fun ζ e => ⟨1676, by decide, by decide, e ▸ U_refl⟩)
      have ok97 := f97.ok
      have FR97 := Fr.tr (F := [1732, 1733, 1674, 1676, 1675]) FR87 f97 (by decide) (by decide)
      have TE := TE.r f97 hm
      have PT := PT.r f97 hm
      have RL := RL.r f97 hm
      refine w_goto d295_98 ?_
      have E2 : EdR S h97 m (fun u => (re u).1) (upO ed t (relE (re t) n (ed t))) := ED_0.w (a := ed t 0 + 1) (b := 0) (c := 0) (by simp only [e97, e87, e77, sArr]; (repeat' split) <;> first | omega | (exfalso; simp_all)) (by simp only [e97, e87, e77, sArr]; (repeat' split) <;> first | omega | (exfalso; simp_all)) (by simp only [e97, e87, e77, sArr]; (repeat' split) <;> first | omega | (exfalso; simp_all)) (fun k k0 k1 k2 => by simp only [e97, e87, e77, sArr]; (repeat' split) <;> first | omega | (exfalso; simp_all)) (by rw [f97.ai (by have := kT1674 ok hm; omega) (by decide) (by decide) (by decide), f87.ai (by have := kT1674 ok hm; omega) (by decide) (by decide) (by decide), f77.ai (by have := kT1674 ok hm; omega) (by decide) (by decide) (by decide)]) (by unfold relE; rw [hU]; simp [rt]) (by unfold relE; rw [hU]; simp [rt]) (by unfold relE; rw [hU]; simp [rt])
      refine w_less ?_ (L182 _ h97 la rfl FR97 TE E2 (by rw [hU]; rfl) RL)
      exact ⟨Or.inr rfl, Or.inr rfl, Or.inr rfl, Or.inr rfl, Or.inr rfl, trivial⟩
  · have rt : (re t).1 = false := by
      cases hz : (re t).1 with
      | true => rw [hz] at c25; exact absurd c25 (by decide)
      | false => rfl
    have hU := relU_0 (n := n) rt
    refine w_aload_n d295_28 rfl ?_
    refine w_dloadS d295_29 (ok.kd hm) (fr1676 ok hm) ?_
    refine w_iload d295_32 rfl ?_
    refine w_iconst d295_34 (by decide) ?_
    refine wa1676 d295_35 ok hm (by omega) (by omega) (fun h35 e35 m35 => ?_)
    have e35 : h35 = sAI h (sT S 1676 m) (3 * t) 1 := e35
    have f35 : Fr S m [1676] _ _ := Fr.wB ok hm m35 (fun ζ e => ⟨1676, by decide, by decide, e ▸ U_refl⟩)
    have ok35 := f35.ok
    have FR35 := Fr.le (F := [1732, 1733, 1674, 1676, 1675]) f35 (by decide)
    have TE := TE.r f35 hm
    have PT := PT.r f35 hm
    have RL := RL.r f35 hm
    refine w_aload_n d295_36 rfl ?_
    refine w_dloadS d295_37 (ok35.kd hm) (fr1676 ok35 hm) ?_
    refine w_iload d295_40 rfl ?_
    refine w_iconst d295_42 (by decide) ?_
    refine w_iadd d295_43 (by constructor <;> omega) ?_
    rw [show ((3 * t : Nat) : Int) + 1 = ((3 * t + 1 : Nat) : Int) by omega]
    refine w_iconst d295_44 (by decide) ?_
    refine wa1676 d295_45 ok35 hm (by omega) (by omega) (fun h45 e45 m45 => ?_)
    have e45 : h45 = sAI h35 (sT S 1676 m) (3 * t + 1) 0 := e45
    have f45 : Fr S m [1676] _ _ := Fr.wB ok35 hm m45 (fun ζ e => ⟨1676, by decide, by decide, e ▸ U_refl⟩)
    have ok45 := f45.ok
    have FR45 := Fr.tr (F := [1732, 1733, 1674, 1676, 1675]) FR35 f45 (by decide) (by decide)
    have TE := TE.r f45 hm
    have PT := PT.r f45 hm
    have RL := RL.r f45 hm
    refine w_aload_n d295_46 rfl ?_
    refine w_dloadS d295_47 (ok45.kd hm) (fr1676 ok45 hm) ?_
    refine w_iload d295_50 rfl ?_
    refine w_iconst d295_52 (by decide) ?_
    refine w_iadd d295_53 (by constructor <;> omega) ?_
    rw [show ((3 * t : Nat) : Int) + 2 = ((3 * t + 2 : Nat) : Int) by omega]
    refine w_iconst d295_54 (by decide) ?_
    refine wa1676 d295_55 ok45 hm (by omega) (by omega) (fun h55 e55 m55 => ?_)
    have e55 : h55 = sAI h45 (sT S 1676 m) (3 * t + 2) 0 := e55
    have f55 : Fr S m [1676] _ _ := Fr.wB ok45 hm m55 (fun ζ e => ⟨1676, by decide, by decide, e ▸ U_refl⟩)
    have ok55 := f55.ok
    have FR55 := Fr.tr (F := [1732, 1733, 1674, 1676, 1675]) FR45 f55 (by decide) (by decide)
    have TE := TE.r f55 hm
    have PT := PT.r f55 hm
    have RL := RL.r f55 hm
    refine w_goto d295_56 ?_
    have E2 : EdR S h55 m (fun u => (re u).1) (upO ed t (relE (re t) n (ed t))) := ED_0.w (a := 1) (b := 0) (c := 0) (by simp only [e55, e45, e35, sArr]; (repeat' split) <;> first | omega | (exfalso; simp_all)) (by simp only [e55, e45, e35, sArr]; (repeat' split) <;> first | omega | (exfalso; simp_all)) (by simp only [e55, e45, e35, sArr]; (repeat' split) <;> first | omega | (exfalso; simp_all)) (fun k k0 k1 k2 => by simp only [e55, e45, e35, sArr]; (repeat' split) <;> first | omega | (exfalso; simp_all)) (by rw [f55.ai (by have := kT1674 ok hm; omega) (by decide) (by decide) (by decide), f45.ai (by have := kT1674 ok hm; omega) (by decide) (by decide) (by decide), f35.ai (by have := kT1674 ok hm; omega) (by decide) (by decide) (by decide)]) (by unfold relE; rw [hU]; simp [rt]) (by unfold relE; rw [hU]; simp [rt]) (by unfold relE; rw [hU]; simp [rt])
    refine w_less ?_ (L182 _ h55 la rfl FR55 TE E2 (by rw [hU]; rfl) RL)
    exact ⟨Or.inr rfl, Or.inr rfl, Or.inr rfl, Or.inr rfl, Or.inr rfl, trivial⟩
