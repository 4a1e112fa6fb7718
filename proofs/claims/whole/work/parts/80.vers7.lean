/-! versions: the search -/
theorem fs_a {rs : List RuV} {vl be : Nat → Int} {fw th : Int} {de : Nat} {mo : Bool} (R : fsR rs (vl, be, fw, de, th, mo) = true) (h : de < 5) : fsS rs (vl, be, fw, de, th, mo) = (up vl de 3, be, fw, de + 1, th + 1, mo) := by
  unfold fsS; rw [if_pos ⟨R, h⟩]
theorem fs_b {rs : List RuV} {vl be vm : Nat → Int} {fw th fx : Int} {de n : Nat} {mo : Bool} (h : ¬ (fsR rs (vl, be, fw, de, th, mo) = true ∧ de < 5)) (gb : bk 0 vl de = (vm, n)) (hf : fx = if fsR rs (vl, be, fw, de, th, mo) = true then th else fw) (n0 : n = 0) : fsS rs (vl, be, fw, de, th, mo) = (vm, if fsR rs (vl, be, fw, de, th, mo) = true then vl else be, fx, n, th, false) := by
  unfold fsS; rw [if_neg h]; simp [gb, n0, hf]
theorem fs_c {rs : List RuV} {vl be vm : Nat → Int} {fw th fx : Int} {de n : Nat} {mo : Bool} (h : ¬ (fsR rs (vl, be, fw, de, th, mo) = true ∧ de < 5)) (gb : bk 0 vl de = (vm, n)) (hf : fx = if fsR rs (vl, be, fw, de, th, mo) = true then th else fw) (n0 : n ≠ 0) (hx : vm (n - 1) - 1 ≠ 0) : fsS rs (vl, be, fw, de, th, mo) = (up vm (n - 1) (vm (n - 1) - 1), if fsR rs (vl, be, fw, de, th, mo) = true then vl else be, fx, n, th - 0, true) := by
  unfold fsS; rw [if_neg h]; simp [gb, n0, hf, hx]
theorem fs_d {rs : List RuV} {vl be vm : Nat → Int} {fw th fx : Int} {de n : Nat} {mo : Bool} (h : ¬ (fsR rs (vl, be, fw, de, th, mo) = true ∧ de < 5)) (gb : bk 0 vl de = (vm, n)) (hf : fx = if fsR rs (vl, be, fw, de, th, mo) = true then th else fw) (n0 : n ≠ 0) (hx : vm (n - 1) - 1 = 0) : fsS rs (vl, be, fw, de, th, mo) = (up vm (n - 1) (vm (n - 1) - 1), if fsR rs (vl, be, fw, de, th, mo) = true then vl else be, fx, n, th - 1, true) := by
  unfold fsS; rw [if_neg h]; simp [gb, n0, hf, hx]
theorem d160_0 : dc 160 0 = some (.aload_n 0, 1) := by decide +kernel
theorem d160_1 : dc 160 1 = some (.dload 1030, 4) := by decide +kernel
theorem d160_4 : dc 160 4 = some (.iconst (-1), 5) := by decide +kernel
theorem d160_5 : dc 160 5 = some (.invokevirtual 58, 8) := by decide +kernel
theorem d160_8 : dc 160 8 = some (.bipush 6, 10) := by decide +kernel
theorem d160_10 : dc 160 10 = some (.istore_n 1, 11) := by decide +kernel
theorem d160_11 : dc 160 11 = some (.iconst 0, 12) := by decide +kernel
theorem d160_12 : dc 160 12 = some (.istore_n 2, 13) := by decide +kernel
theorem d160_13 : dc 160 13 = some (.iconst 0, 14) := by decide +kernel
theorem d160_14 : dc 160 14 = some (.istore_n 3, 15) := by decide +kernel
theorem d160_15 : dc 160 15 = some (.iconst 1, 16) := by decide +kernel
theorem d160_16 : dc 160 16 = some (.istore 4, 18) := by decide +kernel
theorem d160_18 : dc 160 18 = some (.iconst 0, 19) := by decide +kernel
theorem d160_19 : dc 160 19 = some (.istore 5, 21) := by decide +kernel
theorem d160_21 : dc 160 21 = some (.iload 4, 23) := by decide +kernel
theorem d160_23 : dc 160 23 = some (.ifCond .eq ((181 : Nat) : Int), 26) := by decide +kernel
theorem d160_26 : dc 160 26 = some (.iload 5, 28) := by decide +kernel
theorem d160_28 : dc 160 28 = some (.sipush 1365, 31) := by decide +kernel
theorem d160_31 : dc 160 31 = some (.if_icmp .ge ((181 : Nat) : Int), 34) := by decide +kernel
theorem d160_34 : dc 160 34 = some (.iload_n 3, 35) := by decide +kernel
theorem d160_35 : dc 160 35 = some (.iload_n 1, 36) := by decide +kernel
theorem d160_36 : dc 160 36 = some (.if_icmp .ge ((50 : Nat) : Int), 39) := by decide +kernel
theorem d160_39 : dc 160 39 = some (.aload_n 0, 40) := by decide +kernel
theorem d160_40 : dc 160 40 = some (.invokevirtual 161, 43) := by decide +kernel
theorem d160_43 : dc 160 43 = some (.ifCond .ge ((50 : Nat) : Int), 46) := by decide +kernel
theorem d160_46 : dc 160 46 = some (.iconst 1, 47) := by decide +kernel
theorem d160_47 : dc 160 47 = some (.goto ((51 : Nat) : Int), 50) := by decide +kernel
theorem d160_50 : dc 160 50 = some (.iconst 0, 51) := by decide +kernel
theorem d160_51 : dc 160 51 = some (.istore 6, 53) := by decide +kernel
theorem d160_53 : dc 160 53 = some (.iload 6, 55) := by decide +kernel
theorem d160_55 : dc 160 55 = some (.ifCond .eq ((79 : Nat) : Int), 58) := by decide +kernel
theorem d160_58 : dc 160 58 = some (.iload_n 2, 59) := by decide +kernel
theorem d160_59 : dc 160 59 = some (.iconst 5, 60) := by decide +kernel
theorem d160_60 : dc 160 60 = some (.if_icmp .ge ((79 : Nat) : Int), 63) := by decide +kernel
theorem d160_63 : dc 160 63 = some (.aload_n 0, 64) := by decide +kernel
theorem d160_64 : dc 160 64 = some (.dload 1030, 67) := by decide +kernel
theorem d160_67 : dc 160 67 = some (.iload_n 2, 68) := by decide +kernel
theorem d160_68 : dc 160 68 = some (.iconst 3, 69) := by decide +kernel
theorem d160_69 : dc 160 69 = some (.iastore, 70) := by decide +kernel
theorem d160_70 : dc 160 70 = some (.iinc 2 1, 73) := by decide +kernel
theorem d160_73 : dc 160 73 = some (.iinc 3 1, 76) := by decide +kernel
theorem d160_76 : dc 160 76 = some (.goto ((175 : Nat) : Int), 79) := by decide +kernel
theorem d160_79 : dc 160 79 = some (.iload 6, 81) := by decide +kernel
theorem d160_81 : dc 160 81 = some (.ifCond .eq ((100 : Nat) : Int), 84) := by decide +kernel
theorem d160_84 : dc 160 84 = some (.aload_n 0, 85) := by decide +kernel
theorem d160_85 : dc 160 85 = some (.dload 1030, 88) := by decide +kernel
theorem d160_88 : dc 160 88 = some (.iconst 0, 89) := by decide +kernel
theorem d160_89 : dc 160 89 = some (.aload_n 0, 90) := by decide +kernel
theorem d160_90 : dc 160 90 = some (.dload 1031, 93) := by decide +kernel
theorem d160_93 : dc 160 93 = some (.iconst 0, 94) := by decide +kernel
theorem d160_94 : dc 160 94 = some (.iconst 5, 95) := by decide +kernel
theorem d160_95 : dc 160 95 = some (.invokestatic 0, 98) := by decide +kernel
theorem d160_98 : dc 160 98 = some (.iload_n 3, 99) := by decide +kernel
theorem d160_99 : dc 160 99 = some (.istore_n 1, 100) := by decide +kernel
theorem d160_100 : dc 160 100 = some (.iload_n 2, 101) := by decide +kernel
theorem d160_101 : dc 160 101 = some (.ifCond .le ((128 : Nat) : Int), 104) := by decide +kernel
theorem d160_104 : dc 160 104 = some (.aload_n 0, 105) := by decide +kernel
theorem d160_105 : dc 160 105 = some (.dload 1030, 108) := by decide +kernel
theorem d160_108 : dc 160 108 = some (.iload_n 2, 109) := by decide +kernel
theorem d160_109 : dc 160 109 = some (.iconst 1, 110) := by decide +kernel
theorem d160_110 : dc 160 110 = some (.isub, 111) := by decide +kernel
theorem d160_111 : dc 160 111 = some (.iaload, 112) := by decide +kernel
theorem d160_112 : dc 160 112 = some (.ifCond .ne ((128 : Nat) : Int), 115) := by decide +kernel
theorem d160_115 : dc 160 115 = some (.iinc 2 (-1), 118) := by decide +kernel
theorem d160_118 : dc 160 118 = some (.aload_n 0, 119) := by decide +kernel
theorem d160_119 : dc 160 119 = some (.dload 1030, 122) := by decide +kernel
theorem d160_122 : dc 160 122 = some (.iload_n 2, 123) := by decide +kernel
theorem d160_123 : dc 160 123 = some (.iconst (-1), 124) := by decide +kernel
theorem d160_124 : dc 160 124 = some (.iastore, 125) := by decide +kernel
theorem d160_125 : dc 160 125 = some (.goto ((100 : Nat) : Int), 128) := by decide +kernel
theorem d160_128 : dc 160 128 = some (.iload_n 2, 129) := by decide +kernel
theorem d160_129 : dc 160 129 = some (.ifCond .le ((136 : Nat) : Int), 132) := by decide +kernel
theorem d160_132 : dc 160 132 = some (.iconst 1, 133) := by decide +kernel
theorem d160_133 : dc 160 133 = some (.goto ((137 : Nat) : Int), 136) := by decide +kernel
theorem d160_136 : dc 160 136 = some (.iconst 0, 137) := by decide +kernel
theorem d160_137 : dc 160 137 = some (.istore 4, 139) := by decide +kernel
theorem d160_139 : dc 160 139 = some (.iload 4, 141) := by decide +kernel
theorem d160_141 : dc 160 141 = some (.ifCond .eq ((175 : Nat) : Int), 144) := by decide +kernel
theorem d160_144 : dc 160 144 = some (.aload_n 0, 145) := by decide +kernel
theorem d160_145 : dc 160 145 = some (.dload 1030, 148) := by decide +kernel
theorem d160_148 : dc 160 148 = some (.iload_n 2, 149) := by decide +kernel
theorem d160_149 : dc 160 149 = some (.iconst 1, 150) := by decide +kernel
theorem d160_150 : dc 160 150 = some (.isub, 151) := by decide +kernel
theorem d160_151 : dc 160 151 = some (.dup2, 152) := by decide +kernel
theorem d160_152 : dc 160 152 = some (.iaload, 153) := by decide +kernel
theorem d160_153 : dc 160 153 = some (.iconst 1, 154) := by decide +kernel
theorem d160_154 : dc 160 154 = some (.isub, 155) := by decide +kernel
theorem d160_155 : dc 160 155 = some (.iastore, 156) := by decide +kernel
theorem d160_156 : dc 160 156 = some (.iload_n 3, 157) := by decide +kernel
theorem d160_157 : dc 160 157 = some (.aload_n 0, 158) := by decide +kernel
theorem d160_158 : dc 160 158 = some (.dload 1030, 161) := by decide +kernel
theorem d160_161 : dc 160 161 = some (.iload_n 2, 162) := by decide +kernel
theorem d160_162 : dc 160 162 = some (.iconst 1, 163) := by decide +kernel
theorem d160_163 : dc 160 163 = some (.isub, 164) := by decide +kernel
theorem d160_164 : dc 160 164 = some (.iaload, 165) := by decide +kernel
theorem d160_165 : dc 160 165 = some (.ifCond .ne ((172 : Nat) : Int), 168) := by decide +kernel
theorem d160_168 : dc 160 168 = some (.iconst 1, 169) := by decide +kernel
theorem d160_169 : dc 160 169 = some (.goto ((173 : Nat) : Int), 172) := by decide +kernel
theorem d160_172 : dc 160 172 = some (.iconst 0, 173) := by decide +kernel
theorem d160_173 : dc 160 173 = some (.isub, 174) := by decide +kernel
theorem d160_174 : dc 160 174 = some (.istore_n 3, 175) := by decide +kernel
theorem d160_175 : dc 160 175 = some (.iinc 5 1, 178) := by decide +kernel
theorem d160_178 : dc 160 178 = some (.goto ((21 : Nat) : Int), 181) := by decide +kernel
theorem d160_181 : dc 160 181 = some (.iload_n 1, 182) := by decide +kernel
theorem d160_182 : dc 160 182 = some (.iconst 5, 183) := by decide +kernel
theorem d160_183 : dc 160 183 = some (.if_icmp .gt ((190 : Nat) : Int), 186) := by decide +kernel
theorem d160_186 : dc 160 186 = some (.iconst 1, 187) := by decide +kernel
theorem d160_187 : dc 160 187 = some (.goto ((191 : Nat) : Int), 190) := by decide +kernel
theorem d160_190 : dc 160 190 = some (.iconst 0, 191) := by decide +kernel
theorem d160_191 : dc 160 191 = some (.freturn, 192) := by decide +kernel
theorem k_Vr_findSolution {S : Shp} {G : Nat → Option Nat} {d : Nat} {h : Hp} {Q : Option MV → Hp → Prop} {v : Nat}  (ok : Ok S h) (h1 : 5 ≤ d) (hv : sK S v = 9) {rs : List RuV} (vc : VrC S h v rs)
    (kk : ∀ h', Mo S (fun x => x = sT S 1030 v ∨ x = sT S 1031 v) h h' → ((fsE rs).2.2.1 ≤ 5 → ∀ j, j < 5 → AI h' (sT S 1031 v) j = (fsE rs).2.1 j) → Q (some (vI (b2i (decide ((fsE rs).2.2.1 ≤ 5))))) h') : Cl G d 160 [vR (some v)] h Q := by
  show Wp G d 160 0 [some (vR (some v)), none, none, none, none, none, none] [] h Q
  have k0 := kT1030 ok hv
  have k1 := kT1031 ok hv
  have K30 : sK S (sT S 1030 v) = 40 := k0
  have K31 : sK S (sT S 1031 v) = 40 := k1
  have nvv : v ≠ sT S 1030 v := fun z => ok.so.pT (by decide) z.symm
  have nvb : v ≠ sT S 1031 v := fun z => ok.so.pT (by decide) z.symm
  have nTT : ∀ f, 1025 ≤ f → f ≤ 1029 → ∀ g, 1030 ≤ g → g ≤ 1031 → sT S f v ≠ sT S g v := fun f h1 h2 g h3 h4 z => absurd ((ok.so.inj (by omega) (by omega)).mp z).1 (by omega)
  have n01 : sT S 1030 v ≠ sT S 1031 v := fun w => absurd ((ok.so.inj (by decide) (by decide)).mp w).1 (by decide)
  refine w_aload_n d160_0 rfl ?_
  refine w_dloadS d160_1 (ok.kd hv) (fr1030 ok hv) ?_
  refine w_iconst d160_4 (by decide) ?_
  refine w_calls2 d160_5 (by omega) rfl rfl (by simp) (Nat.le_of_ble_eq_true rfl) ?_
  refine k_Arrays_fill (n := 5) ok (by omega) hv rfl rfl ⟨by omega, by omega⟩ ⟨by decide, by decide⟩ (fun h5 m5 e5_1 => ?_)
  have ok5 := m5.ok
  have M5 := Mo.tr ok (Mo.refl (A := (fun x => x = (sT S 1030 v) ∨ x = (sT S 1031 v))) ok) m5 (fun x e => (Or.inl e))
  refine w_bipush d160_8 (by decide) ?_
  refine w_istore1 d160_10 rfl ?_
  refine w_iconst d160_11 (by decide) ?_
  refine w_istore2 d160_12 rfl ?_
  refine w_iconst d160_13 (by decide) ?_
  refine w_istore3 d160_14 rfl ?_
  refine w_iconst d160_15 (by decide) ?_
  refine w_istore4 d160_16 rfl ?_
  refine w_iconst d160_18 (by decide) ?_
  refine w_istore5 d160_19 rfl ?_
  have L21 : ∀ (m21 : Nat) (g : Hp) (i : Nat) (vl be : Nat → Int) (fw th : Int) (de : Nat) (mo : Bool), 1365 - i = m21 → Mo S (fun x => x = (sT S 1030 v) ∨ x = (sT S 1031 v)) h g → (i ≤ 1365) → (fsE rs = fsI rs (1365 - i) (vl, be, fw, de, th, mo)) → (FsO i (vl, be, fw, de, th, mo)) → (∀ j, j < 5 → AI g (sT S 1030 v) j = vl j) → (fw ≤ 5 → ∀ j, j < 5 → AI g (sT S 1031 v) j = be j) → Wp G d 160 21 [some (vR (some v)), some (vI fw), some (vI (de : Nat)), some (vI th), some (vI (b2i mo)), some (vI (i : Nat)), none] [] g Q := by
    intro m21
    induction m21 using Nat.strongRecOn with | ind m21 IH21 => ?_
    intro g i vl be fw th de mo hm21 Mg i1 i2 i3 i4 i5
    have okg := Mg.ok
    have vcg : VrC S g v rs := vc.fr ok Mg hv (Or.inl (by simp [nvv, nvb])) (fun f h1 h2 => by simp [nTT f h1 h2 1030 (by decide) (by decide), nTT f h1 h2 1031 (by decide) (by decide)])
    have lw : lwb rs (AI g (sT S 1030 v)) = lwb rs vl := lwb_cg vc.rg i4
    have d5 : de ≤ 5 := i3.1
    have t5 : -(i : Int) ≤ th := i3.2.2.1
    have t6 : th ≤ i := i3.2.2.2.1
    have f5 : -(i : Int) ≤ fw := i3.2.2.2.2.1
    have f6 : fw ≤ i + 6 := i3.2.2.2.2.2
    refine w_iload d160_21 rfl ?_
    refine w_ifeq d160_23 (fun c23 => ?_) (fun c23 => ?_)
    · have mf : mo = false := by cases mo with
        | true => exact absurd c23 (by decide)
        | false => rfl
      have E : fsE rs = (vl, be, fw, de, th, mo) := i2.trans (fsI_off mf)
      refine w_iload_n d160_181 rfl ?_
      refine w_iconst d160_182 (by decide) ?_
      refine w_icmpgt d160_183 (fun c183 => ?_) (fun c183 => ?_)
      · refine w_iconst d160_190 (by decide) ?_
        refine w_zreturn d160_191 (by decide) ?_
        rw [E] at kk
        refine qI ?_ (kk g Mg i5)
        show _ = b2i (decide (fw ≤ 5))
        first | (rw [decide_eq_true (by omega)]; first | done | rfl) | (rw [decide_eq_false (by omega)]; first | done | rfl)
      · refine w_iconst d160_186 (by decide) ?_
        refine w_goto d160_187 ?_
        refine w_zreturn d160_191 (by decide) ?_
        rw [E] at kk
        refine qI ?_ (kk g Mg i5)
        show _ = b2i (decide (fw ≤ 5))
        first | (rw [decide_eq_true (by omega)]; first | done | rfl) | (rw [decide_eq_false (by omega)]; first | done | rfl)
    · have mf : mo = true := by cases mo with
        | true => rfl
        | false => exact absurd rfl c23
      refine w_iload d160_26 rfl ?_
      refine w_sipush d160_28 (by decide) ?_
      refine w_icmpge d160_31 (fun c31 => ?_) (fun c31 => ?_)
      · have E : fsE rs = (vl, be, fw, de, th, mo) := i2.trans (by rw [show 1365 - i = 0 by omega]; rfl)
        refine w_iload_n d160_181 rfl ?_
        refine w_iconst d160_182 (by decide) ?_
        refine w_icmpgt d160_183 (fun c183 => ?_) (fun c183 => ?_)
        · refine w_iconst d160_190 (by decide) ?_
          refine w_zreturn d160_191 (by decide) ?_
          rw [E] at kk
          refine qI ?_ (kk g Mg i5)
          show _ = b2i (decide (fw ≤ 5))
          first | (rw [decide_eq_true (by omega)]; first | done | rfl) | (rw [decide_eq_false (by omega)]; first | done | rfl)
        · refine w_iconst d160_186 (by decide) ?_
          refine w_goto d160_187 ?_
          refine w_zreturn d160_191 (by decide) ?_
          rw [E] at kk
          refine qI ?_ (kk g Mg i5)
          show _ = b2i (decide (fw ≤ 5))
          first | (rw [decide_eq_true (by omega)]; first | done | rfl) | (rw [decide_eq_false (by omega)]; first | done | rfl)
      · refine w_iload_n d160_34 rfl ?_
        refine w_iload_n d160_35 rfl ?_
        refine w_icmpge d160_36 (fun c36 => ?_) (fun c36 => ?_)
        · have R : fsR rs (vl, be, fw, de, th, mo) = false := decide_eq_false (fun z => by have z1 : th < fw := z.1; omega)
          have hb : ¬ (fsR rs (vl, be, fw, de, th, mo) = true ∧ de < 5) := fun z => by rw [R] at z; exact absurd z.1 (by decide)
          refine w_iconst d160_50 (by decide) ?_
          refine w_istore6 d160_51 rfl ?_
          refine w_iload d160_53 rfl ?_
          refine w_ifeq d160_55 (fun c55 => ?_) (fun c55 => ?_)
          · refine w_iload d160_79 rfl ?_
            refine w_ifeq d160_81 (fun c81 => ?_) (fun c81 => ?_)
            · have L100 : ∀ (m100 : Nat) (g2 : Hp) (vm : Nat → Int) (n : Nat), n = m100 → Mo S (fun x => x = (sT S 1030 v) ∨ x = (sT S 1031 v)) h g2 → (n ≤ de) → (bk 0 vl de = bk 0 vm n) → (∀ j, j < 5 → AI g2 (sT S 1030 v) j = vm j) → (fw ≤ 5 → ∀ j, j < 5 → AI g2 (sT S 1031 v) j = (if fsR rs (vl, be, fw, de, th, mo) = true then vl else be) j) → Wp G d 160 100 [some (vR (some v)), some (vI fw), some (vI (n : Nat)), some (vI th), some (vI (b2i mo)), some (vI (i : Nat)), none] [] g2 Q := by
                intro m100
                induction m100 using Nat.strongRecOn with | ind m100 IH100 => ?_
                intro g2 vm n hm100 Mg2 j1 j2 j3 j4
                have okg2 := Mg2.ok
                refine w_iload_n d160_100 rfl ?_
                refine w_ifle d160_101 (fun c101 => ?_) (fun c101 => ?_)
                · have n0 : n = 0 := by omega
                  have gb := j2.trans (bk_end (Or.inl n0))
                  refine w_iload_n d160_128 rfl ?_
                  refine w_ifle d160_129 (fun c129 => ?_) (fun c129 => ?_)
                  · refine w_iconst d160_136 (by decide) ?_
                    refine w_istore4 d160_137 rfl ?_
                    refine w_iload d160_139 rfl ?_
                    refine w_ifeq d160_141 (fun c141 => ?_) (fun c141 => ?_)
                    · refine w_iinc5 d160_175 rfl (by constructor <;> omega) ?_
                      refine w_goto d160_178 ?_
                      have SE := fs_b (fx := fw) hb gb (by rw [if_neg (by rw [R]; decide)]) n0
                      refine w_less ?_ (IH21 _ (by omega) g2 (i + 1) vm (if fsR rs (vl, be, fw, de, th, mo) = true then vl else be) fw th n false rfl Mg2 (by omega) (by rw [i2, fsI_on (n := 1365 - i) (by omega) mf, SE, show 1365 - i - 1 = 1365 - (i + 1) by omega]) (by have z := fsS_ok (rs := rs) i3; rw [SE] at z; exact z) j3 j4)
                      exact ⟨Or.inr rfl, Or.inr rfl, Or.inr rfl, Or.inr rfl, Or.inr rfl, Or.inr rfl, Or.inl rfl, trivial⟩
                    · exact absurd rfl c141
                  · omega
                · refine w_aload_n d160_104 rfl ?_
                  refine w_dloadS d160_105 (okg2.kd hv) (fr1030 okg2 hv) ?_
                  refine w_iload_n d160_108 rfl ?_
                  refine w_iconst d160_109 (by decide) ?_
                  refine w_isub d160_110 (by constructor <;> omega) ?_
                  rw [show ((n : Nat) : Int) - 1 = ((n - 1 : Nat) : Int) by omega]
                  refine w_ialoadV (x := (vm (n - 1))) d160_111 (gi1030 okg2 hv (by omega)) (j3 (n - 1) (by omega)) ?_
                  refine w_ifne d160_112 (fun c112 => ?_) (fun c112 => ?_)
                  · have gb := j2.trans (bk_end (Or.inr c112))
                    have ps := bk_pos (n := de) i3.2.1
                    rw [gb] at ps
                    have p1 := ps (n - 1) (by show n - 1 < n; omega)
                    change 0 ≤ vm (n - 1) at p1
                    have p3 : vm (n - 1) ≤ 3 := by rw [← j3 (n - 1) (by omega)]; exact (ra1030 okg2 hv (n - 1)).2
                    have nn : n ≠ 0 := by omega
                    refine w_iload_n d160_128 rfl ?_
                    refine w_ifle d160_129 (fun c129 => ?_) (fun c129 => ?_)
                    · omega
                    · refine w_iconst d160_132 (by decide) ?_
                      refine w_goto d160_133 ?_
                      refine w_istore4 d160_137 rfl ?_
                      refine w_iload d160_139 rfl ?_
                      refine w_ifeq d160_141 (fun c141 => ?_) (fun c141 => ?_)
                      · exact absurd c141 (by decide)
                      · refine w_aload_n d160_144 rfl ?_
                        refine w_dloadS d160_145 (okg2.kd hv) (fr1030 okg2 hv) ?_
                        refine w_iload_n d160_148 rfl ?_
                        refine w_iconst d160_149 (by decide) ?_
                        refine w_isub d160_150 (by constructor <;> omega) ?_
                        rw [show ((n : Nat) : Int) - 1 = ((n - 1 : Nat) : Int) by omega]
                        refine w_dup2 d160_151 ?_
                        refine w_ialoadV (x := (vm (n - 1))) d160_152 (gi1030 okg2 hv (by omega)) (j3 (n - 1) (by omega)) ?_
                        refine w_iconst d160_153 (by decide) ?_
                        refine w_isub d160_154 (by constructor <;> omega) ?_
                        refine wa1030 d160_155 okg2 hv (by omega) (by omega) (fun h155 e155 m155 => ?_)
                        have ok155 := m155.ok
                        have M155 := Mo.tr ok Mg2 m155 (fun x e => (Or.inl e))
                        refine w_iload_n d160_156 rfl ?_
                        refine w_aload_n d160_157 rfl ?_
                        refine w_dloadS d160_158 (ok155.kd hv) (fr1030 ok155 hv) ?_
                        refine w_iload_n d160_161 rfl ?_
                        refine w_iconst d160_162 (by decide) ?_
                        refine w_isub d160_163 (by constructor <;> omega) ?_
                        rw [show ((n : Nat) : Int) - 1 = ((n - 1 : Nat) : Int) by omega]
                        refine w_ialoadV (x := (vm (n - 1) - 1)) d160_164 (gi1030 ok155 hv (by omega)) (by rw [e155, sArr, if_pos (by omega)]) ?_
                        refine w_ifne d160_165 (fun c165 => ?_) (fun c165 => ?_)
                        · refine w_iconst d160_172 (by decide) ?_
                          refine w_isub d160_173 (by constructor <;> omega) ?_
                          refine w_istore3 d160_174 rfl ?_
                          refine w_iinc5 d160_175 rfl (by constructor <;> omega) ?_
                          refine w_goto d160_178 ?_
                          have SE := fs_c (fx := fw) hb gb (by rw [if_neg (by rw [R]; decide)]) nn (by omega)
                          refine w_less ?_ (IH21 _ (by omega) h155 (i + 1) (up vm (n - 1) (vm (n - 1) - 1)) (if fsR rs (vl, be, fw, de, th, mo) = true then vl else be) fw (th - 0) n true rfl M155 (by omega) (by rw [i2, fsI_on (n := 1365 - i) (by omega) mf, SE, show 1365 - i - 1 = 1365 - (i + 1) by omega]) (by have z := fsS_ok (rs := rs) i3; rw [SE] at z; exact z) (fun j hj => by rw [e155, sArr]; show (if j = n - 1 then _ else _) = (if j = n - 1 then vm (n - 1) - 1 else vm j); rw [j3 j hj]) (fun q j hj => (by rw [m155.ai okg2 ⟨by have := K31; omega, by have := K31; omega⟩ (fun z => n01 z.symm)]; exact j4 q j hj)))
                          exact ⟨Or.inr rfl, Or.inr rfl, Or.inr rfl, Or.inr rfl, Or.inr rfl, Or.inr rfl, Or.inl rfl, trivial⟩
                        · refine w_iconst d160_168 (by decide) ?_
                          refine w_goto d160_169 ?_
                          refine w_isub d160_173 (by constructor <;> omega) ?_
                          refine w_istore3 d160_174 rfl ?_
                          refine w_iinc5 d160_175 rfl (by constructor <;> omega) ?_
                          refine w_goto d160_178 ?_
                          have SE := fs_d (fx := fw) hb gb (by rw [if_neg (by rw [R]; decide)]) nn (by omega)
                          refine w_less ?_ (IH21 _ (by omega) h155 (i + 1) (up vm (n - 1) (vm (n - 1) - 1)) (if fsR rs (vl, be, fw, de, th, mo) = true then vl else be) fw (th - 1) n true rfl M155 (by omega) (by rw [i2, fsI_on (n := 1365 - i) (by omega) mf, SE, show 1365 - i - 1 = 1365 - (i + 1) by omega]) (by have z := fsS_ok (rs := rs) i3; rw [SE] at z; exact z) (fun j hj => by rw [e155, sArr]; show (if j = n - 1 then _ else _) = (if j = n - 1 then vm (n - 1) - 1 else vm j); rw [j3 j hj]) (fun q j hj => (by rw [m155.ai okg2 ⟨by have := K31; omega, by have := K31; omega⟩ (fun z => n01 z.symm)]; exact j4 q j hj)))
                          exact ⟨Or.inr rfl, Or.inr rfl, Or.inr rfl, Or.inr rfl, Or.inr rfl, Or.inr rfl, Or.inl rfl, trivial⟩
                  · refine w_iinc2 d160_115 rfl (by constructor <;> omega) ?_
                    rw [show ((n : Nat) : Int) + (-1) = ((n - 1 : Nat) : Int) by omega]
                    refine w_aload_n d160_118 rfl ?_
                    refine w_dloadS d160_119 (okg2.kd hv) (fr1030 okg2 hv) ?_
                    refine w_iload_n d160_122 rfl ?_
                    refine w_iconst d160_123 (by decide) ?_
                    refine wa1030 d160_124 okg2 hv (by omega) (by omega) (fun h124 e124 m124 => ?_)
                    have e124 : h124 = sAI g2 (sT S 1030 v) (n - 1) (-1) := e124
                    have ok124 := m124.ok
                    have M124 := Mo.tr ok Mg2 m124 (fun x e => (Or.inl e))
                    refine w_goto d160_125 ?_
                    refine w_less ?_ (IH100 _ (by omega) h124 (up vm (n - 1) (-1)) (n - 1) rfl M124 (by omega) (by rw [j2, bk_step (by omega) (by omega)]) (fun j hj => by rw [e124, sArr]; show (if j = n - 1 then _ else _) = (if j = n - 1 then -1 else vm j); rw [j3 j hj]) (fun q j hj => (by rw [m124.ai okg2 ⟨by have := K31; omega, by have := K31; omega⟩ (fun z => n01 z.symm)]; exact j4 q j hj)))
                    exact ⟨Or.inr rfl, Or.inr rfl, Or.inr rfl, Or.inr rfl, Or.inr rfl, Or.inr rfl, Or.inl rfl, trivial⟩
              refine w_less ?_ (L100 _ g vl de rfl Mg (Nat.le_refl _) rfl i4 (fun q j hj => by rw [if_neg (by rw [R]; decide)]; exact i5 q j hj))
              exact ⟨Or.inr rfl, Or.inr rfl, Or.inr rfl, Or.inr rfl, Or.inr rfl, Or.inr rfl, Or.inl rfl, trivial⟩
            · exact absurd rfl c81
          · exact absurd rfl c55
        · refine w_aload_n d160_39 rfl ?_
          refine w_callv1 d160_40 (by omega) rfl (okg.kd hv) (by simp) (Nat.le_of_ble_eq_true rfl) ?_
          refine k_Vr_lowestBroken okg (by omega) hv vcg ?_
          rw [lw]
          refine w_ifge d160_43 (fun c43 => ?_) (fun c43 => ?_)
          · have R : fsR rs (vl, be, fw, de, th, mo) = false := decide_eq_false (fun z => by have z1 : lwb rs vl < 0 := z.2; omega)
            have hb : ¬ (fsR rs (vl, be, fw, de, th, mo) = true ∧ de < 5) := fun z => by rw [R] at z; exact absurd z.1 (by decide)
            refine w_iconst d160_50 (by decide) ?_
            refine w_istore6 d160_51 rfl ?_
            refine w_iload d160_53 rfl ?_
            refine w_ifeq d160_55 (fun c55 => ?_) (fun c55 => ?_)
            · refine w_iload d160_79 rfl ?_
              refine w_ifeq d160_81 (fun c81 => ?_) (fun c81 => ?_)
              · have L100 : ∀ (m100 : Nat) (g2 : Hp) (vm : Nat → Int) (n : Nat), n = m100 → Mo S (fun x => x = (sT S 1030 v) ∨ x = (sT S 1031 v)) h g2 → (n ≤ de) → (bk 0 vl de = bk 0 vm n) → (∀ j, j < 5 → AI g2 (sT S 1030 v) j = vm j) → (fw ≤ 5 → ∀ j, j < 5 → AI g2 (sT S 1031 v) j = (if fsR rs (vl, be, fw, de, th, mo) = true then vl else be) j) → Wp G d 160 100 [some (vR (some v)), some (vI fw), some (vI (n : Nat)), some (vI th), some (vI (b2i mo)), some (vI (i : Nat)), none] [] g2 Q := by
                  intro m100
                  induction m100 using Nat.strongRecOn with | ind m100 IH100 => ?_
                  intro g2 vm n hm100 Mg2 j1 j2 j3 j4
                  have okg2 := Mg2.ok
                  refine w_iload_n d160_100 rfl ?_
                  refine w_ifle d160_101 (fun c101 => ?_) (fun c101 => ?_)
                  · have n0 : n = 0 := by omega
                    have gb := j2.trans (bk_end (Or.inl n0))
                    refine w_iload_n d160_128 rfl ?_
                    refine w_ifle d160_129 (fun c129 => ?_) (fun c129 => ?_)
                    · refine w_iconst d160_136 (by decide) ?_
                      refine w_istore4 d160_137 rfl ?_
                      refine w_iload d160_139 rfl ?_
                      refine w_ifeq d160_141 (fun c141 => ?_) (fun c141 => ?_)
                      · refine w_iinc5 d160_175 rfl (by constructor <;> omega) ?_
                        refine w_goto d160_178 ?_
                        have SE := fs_b (fx := fw) hb gb (by rw [if_neg (by rw [R]; decide)]) n0
                        refine w_less ?_ (IH21 _ (by omega) g2 (i + 1) vm (if fsR rs (vl, be, fw, de, th, mo) = true then vl else be) fw th n false rfl Mg2 (by omega) (by rw [i2, fsI_on (n := 1365 - i) (by omega) mf, SE, show 1365 - i - 1 = 1365 - (i + 1) by omega]) (by have z := fsS_ok (rs := rs) i3; rw [SE] at z; exact z) j3 j4)
                        exact ⟨Or.inr rfl, Or.inr rfl, Or.inr rfl, Or.inr rfl, Or.inr rfl, Or.inr rfl, Or.inl rfl, trivial⟩
                      · exact absurd rfl c141
                    · omega
                  · refine w_aload_n d160_104 rfl ?_
                    refine w_dloadS d160_105 (okg2.kd hv) (fr1030 okg2 hv) ?_
                    refine w_iload_n d160_108 rfl ?_
                    refine w_iconst d160_109 (by decide) ?_
                    refine w_isub d160_110 (by constructor <;> omega) ?_
                    rw [show ((n : Nat) : Int) - 1 = ((n - 1 : Nat) : Int) by omega]
                    refine w_ialoadV (x := (vm (n - 1))) d160_111 (gi1030 okg2 hv (by omega)) (j3 (n - 1) (by omega)) ?_
                    refine w_ifne d160_112 (fun c112 => ?_) (fun c112 => ?_)
                    · have gb := j2.trans (bk_end (Or.inr c112))
                      have ps := bk_pos (n := de) i3.2.1
                      rw [gb] at ps
                      have p1 := ps (n - 1) (by show n - 1 < n; omega)
                      change 0 ≤ vm (n - 1) at p1
                      have p3 : vm (n - 1) ≤ 3 := by rw [← j3 (n - 1) (by omega)]; exact (ra1030 okg2 hv (n - 1)).2
                      have nn : n ≠ 0 := by omega
                      refine w_iload_n d160_128 rfl ?_
                      refine w_ifle d160_129 (fun c129 => ?_) (fun c129 => ?_)
                      · omega
                      · refine w_iconst d160_132 (by decide) ?_
                        refine w_goto d160_133 ?_
                        refine w_istore4 d160_137 rfl ?_
                        refine w_iload d160_139 rfl ?_
                        refine w_ifeq d160_141 (fun c141 => ?_) (fun c141 => ?_)
                        · exact absurd c141 (by decide)
                        · refine w_aload_n d160_144 rfl ?_
                          refine w_dloadS d160_145 (okg2.kd hv) (fr1030 okg2 hv) ?_
                          refine w_iload_n d160_148 rfl ?_
                          refine w_iconst d160_149 (by decide) ?_
                          refine w_isub d160_150 (by constructor <;> omega) ?_
                          rw [show ((n : Nat) : Int) - 1 = ((n - 1 : Nat) : Int) by omega]
                          refine w_dup2 d160_151 ?_
                          refine w_ialoadV (x := (vm (n - 1))) d160_152 (gi1030 okg2 hv (by omega)) (j3 (n - 1) (by omega)) ?_
                          refine w_iconst d160_153 (by decide) ?_
                          refine w_isub d160_154 (by constructor <;> omega) ?_
                          refine wa1030 d160_155 okg2 hv (by omega) (by omega) (fun h155 e155 m155 => ?_)
                          have ok155 := m155.ok
                          have M155 := Mo.tr ok Mg2 m155 (fun x e => (Or.inl e))
                          refine w_iload_n d160_156 rfl ?_
                          refine w_aload_n d160_157 rfl ?_
                          refine w_dloadS d160_158 (ok155.kd hv) (fr1030 ok155 hv) ?_
                          refine w_iload_n d160_161 rfl ?_
                          refine w_iconst d160_162 (by decide) ?_
                          refine w_isub d160_163 (by constructor <;> omega) ?_
                          rw [show ((n : Nat) : Int) - 1 = ((n - 1 : Nat) : Int) by omega]
                          refine w_ialoadV (x := (vm (n - 1) - 1)) d160_164 (gi1030 ok155 hv (by omega)) (by rw [e155, sArr, if_pos (by omega)]) ?_
                          refine w_ifne d160_165 (fun c165 => ?_) (fun c165 => ?_)
                          · refine w_iconst d160_172 (by decide) ?_
                            refine w_isub d160_173 (by constructor <;> omega) ?_
                            refine w_istore3 d160_174 rfl ?_
                            refine w_iinc5 d160_175 rfl (by constructor <;> omega) ?_
                            refine w_goto d160_178 ?_
                            have SE := fs_c (fx := fw) hb gb (by rw [if_neg (by rw [R]; decide)]) nn (by omega)
                            refine w_less ?_ (IH21 _ (by omega) h155 (i + 1) (up vm (n - 1) (vm (n - 1) - 1)) (if fsR rs (vl, be, fw, de, th, mo) = true then vl else be) fw (th - 0) n true rfl M155 (by omega) (by rw [i2, fsI_on (n := 1365 - i) (by omega) mf, SE, show 1365 - i - 1 = 1365 - (i + 1) by omega]) (by have z := fsS_ok (rs := rs) i3; rw [SE] at z; exact z) (fun j hj => by rw [e155, sArr]; show (if j = n - 1 then _ else _) = (if j = n - 1 then vm (n - 1) - 1 else vm j); rw [j3 j hj]) (fun q j hj => (by rw [m155.ai okg2 ⟨by have := K31; omega, by have := K31; omega⟩ (fun z => n01 z.symm)]; exact j4 q j hj)))
                            exact ⟨Or.inr rfl, Or.inr rfl, Or.inr rfl, Or.inr rfl, Or.inr rfl, Or.inr rfl, Or.inl rfl, trivial⟩
                          · refine w_iconst d160_168 (by decide) ?_
                            refine w_goto d160_169 ?_
                            refine w_isub d160_173 (by constructor <;> omega) ?_
                            refine w_istore3 d160_174 rfl ?_
                            refine w_iinc5 d160_175 rfl (by constructor <;> omega) ?_
                            refine w_goto d160_178 ?_
                            have SE := fs_d (fx := fw) hb gb (by rw [if_neg (by rw [R]; decide)]) nn (by omega)
                            refine w_less ?_ (IH21 _ (by omega) h155 (i + 1) (up vm (n - 1) (vm (n - 1) - 1)) (if fsR rs (vl, be, fw, de, th, mo) = true then vl else be) fw (th - 1) n true rfl M155 (by omega) (by rw [i2, fsI_on (n := 1365 - i) (by omega) mf, SE, show 1365 - i - 1 = 1365 - (i + 1) by omega]) (by have z := fsS_ok (rs := rs) i3; rw [SE] at z; exact z) (fun j hj => by rw [e155, sArr]; show (if j = n - 1 then _ else _) = (if j = n - 1 then vm (n - 1) - 1 else vm j); rw [j3 j hj]) (fun q j hj => (by rw [m155.ai okg2 ⟨by have := K31; omega, by have := K31; omega⟩ (fun z => n01 z.symm)]; exact j4 q j hj)))
                            exact ⟨Or.inr rfl, Or.inr rfl, Or.inr rfl, Or.inr rfl, Or.inr rfl, Or.inr rfl, Or.inl rfl, trivial⟩
                    · refine w_iinc2 d160_115 rfl (by constructor <;> omega) ?_
                      rw [show ((n : Nat) : Int) + (-1) = ((n - 1 : Nat) : Int) by omega]
                      refine w_aload_n d160_118 rfl ?_
                      refine w_dloadS d160_119 (okg2.kd hv) (fr1030 okg2 hv) ?_
                      refine w_iload_n d160_122 rfl ?_
                      refine w_iconst d160_123 (by decide) ?_
                      refine wa1030 d160_124 okg2 hv (by omega) (by omega) (fun h124 e124 m124 => ?_)
                      have e124 : h124 = sAI g2 (sT S 1030 v) (n - 1) (-1) := e124
                      have ok124 := m124.ok
                      have M124 := Mo.tr ok Mg2 m124 (fun x e => (Or.inl e))
                      refine w_goto d160_125 ?_
                      refine w_less ?_ (IH100 _ (by omega) h124 (up vm (n - 1) (-1)) (n - 1) rfl M124 (by omega) (by rw [j2, bk_step (by omega) (by omega)]) (fun j hj => by rw [e124, sArr]; show (if j = n - 1 then _ else _) = (if j = n - 1 then -1 else vm j); rw [j3 j hj]) (fun q j hj => (by rw [m124.ai okg2 ⟨by have := K31; omega, by have := K31; omega⟩ (fun z => n01 z.symm)]; exact j4 q j hj)))
                      exact ⟨Or.inr rfl, Or.inr rfl, Or.inr rfl, Or.inr rfl, Or.inr rfl, Or.inr rfl, Or.inl rfl, trivial⟩
                refine w_less ?_ (L100 _ g vl de rfl Mg (Nat.le_refl _) rfl i4 (fun q j hj => by rw [if_neg (by rw [R]; decide)]; exact i5 q j hj))
                exact ⟨Or.inr rfl, Or.inr rfl, Or.inr rfl, Or.inr rfl, Or.inr rfl, Or.inr rfl, Or.inl rfl, trivial⟩
              · exact absurd rfl c81
            · exact absurd rfl c55
          · have R : fsR rs (vl, be, fw, de, th, mo) = true := decide_eq_true ⟨by show th < fw; omega, by show lwb rs vl < 0; omega⟩
            refine w_iconst d160_46 (by decide) ?_
            refine w_goto d160_47 ?_
            refine w_istore6 d160_51 rfl ?_
            refine w_iload d160_53 rfl ?_
            refine w_ifeq d160_55 (fun c55 => ?_) (fun c55 => ?_)
            · exact absurd c55 (by decide)
            · refine w_iload_n d160_58 rfl ?_
              refine w_iconst d160_59 (by decide) ?_
              refine w_icmpge d160_60 (fun c60 => ?_) (fun c60 => ?_)
              · have hb : ¬ (fsR rs (vl, be, fw, de, th, mo) = true ∧ de < 5) := fun z => by omega
                refine w_iload d160_79 rfl ?_
                refine w_ifeq d160_81 (fun c81 => ?_) (fun c81 => ?_)
                · exact absurd c81 (by decide)
                · refine w_aload_n d160_84 rfl ?_
                  refine w_dloadS d160_85 (okg.kd hv) (fr1030 okg hv) ?_
                  refine w_iconst d160_88 (by decide) ?_
                  refine w_aload_n d160_89 rfl ?_
                  refine w_dloadS d160_90 (okg.kd hv) (fr1031 okg hv) ?_
                  refine w_iconst d160_93 (by decide) ?_
                  refine w_iconst d160_94 (by decide) ?_
                  refine p_cpI (f := 1030) (g := 1031) (n := 5) d160_95 okg hv hv ⟨rfl, by decide⟩ ⟨by decide, by decide, by decide, by decide⟩ ⟨by decide, by decide⟩ n01 (by simp) (by omega) (fun h95 e95 m95 => ?_)
                  have ok95 := m95.ok
                  have M95 := Mo.tr ok Mg m95 (fun x e => (Or.inr e))
                  refine w_iload_n d160_98 rfl ?_
                  refine w_istore1 d160_99 rfl ?_
                  have L100 : ∀ (m100 : Nat) (g2 : Hp) (vm : Nat → Int) (n : Nat), n = m100 → Mo S (fun x => x = (sT S 1030 v) ∨ x = (sT S 1031 v)) h g2 → (n ≤ de) → (bk 0 vl de = bk 0 vm n) → (∀ j, j < 5 → AI g2 (sT S 1030 v) j = vm j) → (th ≤ 5 → ∀ j, j < 5 → AI g2 (sT S 1031 v) j = (if fsR rs (vl, be, fw, de, th, mo) = true then vl else be) j) → Wp G d 160 100 [some (vR (some v)), some (vI th), some (vI (n : Nat)), some (vI th), some (vI (b2i mo)), some (vI (i : Nat)), none] [] g2 Q := by
                    intro m100
                    induction m100 using Nat.strongRecOn with | ind m100 IH100 => ?_
                    intro g2 vm n hm100 Mg2 j1 j2 j3 j4
                    have okg2 := Mg2.ok
                    refine w_iload_n d160_100 rfl ?_
                    refine w_ifle d160_101 (fun c101 => ?_) (fun c101 => ?_)
                    · have n0 : n = 0 := by omega
                      have gb := j2.trans (bk_end (Or.inl n0))
                      refine w_iload_n d160_128 rfl ?_
                      refine w_ifle d160_129 (fun c129 => ?_) (fun c129 => ?_)
                      · refine w_iconst d160_136 (by decide) ?_
                        refine w_istore4 d160_137 rfl ?_
                        refine w_iload d160_139 rfl ?_
                        refine w_ifeq d160_141 (fun c141 => ?_) (fun c141 => ?_)
                        · refine w_iinc5 d160_175 rfl (by constructor <;> omega) ?_
                          refine w_goto d160_178 ?_
                          have SE := fs_b (fx := th) hb gb (by rw [if_pos R]) n0
                          refine w_less ?_ (IH21 _ (by omega) g2 (i + 1) vm (if fsR rs (vl, be, fw, de, th, mo) = true then vl else be) th th n false rfl Mg2 (by omega) (by rw [i2, fsI_on (n := 1365 - i) (by omega) mf, SE, show 1365 - i - 1 = 1365 - (i + 1) by omega]) (by have z := fsS_ok (rs := rs) i3; rw [SE] at z; exact z) j3 j4)
                          exact ⟨Or.inr rfl, Or.inr rfl, Or.inr rfl, Or.inr rfl, Or.inr rfl, Or.inr rfl, Or.inl rfl, trivial⟩
                        · exact absurd rfl c141
                      · omega
                    · refine w_aload_n d160_104 rfl ?_
                      refine w_dloadS d160_105 (okg2.kd hv) (fr1030 okg2 hv) ?_
                      refine w_iload_n d160_108 rfl ?_
                      refine w_iconst d160_109 (by decide) ?_
                      refine w_isub d160_110 (by constructor <;> omega) ?_
                      rw [show ((n : Nat) : Int) - 1 = ((n - 1 : Nat) : Int) by omega]
                      refine w_ialoadV (x := (vm (n - 1))) d160_111 (gi1030 okg2 hv (by omega)) (j3 (n - 1) (by omega)) ?_
                      refine w_ifne d160_112 (fun c112 => ?_) (fun c112 => ?_)
                      · have gb := j2.trans (bk_end (Or.inr c112))
                        have ps := bk_pos (n := de) i3.2.1
                        rw [gb] at ps
                        have p1 := ps (n - 1) (by show n - 1 < n; omega)
                        change 0 ≤ vm (n - 1) at p1
                        have p3 : vm (n - 1) ≤ 3 := by rw [← j3 (n - 1) (by omega)]; exact (ra1030 okg2 hv (n - 1)).2
                        have nn : n ≠ 0 := by omega
                        refine w_iload_n d160_128 rfl ?_
                        refine w_ifle d160_129 (fun c129 => ?_) (fun c129 => ?_)
                        · omega
                        · refine w_iconst d160_132 (by decide) ?_
                          refine w_goto d160_133 ?_
                          refine w_istore4 d160_137 rfl ?_
                          refine w_iload d160_139 rfl ?_
                          refine w_ifeq d160_141 (fun c141 => ?_) (fun c141 => ?_)
                          · exact absurd c141 (by decide)
                          · refine w_aload_n d160_144 rfl ?_
                            refine w_dloadS d160_145 (okg2.kd hv) (fr1030 okg2 hv) ?_
                            refine w_iload_n d160_148 rfl ?_
                            refine w_iconst d160_149 (by decide) ?_
                            refine w_isub d160_150 (by constructor <;> omega) ?_
                            rw [show ((n : Nat) : Int) - 1 = ((n - 1 : Nat) : Int) by omega]
                            refine w_dup2 d160_151 ?_
                            refine w_ialoadV (x := (vm (n - 1))) d160_152 (gi1030 okg2 hv (by omega)) (j3 (n - 1) (by omega)) ?_
                            refine w_iconst d160_153 (by decide) ?_
                            refine w_isub d160_154 (by constructor <;> omega) ?_
                            refine wa1030 d160_155 okg2 hv (by omega) (by omega) (fun h155 e155 m155 => ?_)
                            have ok155 := m155.ok
                            have M155 := Mo.tr ok Mg2 m155 (fun x e => (Or.inl e))
                            refine w_iload_n d160_156 rfl ?_
                            refine w_aload_n d160_157 rfl ?_
                            refine w_dloadS d160_158 (ok155.kd hv) (fr1030 ok155 hv) ?_
                            refine w_iload_n d160_161 rfl ?_
                            refine w_iconst d160_162 (by decide) ?_
                            refine w_isub d160_163 (by constructor <;> omega) ?_
                            rw [show ((n : Nat) : Int) - 1 = ((n - 1 : Nat) : Int) by omega]
                            refine w_ialoadV (x := (vm (n - 1) - 1)) d160_164 (gi1030 ok155 hv (by omega)) (by rw [e155, sArr, if_pos (by omega)]) ?_
                            refine w_ifne d160_165 (fun c165 => ?_) (fun c165 => ?_)
                            · refine w_iconst d160_172 (by decide) ?_
                              refine w_isub d160_173 (by constructor <;> omega) ?_
                              refine w_istore3 d160_174 rfl ?_
                              refine w_iinc5 d160_175 rfl (by constructor <;> omega) ?_
                              refine w_goto d160_178 ?_
                              have SE := fs_c (fx := th) hb gb (by rw [if_pos R]) nn (by omega)
                              refine w_less ?_ (IH21 _ (by omega) h155 (i + 1) (up vm (n - 1) (vm (n - 1) - 1)) (if fsR rs (vl, be, fw, de, th, mo) = true then vl else be) th (th - 0) n true rfl M155 (by omega) (by rw [i2, fsI_on (n := 1365 - i) (by omega) mf, SE, show 1365 - i - 1 = 1365 - (i + 1) by omega]) (by have z := fsS_ok (rs := rs) i3; rw [SE] at z; exact z) (fun j hj => by rw [e155, sArr]; show (if j = n - 1 then _ else _) = (if j = n - 1 then vm (n - 1) - 1 else vm j); rw [j3 j hj]) (fun q j hj => (by rw [m155.ai okg2 ⟨by have := K31; omega, by have := K31; omega⟩ (fun z => n01 z.symm)]; exact j4 q j hj)))
                              exact ⟨Or.inr rfl, Or.inr rfl, Or.inr rfl, Or.inr rfl, Or.inr rfl, Or.inr rfl, Or.inl rfl, trivial⟩
                            · refine w_iconst d160_168 (by decide) ?_
                              refine w_goto d160_169 ?_
                              refine w_isub d160_173 (by constructor <;> omega) ?_
                              refine w_istore3 d160_174 rfl ?_
                              refine w_iinc5 d160_175 rfl (by constructor <;> omega) ?_
                              refine w_goto d160_178 ?_
                              have SE := fs_d (fx := th) hb gb (by rw [if_pos R]) nn (by omega)
                              refine w_less ?_ (IH21 _ (by omega) h155 (i + 1) (up vm (n - 1) (vm (n - 1) - 1)) (if fsR rs (vl, be, fw, de, th, mo) = true then vl else be) th (th - 1) n true rfl M155 (by omega) (by rw [i2, fsI_on (n := 1365 - i) (by omega) mf, SE, show 1365 - i - 1 = 1365 - (i + 1) by omega]) (by have z := fsS_ok (rs := rs) i3; rw [SE] at z; exact z) (fun j hj => by rw [e155, sArr]; show (if j = n - 1 then _ else _) = (if j = n - 1 then vm (n - 1) - 1 else vm j); rw [j3 j hj]) (fun q j hj => (by rw [m155.ai okg2 ⟨by have := K31; omega, by have := K31; omega⟩ (fun z => n01 z.symm)]; exact j4 q j hj)))
                              exact ⟨Or.inr rfl, Or.inr rfl, Or.inr rfl, Or.inr rfl, Or.inr rfl, Or.inr rfl, Or.inl rfl, trivial⟩
                      · refine w_iinc2 d160_115 rfl (by constructor <;> omega) ?_
                        rw [show ((n : Nat) : Int) + (-1) = ((n - 1 : Nat) : Int) by omega]
                        refine w_aload_n d160_118 rfl ?_
                        refine w_dloadS d160_119 (okg2.kd hv) (fr1030 okg2 hv) ?_
                        refine w_iload_n d160_122 rfl ?_
                        refine w_iconst d160_123 (by decide) ?_
                        refine wa1030 d160_124 okg2 hv (by omega) (by omega) (fun h124 e124 m124 => ?_)
                        have e124 : h124 = sAI g2 (sT S 1030 v) (n - 1) (-1) := e124
                        have ok124 := m124.ok
                        have M124 := Mo.tr ok Mg2 m124 (fun x e => (Or.inl e))
                        refine w_goto d160_125 ?_
                        refine w_less ?_ (IH100 _ (by omega) h124 (up vm (n - 1) (-1)) (n - 1) rfl M124 (by omega) (by rw [j2, bk_step (by omega) (by omega)]) (fun j hj => by rw [e124, sArr]; show (if j = n - 1 then _ else _) = (if j = n - 1 then -1 else vm j); rw [j3 j hj]) (fun q j hj => (by rw [m124.ai okg2 ⟨by have := K31; omega, by have := K31; omega⟩ (fun z => n01 z.symm)]; exact j4 q j hj)))
                        exact ⟨Or.inr rfl, Or.inr rfl, Or.inr rfl, Or.inr rfl, Or.inr rfl, Or.inr rfl, Or.inl rfl, trivial⟩
                  refine w_less ?_ (L100 _ h95 vl de rfl M95 (Nat.le_refl _) rfl (fun j hj => by rw [m95.ai okg ⟨by have := K30; omega, by have := K30; omega⟩ n01]; exact i4 j hj) (fun q j hj => by rw [if_pos R, e95, AI_cpI, if_pos ⟨rfl, Nat.zero_le _, by omega⟩, show 0 + (j - 0) = j by omega]; exact i4 j hj))
                  exact ⟨Or.inr rfl, Or.inr rfl, Or.inr rfl, Or.inr rfl, Or.inr rfl, Or.inr rfl, Or.inl rfl, trivial⟩
              · have dl : de < 5 := by omega
                refine w_aload_n d160_63 rfl ?_
                refine w_dloadS d160_64 (okg.kd hv) (fr1030 okg hv) ?_
                refine w_iload_n d160_67 rfl ?_
                refine w_iconst d160_68 (by decide) ?_
                refine wa1030 d160_69 okg hv (by omega) (by omega) (fun h69 e69 m69 => ?_)
                have e69 : h69 = sAI g (sT S 1030 v) de 3 := e69
                have ok69 := m69.ok
                have M69 := Mo.tr ok Mg m69 (fun x e => (Or.inl e))
                refine w_iinc2 d160_70 rfl (by constructor <;> omega) ?_
                refine w_iinc3 d160_73 rfl (by constructor <;> omega) ?_
                have SE := fs_a (be := be) R dl
                refine w_goto d160_76 ?_
                refine w_iinc5 d160_175 rfl (by constructor <;> omega) ?_
                refine w_goto d160_178 ?_
                refine w_less ?_ (IH21 _ (by omega) h69 (i + 1) (up vl de 3) be fw (th + 1) (de + 1) mo rfl M69 (by omega) (by rw [i2, fsI_on (n := 1365 - i) (by omega) mf, SE, show 1365 - i - 1 = 1365 - (i + 1) by omega]) (by have z := fsS_ok (rs := rs) i3; rw [SE] at z; exact z) (fun j hj => by rw [e69, sArr]; show (if j = de then 3 else _) = (if j = de then 3 else vl j); rw [i4 j hj]) (fun q j hj => (by rw [m69.ai okg ⟨by have := K31; omega, by have := K31; omega⟩ (fun z => n01 z.symm)]; exact i5 q j hj)))
                exact ⟨Or.inr rfl, Or.inr rfl, Or.inr rfl, Or.inr rfl, Or.inr rfl, Or.inr rfl, Or.inl rfl, trivial⟩
  refine w_less ?_ (L21 _ h5 0 (fun _ => -1) (fun _ => 0) 6 0 0 true rfl M5 (by omega) rfl ⟨by decide, (fun j hj => absurd hj (Nat.not_lt_zero _)), by decide, by decide, by decide, by decide⟩ e5_1 (fun z => absurd z (by decide)))
  exact ⟨Or.inr rfl, Or.inr rfl, Or.inr rfl, Or.inr rfl, Or.inr rfl, Or.inr rfl, Or.inl rfl, trivial⟩
