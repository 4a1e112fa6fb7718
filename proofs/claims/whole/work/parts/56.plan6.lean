/-! a plan copied -/
theorem dec_len (n : Nat) (hn : n ≤ 9999) : (dec n).length ≤ 10 := by
  unfold dec dgs
  rw [List.length_map, List.length_range]
  have : ∀ f k, kdF n f k ≤ f + k := by
    intro f
    induction f with
    | zero => intro k; unfold kdF; omega
    | succ f ih =>
      intro k
      unfold kdF
      split
      · have := ih (k + 1); omega
      · omega
  have := this 9 0
  omega
theorem insTxt_len : ∀ (l : List InV), (∀ v ∈ l, v.2.length ≤ 12) → (insTxt l).length ≤ 14 * l.length
  | [], _ => Nat.le_refl _
  | [v], h => by
    have := h v List.mem_cons_self
    unfold insTxt inTxt
    split <;> simp <;> omega
  | v :: w :: l, h => by
    have := h v List.mem_cons_self
    have ih := insTxt_len (w :: l) (fun q hq => h q (List.mem_cons_of_mem _ hq))
    unfold insTxt inTxt
    split <;> simp at ih ⊢ <;> omega
theorem okI.len {l : List InV} (o : okI l) : (insTxt l).length ≤ 84 := by
  have := insTxt_len l (fun v hv => by
    obtain ⟨i, hi, e⟩ := List.mem_iff_getElem.mp hv
    have := (o.2 i hi).1.1
    unfold inN at this
    rw [List.getD_eq_getElem?_getD, List.getElem?_eq_getElem hi] at this
    rw [← e]
    exact this)
  have := o.1
  omega
theorem tgTxt_len {t : TgV} (o1 : okN (tgN t)) (o2 : okN (tgR t)) (o3 : okN (tgW t)) (o4 : okI (tgI t)) (o5 : okN (tgC t)) (o6 : tgK t ≤ 9999) : (tgTxt t).length ≤ 200 := by
  have := o4.len
  have := dec_len (tgK t) o6
  have := o1.1
  have := o2.1
  have := o3.1
  have := o5.1
  unfold tgTxt
  split <;> split <;> simp <;> omega
theorem DefC.len {S : Shp} {h : Hp} {a : Nat} {t : TgV} {tx : List Nat} (D : DefC S h a t tx) : (tgTxt t).length ≤ 200 := by
  obtain ⟨d1, d2, d3, d4, d5, d6, d7, d8, d9, o1, o2, o3, o4, o5, o6⟩ := D
  exact tgTxt_len o1 o2 o3 o4 o5 o6
theorem d97_0 : dc 97 0 = some (.aload_n 0, 1) := by decide +kernel
theorem d97_1 : dc 97 1 = some (.aload_n 1, 2) := by decide +kernel
theorem d97_2 : dc 97 2 = some (.getfield 384, 5) := by decide +kernel
theorem d97_5 : dc 97 5 = some (.putfield 384, 8) := by decide +kernel
theorem d97_8 : dc 97 8 = some (.aload_n 1, 9) := by decide +kernel
theorem d97_9 : dc 97 9 = some (.dload 385, 12) := by decide +kernel
theorem d97_12 : dc 97 12 = some (.iconst 0, 13) := by decide +kernel
theorem d97_13 : dc 97 13 = some (.aload_n 0, 14) := by decide +kernel
theorem d97_14 : dc 97 14 = some (.dload 385, 17) := by decide +kernel
theorem d97_17 : dc 97 17 = some (.iconst 0, 18) := by decide +kernel
theorem d97_18 : dc 97 18 = some (.bipush 16, 20) := by decide +kernel
theorem d97_20 : dc 97 20 = some (.invokestatic 0, 23) := by decide +kernel
theorem d97_23 : dc 97 23 = some (.aload_n 1, 24) := by decide +kernel
theorem d97_24 : dc 97 24 = some (.dload 386, 27) := by decide +kernel
theorem d97_27 : dc 97 27 = some (.iconst 0, 28) := by decide +kernel
theorem d97_28 : dc 97 28 = some (.aload_n 0, 29) := by decide +kernel
theorem d97_29 : dc 97 29 = some (.dload 386, 32) := by decide +kernel
theorem d97_32 : dc 97 32 = some (.iconst 0, 33) := by decide +kernel
theorem d97_33 : dc 97 33 = some (.bipush 16, 35) := by decide +kernel
theorem d97_35 : dc 97 35 = some (.invokestatic 0, 38) := by decide +kernel
theorem d97_38 : dc 97 38 = some (.iconst 0, 39) := by decide +kernel
theorem d97_39 : dc 97 39 = some (.istore_n 2, 40) := by decide +kernel
theorem d97_40 : dc 97 40 = some (.iload_n 2, 41) := by decide +kernel
theorem d97_41 : dc 97 41 = some (.aload_n 0, 42) := by decide +kernel
theorem d97_42 : dc 97 42 = some (.getfield 384, 45) := by decide +kernel
theorem d97_45 : dc 97 45 = some (.if_icmp .ge ((79 : Nat) : Int), 48) := by decide +kernel
theorem d97_48 : dc 97 48 = some (.aload_n 0, 49) := by decide +kernel
theorem d97_49 : dc 97 49 = some (.dload 387, 52) := by decide +kernel
theorem d97_52 : dc 97 52 = some (.iload_n 2, 53) := by decide +kernel
theorem d97_53 : dc 97 53 = some (.aaload, 54) := by decide +kernel
theorem d97_54 : dc 97 54 = some (.aload_n 1, 55) := by decide +kernel
theorem d97_55 : dc 97 55 = some (.dload 387, 58) := by decide +kernel
theorem d97_58 : dc 97 58 = some (.iload_n 2, 59) := by decide +kernel
theorem d97_59 : dc 97 59 = some (.aaload, 60) := by decide +kernel
theorem d97_60 : dc 97 60 = some (.iconst 0, 61) := by decide +kernel
theorem d97_61 : dc 97 61 = some (.aload_n 1, 62) := by decide +kernel
theorem d97_62 : dc 97 62 = some (.dload 387, 65) := by decide +kernel
theorem d97_65 : dc 97 65 = some (.iload_n 2, 66) := by decide +kernel
theorem d97_66 : dc 97 66 = some (.aaload, 67) := by decide +kernel
theorem d97_67 : dc 97 67 = some (.invokevirtual 13, 70) := by decide +kernel
theorem d97_70 : dc 97 70 = some (.invokevirtual 17, 73) := by decide +kernel
theorem d97_73 : dc 97 73 = some (.iinc 2 1, 76) := by decide +kernel
theorem d97_76 : dc 97 76 = some (.goto ((40 : Nat) : Int), 79) := by decide +kernel
theorem d97_79 : dc 97 79 = some (.aload_n 0, 80) := by decide +kernel
theorem d97_80 : dc 97 80 = some (.aload_n 1, 81) := by decide +kernel
theorem d97_81 : dc 97 81 = some (.getfield 388, 84) := by decide +kernel
theorem d97_84 : dc 97 84 = some (.putfield 388, 87) := by decide +kernel
theorem d97_87 : dc 97 87 = some (.aload_n 1, 88) := by decide +kernel
theorem d97_88 : dc 97 88 = some (.dload 389, 91) := by decide +kernel
theorem d97_91 : dc 97 91 = some (.iconst 0, 92) := by decide +kernel
theorem d97_92 : dc 97 92 = some (.aload_n 0, 93) := by decide +kernel
theorem d97_93 : dc 97 93 = some (.dload 389, 96) := by decide +kernel
theorem d97_96 : dc 97 96 = some (.iconst 0, 97) := by decide +kernel
theorem d97_97 : dc 97 97 = some (.bipush 6, 99) := by decide +kernel
theorem d97_99 : dc 97 99 = some (.invokestatic 0, 102) := by decide +kernel
theorem d97_102 : dc 97 102 = some (.aload_n 1, 103) := by decide +kernel
theorem d97_103 : dc 97 103 = some (.dload 390, 106) := by decide +kernel
theorem d97_106 : dc 97 106 = some (.iconst 0, 107) := by decide +kernel
theorem d97_107 : dc 97 107 = some (.aload_n 0, 108) := by decide +kernel
theorem d97_108 : dc 97 108 = some (.dload 390, 111) := by decide +kernel
theorem d97_111 : dc 97 111 = some (.iconst 0, 112) := by decide +kernel
theorem d97_112 : dc 97 112 = some (.bipush 6, 114) := by decide +kernel
theorem d97_114 : dc 97 114 = some (.invokestatic 0, 117) := by decide +kernel
theorem d97_117 : dc 97 117 = some (.aload_n 0, 118) := by decide +kernel
theorem d97_118 : dc 97 118 = some (.aload_n 1, 119) := by decide +kernel
theorem d97_119 : dc 97 119 = some (.getfield 391, 122) := by decide +kernel
theorem d97_122 : dc 97 122 = some (.putfield 391, 125) := by decide +kernel
theorem d97_125 : dc 97 125 = some (.iconst 0, 126) := by decide +kernel
theorem d97_126 : dc 97 126 = some (.istore_n 2, 127) := by decide +kernel
theorem d97_127 : dc 97 127 = some (.iload_n 2, 128) := by decide +kernel
theorem d97_128 : dc 97 128 = some (.aload_n 0, 129) := by decide +kernel
theorem d97_129 : dc 97 129 = some (.getfield 391, 132) := by decide +kernel
theorem d97_132 : dc 97 132 = some (.if_icmp .ge ((156 : Nat) : Int), 135) := by decide +kernel
theorem d97_135 : dc 97 135 = some (.aload_n 0, 136) := by decide +kernel
theorem d97_136 : dc 97 136 = some (.dload 392, 139) := by decide +kernel
theorem d97_139 : dc 97 139 = some (.iload_n 2, 140) := by decide +kernel
theorem d97_140 : dc 97 140 = some (.aaload, 141) := by decide +kernel
theorem d97_141 : dc 97 141 = some (.aload_n 1, 142) := by decide +kernel
theorem d97_142 : dc 97 142 = some (.dload 392, 145) := by decide +kernel
theorem d97_145 : dc 97 145 = some (.iload_n 2, 146) := by decide +kernel
theorem d97_146 : dc 97 146 = some (.aaload, 147) := by decide +kernel
theorem d97_147 : dc 97 147 = some (.invokevirtual 94, 150) := by decide +kernel
theorem d97_150 : dc 97 150 = some (.iinc 2 1, 153) := by decide +kernel
theorem d97_153 : dc 97 153 = some (.goto ((127 : Nat) : Int), 156) := by decide +kernel
theorem d97_156 : dc 97 156 = some (.return_, 157) := by decide +kernel
theorem k_Plan_copyFrom {S : Shp} {G : Nat → Option Nat} {d : Nat} {h : Hp} {Q : Option MV → Hp → Prop} {a : Nat} {b : Nat}  (ok : Ok S h) (h1 : 3 ≤ d) (ha : sK S a = 4) (hb : sK S b = 4) {fl fl0 : List (List Nat × List Nat)} {gs : List (List Nat × Nat)} {ts : List (Bool × TgV)} (fb : FilC S h b fl) (gb : GsC S h b gs) (tb : TsC S h b ts) (fa : FilC S h a fl0) (hab : ¬ U S a b) (hba : ¬ U S b a)
    (kk : ∀ h', Mo S (U S a) h h' → FilC S h' a fl → GsC S h' a gs → TsC S h' a ts → Q none h') : Cl G d 97 [vR (some a), vR (some b)] h Q := by
  show Wp G d 97 0 [some (vR (some a)), some (vR (some b)), none] [] h Q
  have hne : b ≠ a := fun q => hab (q ▸ U_refl)
  have dis : ∀ y, U S b y → ¬ U S a y := fun y u v => by
    rcases U_tree u v with w | w
    · exact hba w
    · exact hab w
  have fb0 := fb
  have gb0 := gb
  have tb0 := tb
  obtain ⟨σ, s1, s2, f1, f2, f3⟩ := fb
  obtain ⟨g1, g2, g3⟩ := gb
  obtain ⟨t1, t2, t3⟩ := tb
  obtain ⟨τ, r1, r2, -⟩ := fa
  have na : a ≠ b := fun q => hne q.symm
  have nf : ∀ f, f < 4096 → a ≠ sT S f a := fun f hf q => ok.so.pT hf q.symm
  have ne : ∀ f g x y, f < 4096 → g < 4096 → f ≠ g → sT S f x ≠ sT S g y := fun f g x y hf hg hfg q => hfg ((ok.so.inj hf hg).mp q).1
  have k5 := kT385 ok ha
  have k6 := kT386 ok ha
  have k7 := kT387 ok ha
  have k9 := kT389 ok ha
  have k0 := kT390 ok ha
  refine w_aload_n d97_0 rfl ?_
  refine w_aload_n d97_1 rfl ?_
  refine w_getI (x := (fl.length : Int)) d97_2 (ok.kd hb) f1 ?_
  refine wf384 d97_5 ok ha (by omega) (fun h5 e5 m5 => ?_)
  have ok5 := m5.ok
  have M5 := Mo.tr ok (Mo.refl (A := (fun x => U S a x)) ok) m5 (fun x e => (e ▸ U_refl))
  refine w_aload_n d97_8 rfl ?_
  refine w_dloadS d97_9 (ok5.kd hb) (fr385 ok5 hb) ?_
  refine w_iconst d97_12 (by decide) ?_
  refine w_aload_n d97_13 rfl ?_
  refine w_dloadS d97_14 (ok5.kd ha) (fr385 ok5 ha) ?_
  refine w_iconst d97_17 (by decide) ?_
  refine w_bipush d97_18 (by decide) ?_
  refine p_cpL (f := 385) (g := 385) (n := 16) d97_20 ok5 hb ha ⟨rfl, rfl⟩ ⟨by decide, by decide, by decide, by decide⟩ (fun q => hne ((ok.so.inj (by decide) (by decide)).mp q).2) (by simp) (by omega) (fun h20 e20 m20 => ?_)
  have ok20 := m20.ok
  have M20 := Mo.tr ok M5 m20 (fun x e => (e ▸ (ok.so.uT (by decide) U_refl)))
  refine w_aload_n d97_23 rfl ?_
  refine w_dloadS d97_24 (ok20.kd hb) (fr386 ok20 hb) ?_
  refine w_iconst d97_27 (by decide) ?_
  refine w_aload_n d97_28 rfl ?_
  refine w_dloadS d97_29 (ok20.kd ha) (fr386 ok20 ha) ?_
  refine w_iconst d97_32 (by decide) ?_
  refine w_bipush d97_33 (by decide) ?_
  refine p_cpL (f := 386) (g := 386) (n := 16) d97_35 ok20 hb ha ⟨rfl, rfl⟩ ⟨by decide, by decide, by decide, by decide⟩ (fun q => hne ((ok.so.inj (by decide) (by decide)).mp q).2) (by simp) (by omega) (fun h35 e35 m35 => ?_)
  have ok35 := m35.ok
  have M35 := Mo.tr ok M20 m35 (fun x e => (e ▸ (ok.so.uT (by decide) U_refl)))
  refine w_iconst d97_38 (by decide) ?_
  refine w_istore2 d97_39 rfl ?_
  have L40 : ∀ (m40 : Nat) (g : Hp) (i : Nat), fl.length - i = m40 → Mo S (fun x => U S a x) h g → (i ≤ fl.length) → (Mo S (fun x => ∃ j, j < 16 ∧ x = sE S (sT S 387 a) j) h35 g) → (∀ j, j < i → rl g (sE S (sT S 387 a) (τ j)) = fB fl j) → Wp G d 97 40 [some (vR (some a)), some (vR (some b)), some (vI (i : Nat))] [] g Q := by
    intro m40
    induction m40 using Nat.strongRecOn with | ind m40 IH40 => ?_
    intro g i hm40 Mg i1 N i3
    have okg := Mg.ok
    have A1 : FI g 384 a = fl.length := by
      rw [N.fi ok35 (by omega) (fun ⟨j, hj, q⟩ => ok.so.pE (f := 387) (by decide) (by omega) q.symm) 384]
      simp [e35, e20, e5, FI_sFI, FL_sFI, FR_sFI, AI_sFI, AL_sFI, AR_sFI, FI_sFL, FL_sFL, FR_sFL, AI_sFL, AL_sFL, AR_sFL, FI_sFR, FL_sFR, FR_sFR, AI_sFR, AL_sFR, AR_sFR, FI_sAI, FL_sAI, FR_sAI, AI_sAI, AL_sAI, AR_sAI, FI_sAL, FL_sAL, FR_sAL, AI_sAL, AL_sAL, AR_sAL, FI_sAR, FL_sAR, FR_sAR, AI_sAR, AL_sAR, AR_sAR, FI_cpI, FL_cpI, FR_cpI, AI_cpI, AL_cpI, AR_cpI, FI_cpL, FL_cpL, FR_cpL, AI_cpL, AL_cpL, AR_cpL]
    refine w_iload_n d97_40 rfl ?_
    refine w_aload_n d97_41 rfl ?_
    refine w_getI (x := (fl.length : Int)) d97_42 (okg.kd ha) A1 ?_
    refine w_icmpge d97_45 (fun c45 => ?_) (fun c45 => ?_)
    · have F1 : FilC S g a fl := by
        refine ⟨τ, fun j hj => ⟨(r1 j hj).1, ?_⟩, r2, A1, f2, fun j hj => ?_⟩
        · rw [N.ar ok35 (by omega) (fun ⟨q, hq, e⟩ => ok.so.neE (by decide) (by omega) e)]; simp [e35, e20, e5, FI_sFI, FL_sFI, FR_sFI, AI_sFI, AL_sFI, AR_sFI, FI_sFL, FL_sFL, FR_sFL, AI_sFL, AL_sFL, AR_sFL, FI_sFR, FL_sFR, FR_sFR, AI_sFR, AL_sFR, AR_sFR, FI_sAI, FL_sAI, FR_sAI, AI_sAI, AL_sAI, AR_sAI, FI_sAL, FL_sAL, FR_sAL, AI_sAL, AL_sAL, AR_sAL, FI_sAR, FL_sAR, FR_sAR, AI_sAR, AL_sAR, AR_sAR, FI_cpI, FL_cpI, FR_cpI, AI_cpI, AL_cpI, AR_cpI, FI_cpL, FL_cpL, FR_cpL, AI_cpL, AL_cpL, AR_cpL]; exact (r1 j hj).2
        · obtain ⟨b1, b2, b3, b4, b5⟩ := f3 j hj
          rw [N.al ok35 (by omega) (fun ⟨q, hq, e⟩ => ok.so.neE (by decide) (by omega) e), N.al ok35 (by omega) (fun ⟨q, hq, e⟩ => ok.so.neE (by decide) (by omega) e)]
          have j16 : j < 16 := by omega
          have n56 := ne 385 386 a a (by decide) (by decide) (by decide)
          have n65 := ne 386 385 b a (by decide) (by decide) (by decide)
          refine ⟨?_, ?_, i3 j (by omega), b4, b5⟩
          · simp [e35, e20, e5, FI_sFI, FL_sFI, FR_sFI, AI_sFI, AL_sFI, AR_sFI, FI_sFL, FL_sFL, FR_sFL, AI_sFL, AL_sFL, AR_sFL, FI_sFR, FL_sFR, FR_sFR, AI_sFR, AL_sFR, AR_sFR, FI_sAI, FL_sAI, FR_sAI, AI_sAI, AL_sAI, AR_sAI, FI_sAL, FL_sAL, FR_sAL, AI_sAL, AL_sAL, AR_sAL, FI_sAR, FL_sAR, FR_sAR, AI_sAR, AL_sAR, AR_sAR, FI_cpI, FL_cpI, FR_cpI, AI_cpI, AL_cpI, AR_cpI, FI_cpL, FL_cpL, FR_cpL, AI_cpL, AL_cpL, AR_cpL, n56, j16, b1]
          · simp [e35, e20, e5, FI_sFI, FL_sFI, FR_sFI, AI_sFI, AL_sFI, AR_sFI, FI_sFL, FL_sFL, FR_sFL, AI_sFL, AL_sFL, AR_sFL, FI_sFR, FL_sFR, FR_sFR, AI_sFR, AL_sFR, AR_sFR, FI_sAI, FL_sAI, FR_sAI, AI_sAI, AL_sAI, AR_sAI, FI_sAL, FL_sAL, FR_sAL, AI_sAL, AL_sAL, AR_sAL, FI_sAR, FL_sAR, FR_sAR, AI_sAR, AL_sAR, AR_sAR, FI_cpI, FL_cpI, FR_cpI, AI_cpI, AL_cpI, AR_cpI, FI_cpL, FL_cpL, FR_cpL, AI_cpL, AL_cpL, AR_cpL, n56.symm, n65, j16, b2]
      refine w_aload_n d97_79 rfl ?_
      refine w_aload_n d97_80 rfl ?_
      refine w_getI (x := (gs.length : Int)) d97_81 (okg.kd hb) (by rw [Mg.fi ok (by omega) hab 388]; exact g1) ?_
      refine wf388 d97_84 okg ha (by omega) (fun h84 e84 m84 => ?_)
      have ok84 := m84.ok
      have M84 := Mo.tr ok Mg m84 (fun x e => (e ▸ U_refl))
      refine w_aload_n d97_87 rfl ?_
      refine w_dloadS d97_88 (ok84.kd hb) (fr389 ok84 hb) ?_
      refine w_iconst d97_91 (by decide) ?_
      refine w_aload_n d97_92 rfl ?_
      refine w_dloadS d97_93 (ok84.kd ha) (fr389 ok84 ha) ?_
      refine w_iconst d97_96 (by decide) ?_
      refine w_bipush d97_97 (by decide) ?_
      refine p_cpL (f := 389) (g := 389) (n := 6) d97_99 ok84 hb ha ⟨rfl, rfl⟩ ⟨by decide, by decide, by decide, by decide⟩ (fun q => hne ((ok.so.inj (by decide) (by decide)).mp q).2) (by simp) (by omega) (fun h99 e99 m99 => ?_)
      have ok99 := m99.ok
      have M99 := Mo.tr ok M84 m99 (fun x e => (e ▸ (ok.so.uT (by decide) U_refl)))
      refine w_aload_n d97_102 rfl ?_
      refine w_dloadS d97_103 (ok99.kd hb) (fr390 ok99 hb) ?_
      refine w_iconst d97_106 (by decide) ?_
      refine w_aload_n d97_107 rfl ?_
      refine w_dloadS d97_108 (ok99.kd ha) (fr390 ok99 ha) ?_
      refine w_iconst d97_111 (by decide) ?_
      refine w_bipush d97_112 (by decide) ?_
      refine p_cpI (f := 390) (g := 390) (n := 6) d97_114 ok99 hb ha ⟨rfl, by decide⟩ ⟨by decide, by decide, by decide, by decide⟩ ⟨by decide, by decide⟩ (fun q => hne ((ok.so.inj (by decide) (by decide)).mp q).2) (by simp) (by omega) (fun h114 e114 m114 => ?_)
      have ok114 := m114.ok
      have M114 := Mo.tr ok M99 m114 (fun x e => (e ▸ (ok.so.uT (by decide) U_refl)))
      refine w_aload_n d97_117 rfl ?_
      refine w_aload_n d97_118 rfl ?_
      refine w_getI (x := (ts.length : Int)) d97_119 (ok114.kd hb) (by rw [M114.fi ok (by omega) hab 391]; exact t1) ?_
      refine wf391 d97_122 ok114 ha (by omega) (fun h122 e122 m122 => ?_)
      have ok122 := m122.ok
      have M122 := Mo.tr ok M114 m122 (fun x e => (e ▸ U_refl))
      refine w_iconst d97_125 (by decide) ?_
      refine w_istore2 d97_126 rfl ?_
      have L127 : ∀ (m127 : Nat) (u : Hp) (i : Nat), ts.length - i = m127 → Mo S (fun x => U S a x) h u → (i ≤ ts.length) → (Mo S (fun x => ∃ j, j < 14 ∧ U S (sE S (sT S 392 a) j) x) h122 u) → (∀ j, j < i → FI u 128 (sE S (sT S 392 a) j) = b2i (tH ts j) ∧ DefC S u (sE S (sT S 392 a) j) (tD ts j) (tgTxt (tD ts j)) ∧ tgOk (tD ts j)) → Wp G d 97 127 [some (vR (some a)), some (vR (some b)), some (vI (i : Nat))] [] u Q := by
        intro m127
        induction m127 using Nat.strongRecOn with | ind m127 IH127 => ?_
        intro u i hm127 Mu j1 N2 j3
        have oku := Mu.ok
        have A2 : FI u 391 a = ts.length := by
          rw [N2.fi ok122 (by omega) (fun ⟨j, hj, q⟩ => (ok.so.defN (f := 385) (by omega) (by decide) (by decide)).1 q) 391, e122, FI_sFI, if_pos ⟨rfl, rfl⟩]
        refine w_iload_n d97_127 rfl ?_
        refine w_aload_n d97_128 rfl ?_
        refine w_getI (x := (ts.length : Int)) d97_129 (oku.kd ha) A2 ?_
        refine w_icmpge d97_132 (fun c132 => ?_) (fun c132 => ?_)
        · have nD : ∀ f, f < 4096 → f ≠ 392 → ¬ (∃ j, j < 14 ∧ U S (sE S (sT S 392 a) j) (sT S f a)) := fun f hf hn ⟨j, hj, q⟩ => (ok.so.defN (by omega) hf hn).2.1 q
          have nP : ¬ (∃ j, j < 14 ∧ U S (sE S (sT S 392 a) j) a) := fun ⟨j, hj, q⟩ => (ok.so.defN (f := 385) (by omega) (by decide) (by decide)).1 q
          have F2 : FilC S u a fl := by
            refine ((((F1.fr okg m84 ha (Or.inr (by rw [e84]; rfl)) (fun f hf q => ok.so.pT (by omega) q) (fun i hi q => ok.so.pE (by decide) (by omega) q)).fr ok84 m99 ha (Or.inl (nf _ (by decide))) (fun f hf => ne _ _ _ _ (by omega) (by omega) (by omega)) (fun i hi q => ok.so.neE (by decide) (by omega) q.symm)).fr ok99 m114 ha (Or.inl (nf _ (by decide))) (fun f hf => ne _ _ _ _ (by omega) (by omega) (by omega)) (fun i hi q => ok.so.neE (by decide) (by omega) q.symm)).fr ok114 m122 ha (Or.inr (by rw [e122]; rfl)) (fun f hf q => ok.so.pT (by omega) q) (fun i hi q => ok.so.pE (by decide) (by omega) q)).fr ok122 N2 ha (Or.inl nP) (fun f hf => nD f (by omega) (by omega)) (fun i hi ⟨j, hj, q⟩ => (ok.so.defN (f := 387) (by omega) (by decide) (by decide)).2.2 i (by omega) q)
          have G2 : GsC S u a gs := by
            refine ⟨?_, g2, fun i hi => ?_⟩
            · rw [N2.fi ok122 (by omega) nP 388]; simp [e122, e114, e99, e84, FI_sFI, FL_sFI, FR_sFI, AI_sFI, AL_sFI, AR_sFI, FI_sFL, FL_sFL, FR_sFL, AI_sFL, AL_sFL, AR_sFL, FI_sFR, FL_sFR, FR_sFR, AI_sFR, AL_sFR, AR_sFR, FI_sAI, FL_sAI, FR_sAI, AI_sAI, AL_sAI, AR_sAI, FI_sAL, FL_sAL, FR_sAL, AI_sAL, AL_sAL, AR_sAL, FI_sAR, FL_sAR, FR_sAR, AI_sAR, AL_sAR, AR_sAR, FI_cpI, FL_cpI, FR_cpI, AI_cpI, AL_cpI, AR_cpI, FI_cpL, FL_cpL, FR_cpL, AI_cpL, AL_cpL, AR_cpL]
            · obtain ⟨b1, b2, b3⟩ := g3 i hi
              have i6 : i < 6 := by omega
              have n90 := ne 389 390 a a (by decide) (by decide) (by decide)
              have n91 := ne 390 389 b a (by decide) (by decide) (by decide)
              have kb9 := kT389 ok hb
              have kb0 := kT390 ok hb
              have z1 := congrFun (Mg.al ok (x := sT S 389 b) (by omega) (dis _ (ok.so.uT (by decide) U_refl))) i
              have z2 := congrFun (Mg.ai ok (x := sT S 390 b) (by omega) (dis _ (ok.so.uT (by decide) U_refl))) i
              rw [N2.al ok122 (by omega) (nD 389 (by decide) (by decide)), N2.ai ok122 (by omega) (nD 390 (by decide) (by decide))]
              refine ⟨?_, ?_, b3⟩
              · simp [e122, e114, e99, e84, FI_sFI, FL_sFI, FR_sFI, AI_sFI, AL_sFI, AR_sFI, FI_sFL, FL_sFL, FR_sFL, AI_sFL, AL_sFL, AR_sFL, FI_sFR, FL_sFR, FR_sFR, AI_sFR, AL_sFR, AR_sFR, FI_sAI, FL_sAI, FR_sAI, AI_sAI, AL_sAI, AR_sAI, FI_sAL, FL_sAL, FR_sAL, AI_sAL, AL_sAL, AR_sAL, FI_sAR, FL_sAR, FR_sAR, AI_sAR, AL_sAR, AR_sAR, FI_cpI, FL_cpI, FR_cpI, AI_cpI, AL_cpI, AR_cpI, FI_cpL, FL_cpL, FR_cpL, AI_cpL, AL_cpL, AR_cpL, n90, i6, z1, b1]
              · simp [e122, e114, e99, e84, FI_sFI, FL_sFI, FR_sFI, AI_sFI, AL_sFI, AR_sFI, FI_sFL, FL_sFL, FR_sFL, AI_sFL, AL_sFL, AR_sFL, FI_sFR, FL_sFR, FR_sFR, AI_sFR, AL_sFR, AR_sFR, FI_sAI, FL_sAI, FR_sAI, AI_sAI, AL_sAI, AR_sAI, FI_sAL, FL_sAL, FR_sAL, AI_sAL, AL_sAL, AR_sAL, FI_sAR, FL_sAR, FR_sAR, AI_sAR, AL_sAR, AR_sAR, FI_cpI, FL_cpI, FR_cpI, AI_cpI, AL_cpI, AR_cpI, FI_cpL, FL_cpL, FR_cpL, AI_cpL, AL_cpL, AR_cpL, n90, n90.symm, n91, i6, z2, b2]
          refine w_return d97_156 ?_
          exact kk u Mu F2 G2 ⟨A2, t2, fun j hj => j3 j (by omega)⟩
        · have hi : i < ts.length := by omega
          have tbu := tb0.mo ok Mu hb dis
          obtain ⟨b1, b2, b3⟩ := tbu.2.2 i hi
          have u14 : U S b (sE S (sT S 392 b) i) := ok.so.uE (by omega) (ok.so.uT (by decide) U_refl)
          have v14 : U S a (sE S (sT S 392 a) i) := ok.so.uE (by omega) (ok.so.uT (by decide) U_refl)
          refine w_aload_n d97_135 rfl ?_
          refine w_dloadS d97_136 (oku.kd ha) (fr392 oku ha) ?_
          refine w_iload_n d97_139 rfl ?_
          have k140 := kE392 oku ha (j := i) (by omega)
          refine w_aaloadSN d97_140 (gi392 oku ha (by omega)) (er392 oku ha (by omega)) ?_
          refine w_aload_n d97_141 rfl ?_
          refine w_dloadS d97_142 (oku.kd hb) (fr392 oku hb) ?_
          refine w_iload_n d97_145 rfl ?_
          have k146 := kE392 oku hb (j := i) (by omega)
          refine w_aaloadSN d97_146 (gi392 oku hb (by omega)) (er392 oku hb (by omega)) ?_
          refine w_callv2 d97_147 (by omega) rfl (oku.kd k140) (by simp) (Nat.le_of_ble_eq_true rfl) ?_
          refine k_Def_copyFrom oku (by omega) k140 k146 b2 (fun q => dis _ u14 (U_trans v14 q)) (by have := b2.len; omega) (fun h147 m147 e147_1 e147_2 => ?_)
          have ok147 := m147.ok
          have M147 := Mo.tr ok Mu m147 (fun x u => (U_trans (ok.so.uE (by omega) (ok.so.uT (by decide) U_refl)) u))
          refine w_iinc2 d97_150 rfl (by constructor <;> omega) ?_
          refine w_goto d97_153 ?_
          refine w_less ?_ (IH127 _ (by omega) h147 (i + 1) rfl M147 (by omega) (N2.tr ok122 m147 (fun x e => ⟨i, by omega, e⟩)) (fun j hj => by
        by_cases q : j = i
        · subst q; exact ⟨by rw [e147_2]; exact b1, e147_1, b3⟩
        · have kj := kE392 ok ha (j := j) (by omega)
          obtain ⟨c1, c2, c3⟩ := j3 j (by omega)
          exact ⟨by rw [m147.fi oku (by omega) (fun z => ok.so.defD (by omega) (by omega) q U_refl z) 128]; exact c1, c2.mo oku m147 kj (fun y v => ok.so.defD (by omega) (by omega) q v), c3⟩))
          exact ⟨Or.inr rfl, Or.inr rfl, Or.inr rfl, trivial⟩
      refine w_less ?_ (L127 _ h122 0 rfl M122 (by omega) (Mo.refl ok122) (fun j hj => absurd hj (by omega)))
      exact ⟨Or.inr rfl, Or.inr rfl, Or.inr rfl, trivial⟩
    · have hi : i < fl.length := by omega
      have fbg := fb0.mo ok Mg hb dis
      obtain ⟨b1, b2, b3, b4, b5⟩ := f3 i hi
      have ra : AR g (sT S 387 a) i = some (sE S (sT S 387 a) (τ i)) := by
        rw [N.ar ok35 (by omega) (fun ⟨q, hq, e⟩ => ok.so.neE (by decide) (by omega) e)]; simp [e35, e20, e5, FI_sFI, FL_sFI, FR_sFI, AI_sFI, AL_sFI, AR_sFI, FI_sFL, FL_sFL, FR_sFL, AI_sFL, AL_sFL, AR_sFL, FI_sFR, FL_sFR, FR_sFR, AI_sFR, AL_sFR, AR_sFR, FI_sAI, FL_sAI, FR_sAI, AI_sAI, AL_sAI, AR_sAI, FI_sAL, FL_sAL, FR_sAL, AI_sAL, AL_sAL, AR_sAL, FI_sAR, FL_sAR, FR_sAR, AI_sAR, AL_sAR, AR_sAR, FI_cpI, FL_cpI, FR_cpI, AI_cpI, AL_cpI, AR_cpI, FI_cpL, FL_cpL, FR_cpL, AI_cpL, AL_cpL, AR_cpL]; exact (r1 i (by omega)).2
      have rb : AR g (sT S 387 b) i = some (sE S (sT S 387 b) (σ i)) := by
        have kb := kT387 ok hb
        rw [Mg.ar ok (by omega) (dis _ (ok.so.uT (by decide) U_refl))]; exact (s1 i (by omega)).2
      have kA := kE387 ok ha (r1 i (by omega)).1
      have kB := kE387 ok hb (s1 i (by omega)).1
      have eb : rl g (sE S (sT S 387 b) (σ i)) = fB fl i := by rw [Mg.rb ok kB (dis _ (ok.so.uE (by have := (s1 i (by omega)).1; omega) (ok.so.uT (by decide) U_refl)))]; exact b3
      have s16 := (s1 i (by omega)).1
      have r16 := (r1 i (by omega)).1
      refine w_aload_n d97_48 rfl ?_
      refine w_dloadS d97_49 (okg.kd ha) (fr387 okg ha) ?_
      refine w_iload_n d97_52 rfl ?_
      refine w_aaloadSN d97_53 (gi387 okg ha (by omega)) ra ?_
      refine w_aload_n d97_54 rfl ?_
      refine w_dloadS d97_55 (okg.kd hb) (fr387 okg hb) ?_
      refine w_iload_n d97_58 rfl ?_
      refine w_aaloadSN d97_59 (gi387 okg hb (by omega)) rb ?_
      refine w_iconst d97_60 (by decide) ?_
      refine w_aload_n d97_61 rfl ?_
      refine w_dloadS d97_62 (okg.kd hb) (fr387 okg hb) ?_
      refine w_iload_n d97_65 rfl ?_
      refine w_aaloadSN d97_66 (gi387 okg hb (by omega)) rb ?_
      refine w_callv1 d97_67 (by omega) rfl (okg.kd kB) (by simp) (Nat.le_of_ble_eq_true rfl) ?_
      refine r_Row_size okg kB ?_
      refine w_callv4 d97_70 (by omega) rfl (okg.kd kA) (by simp) (Nat.le_of_ble_eq_true rfl) ?_
      refine r_Row_setAll (by omega) okg kA kB (fun q => hne ((ok.so.inj (by decide) (by decide)).mp ((ok.so.injE (by omega) (by omega)).mp q).1).2) (Or.inr (by rw [eb]; omega)) (fun h70 m70 e70_1 => ?_)
      have ok70 := m70.ok
      have M70 := Mo.tr ok Mg m70 (fun x e => (e ▸ (ok.so.uE (by omega) (ok.so.uT (by decide) U_refl))))
      refine w_iinc2 d97_73 rfl (by constructor <;> omega) ?_
      refine w_goto d97_76 ?_
      refine w_less ?_ (IH40 _ (by omega) h70 (i + 1) rfl M70 (by omega) (N.tr ok35 m70 (fun x e => ⟨τ i, r16, e⟩)) (fun j hj => by
        by_cases q : j = i
        · subst q; rw [e70_1]; exact eb
        · rw [m70.rb okg (kE387 ok ha (r1 j (by omega)).1) (fun z => q (r2 j i (by omega) (by omega) ((ok.so.injE (by have := (r1 j (by omega)).1; omega) (by omega)).mp z).2))]; exact i3 j (by omega)))
      exact ⟨Or.inr rfl, Or.inr rfl, Or.inr rfl, trivial⟩
  refine w_less ?_ (L40 _ h35 0 rfl M35 (by omega) (Mo.refl ok35) (fun j hj => absurd hj (by omega)))
  exact ⟨Or.inr rfl, Or.inr rfl, Or.inr rfl, trivial⟩
