/-! copies of definitions, flags and targets told -/
/-- a row takes all of another one -/
theorem r_Row_setAll {S : Shp} {G : Nat → Option Nat} {d : Nat} {h : Hp} {Q : Option MV → Hp → Prop} {a b : Nat} (h1 : 1 ≤ d) (ok : Ok S h) (ha : sK S a = 6) (hb : sK S b = 6) (hab : b ≠ a) (hg : (rl h b).length ≤ sC S a ∨ (rl h b).length ≤ 608)
    (kk : ∀ h', Mo S (fun x => x = a) h h' → rl h' a = rl h b → Q none h') : Cl G d 17 [vR (some a), vR (some b), vI 0, vI ((rl h b).length : Nat)] h Q :=
  r_Row_set (f := 0) h1 ok ha hb hab ⟨by omega, Nat.le_refl _⟩ (by omega) (fun h' m e => kk h' m (by rw [e]; unfold sl; simp))
theorem d94_0 : dc 94 0 = some (.aload_n 0, 1) := by decide +kernel
theorem d94_1 : dc 94 1 = some (.aload_n 1, 2) := by decide +kernel
theorem d94_2 : dc 94 2 = some (.getfield 128, 5) := by decide +kernel
theorem d94_5 : dc 94 5 = some (.putstatic 128, 8) := by decide +kernel
theorem d94_8 : dc 94 8 = some (.aload_n 0, 9) := by decide +kernel
theorem d94_9 : dc 94 9 = some (.aload_n 1, 10) := by decide +kernel
theorem d94_10 : dc 94 10 = some (.fload 129, 13) := by decide +kernel
theorem d94_13 : dc 94 13 = some (.fstore 129, 16) := by decide +kernel
theorem d94_16 : dc 94 16 = some (.aload_n 0, 17) := by decide +kernel
theorem d94_17 : dc 94 17 = some (.aload_n 1, 18) := by decide +kernel
theorem d94_18 : dc 94 18 = some (.fload 130, 21) := by decide +kernel
theorem d94_21 : dc 94 21 = some (.fstore 130, 24) := by decide +kernel
theorem d94_24 : dc 94 24 = some (.aload_n 0, 25) := by decide +kernel
theorem d94_25 : dc 94 25 = some (.aload_n 1, 26) := by decide +kernel
theorem d94_26 : dc 94 26 = some (.getfield 131, 29) := by decide +kernel
theorem d94_29 : dc 94 29 = some (.putfield 131, 32) := by decide +kernel
theorem d94_32 : dc 94 32 = some (.aload_n 0, 33) := by decide +kernel
theorem d94_33 : dc 94 33 = some (.aload_n 1, 34) := by decide +kernel
theorem d94_34 : dc 94 34 = some (.fload 132, 37) := by decide +kernel
theorem d94_37 : dc 94 37 = some (.fstore 132, 40) := by decide +kernel
theorem d94_40 : dc 94 40 = some (.aload_n 0, 41) := by decide +kernel
theorem d94_41 : dc 94 41 = some (.aload_n 1, 42) := by decide +kernel
theorem d94_42 : dc 94 42 = some (.getfield 133, 45) := by decide +kernel
theorem d94_45 : dc 94 45 = some (.putfield 133, 48) := by decide +kernel
theorem d94_48 : dc 94 48 = some (.aload_n 1, 49) := by decide +kernel
theorem d94_49 : dc 94 49 = some (.dload 134, 52) := by decide +kernel
theorem d94_52 : dc 94 52 = some (.iconst 0, 53) := by decide +kernel
theorem d94_53 : dc 94 53 = some (.aload_n 0, 54) := by decide +kernel
theorem d94_54 : dc 94 54 = some (.dload 134, 57) := by decide +kernel
theorem d94_57 : dc 94 57 = some (.iconst 0, 58) := by decide +kernel
theorem d94_58 : dc 94 58 = some (.bipush 6, 60) := by decide +kernel
theorem d94_60 : dc 94 60 = some (.invokestatic 0, 63) := by decide +kernel
theorem d94_63 : dc 94 63 = some (.aload_n 1, 64) := by decide +kernel
theorem d94_64 : dc 94 64 = some (.dload 135, 67) := by decide +kernel
theorem d94_67 : dc 94 67 = some (.iconst 0, 68) := by decide +kernel
theorem d94_68 : dc 94 68 = some (.aload_n 0, 69) := by decide +kernel
theorem d94_69 : dc 94 69 = some (.dload 135, 72) := by decide +kernel
theorem d94_72 : dc 94 72 = some (.iconst 0, 73) := by decide +kernel
theorem d94_73 : dc 94 73 = some (.bipush 6, 75) := by decide +kernel
theorem d94_75 : dc 94 75 = some (.invokestatic 0, 78) := by decide +kernel
theorem d94_78 : dc 94 78 = some (.aload_n 1, 79) := by decide +kernel
theorem d94_79 : dc 94 79 = some (.dload 136, 82) := by decide +kernel
theorem d94_82 : dc 94 82 = some (.iconst 0, 83) := by decide +kernel
theorem d94_83 : dc 94 83 = some (.aload_n 0, 84) := by decide +kernel
theorem d94_84 : dc 94 84 = some (.dload 136, 87) := by decide +kernel
theorem d94_87 : dc 94 87 = some (.iconst 0, 88) := by decide +kernel
theorem d94_88 : dc 94 88 = some (.bipush 6, 90) := by decide +kernel
theorem d94_90 : dc 94 90 = some (.invokestatic 0, 93) := by decide +kernel
theorem d94_93 : dc 94 93 = some (.aload_n 0, 94) := by decide +kernel
theorem d94_94 : dc 94 94 = some (.aload_n 1, 95) := by decide +kernel
theorem d94_95 : dc 94 95 = some (.fload 137, 98) := by decide +kernel
theorem d94_98 : dc 94 98 = some (.fstore 137, 101) := by decide +kernel
theorem d94_101 : dc 94 101 = some (.aload_n 0, 102) := by decide +kernel
theorem d94_102 : dc 94 102 = some (.aload_n 1, 103) := by decide +kernel
theorem d94_103 : dc 94 103 = some (.getfield 138, 106) := by decide +kernel
theorem d94_106 : dc 94 106 = some (.putfield 138, 109) := by decide +kernel
theorem d94_109 : dc 94 109 = some (.aload_n 0, 110) := by decide +kernel
theorem d94_110 : dc 94 110 = some (.dload 139, 113) := by decide +kernel
theorem d94_113 : dc 94 113 = some (.aload_n 1, 114) := by decide +kernel
theorem d94_114 : dc 94 114 = some (.dload 139, 117) := by decide +kernel
theorem d94_117 : dc 94 117 = some (.iconst 0, 118) := by decide +kernel
theorem d94_118 : dc 94 118 = some (.aload_n 1, 119) := by decide +kernel
theorem d94_119 : dc 94 119 = some (.dload 139, 122) := by decide +kernel
theorem d94_122 : dc 94 122 = some (.invokevirtual 13, 125) := by decide +kernel
theorem d94_125 : dc 94 125 = some (.invokevirtual 17, 128) := by decide +kernel
theorem d94_128 : dc 94 128 = some (.return_, 129) := by decide +kernel
theorem k_Def_copyFrom {S : Shp} {G : Nat → Option Nat} {d : Nat} {h : Hp} {Q : Option MV → Hp → Prop} {a : Nat} {b : Nat}  (ok : Ok S h) (h1 : 2 ≤ d) (ha : sK S a = 2) (hb : sK S b = 2) {t : TgV} {tx : List Nat} (D : DefC S h b t tx) (hab : ¬ U S a b) (hl : tx.length ≤ 608)
    (kk : ∀ h', Mo S (U S a) h h' → DefC S h' a t tx → FI h' 128 a = FI h 128 b → Q none h') : Cl G d 94 [vR (some a), vR (some b)] h Q := by
  show Wp G d 94 0 [some (vR (some a)), some (vR (some b))] [] h Q
  have hne : b ≠ a := fun q => hab (q ▸ U_refl)
  have z01 : FI h 128 b = 0 ∨ FI h 128 b = 1 := by have := rg128 ok hb; omega
  refine w_aload_n d94_0 rfl ?_
  refine w_aload_n d94_1 rfl ?_
  refine w_getI (x := (FI h 128 b)) d94_2 (ok.kd hb) (rfl : FI h 128 b = FI h 128 b) ?_
  refine wf128 d94_5 ok ha z01 (fun h5 e5 m5 => ?_)
  have ok5 := m5.ok
  have M5 := Mo.tr ok (Mo.refl (A := (fun x => U S a x)) ok) m5 (fun x e => (e ▸ U_refl))
  refine w_aload_n d94_8 rfl ?_
  refine w_aload_n d94_9 rfl ?_
  refine w_fload d94_10 (ok5.kd hb) ?_
  refine wf129 d94_13 ok5 ha (fun h13 e13 m13 => ?_)
  have ok13 := m13.ok
  have M13 := Mo.tr ok M5 m13 (fun x e => (e ▸ U_refl))
  refine w_aload_n d94_16 rfl ?_
  refine w_aload_n d94_17 rfl ?_
  refine w_fload d94_18 (ok13.kd hb) ?_
  refine wf130 d94_21 ok13 ha (fun h21 e21 m21 => ?_)
  have ok21 := m21.ok
  have M21 := Mo.tr ok M13 m21 (fun x e => (e ▸ U_refl))
  refine w_aload_n d94_24 rfl ?_
  refine w_aload_n d94_25 rfl ?_
  refine w_getI (x := (FI h 131 b)) d94_26 (ok21.kd hb) (by simp [e5, e13, e21, FI_sFI, FL_sFI, FR_sFI, AI_sFI, AL_sFI, AR_sFI, FI_sFL, FL_sFL, FR_sFL, AI_sFL, AL_sFL, AR_sFL, FI_sFR, FL_sFR, FR_sFR, AI_sFR, AL_sFR, AR_sFR, FI_sAI, FL_sAI, FR_sAI, AI_sAI, AL_sAI, AR_sAI, FI_sAL, FL_sAL, FR_sAL, AI_sAL, AL_sAL, AR_sAL, FI_sAR, FL_sAR, FR_sAR, AI_sAR, AL_sAR, AR_sAR, FI_cpI, FL_cpI, FR_cpI, AI_cpI, AL_cpI, AR_cpI, FI_cpL, FL_cpL, FR_cpL, AI_cpL, AL_cpL, AR_cpL]) ?_
  refine wf131 d94_29 ok21 ha (rg131 ok hb) (fun h29 e29 m29 => ?_)
  have ok29 := m29.ok
  have M29 := Mo.tr ok M21 m29 (fun x e => (e ▸ U_refl))
  refine w_aload_n d94_32 rfl ?_
  refine w_aload_n d94_33 rfl ?_
  refine w_fload d94_34 (ok29.kd hb) ?_
  refine wf132 d94_37 ok29 ha (fun h37 e37 m37 => ?_)
  have ok37 := m37.ok
  have M37 := Mo.tr ok M29 m37 (fun x e => (e ▸ U_refl))
  refine w_aload_n d94_40 rfl ?_
  refine w_aload_n d94_41 rfl ?_
  refine w_getI (x := (FI h 133 b)) d94_42 (ok37.kd hb) (by simp [e5, e13, e21, e29, e37, FI_sFI, FL_sFI, FR_sFI, AI_sFI, AL_sFI, AR_sFI, FI_sFL, FL_sFL, FR_sFL, AI_sFL, AL_sFL, AR_sFL, FI_sFR, FL_sFR, FR_sFR, AI_sFR, AL_sFR, AR_sFR, FI_sAI, FL_sAI, FR_sAI, AI_sAI, AL_sAI, AR_sAI, FI_sAL, FL_sAL, FR_sAL, AI_sAL, AL_sAL, AR_sAL, FI_sAR, FL_sAR, FR_sAR, AI_sAR, AL_sAR, AR_sAR, FI_cpI, FL_cpI, FR_cpI, AI_cpI, AL_cpI, AR_cpI, FI_cpL, FL_cpL, FR_cpL, AI_cpL, AL_cpL, AR_cpL]) ?_
  refine wf133 d94_45 ok37 ha (rg133 ok hb) (fun h45 e45 m45 => ?_)
  have ok45 := m45.ok
  have M45 := Mo.tr ok M37 m45 (fun x e => (e ▸ U_refl))
  refine w_aload_n d94_48 rfl ?_
  refine w_dloadS d94_49 (ok45.kd hb) (fr134 ok45 hb) ?_
  refine w_iconst d94_52 (by decide) ?_
  refine w_aload_n d94_53 rfl ?_
  refine w_dloadS d94_54 (ok45.kd ha) (fr134 ok45 ha) ?_
  refine w_iconst d94_57 (by decide) ?_
  refine w_bipush d94_58 (by decide) ?_
  refine p_cpI (f := 134) (g := 134) (n := 6) d94_60 ok45 hb ha ⟨rfl, by decide⟩ ⟨by decide, by decide, by decide, by decide⟩ ⟨by decide, by decide⟩ (fun q => hne ((ok.so.inj (by decide) (by decide)).mp q).2) (by simp) (by omega) (fun h60 e60 m60 => ?_)
  have ok60 := m60.ok
  have M60 := Mo.tr ok M45 m60 (fun x e => (e ▸ (ok.so.uT (by decide) U_refl)))
  refine w_aload_n d94_63 rfl ?_
  refine w_dloadS d94_64 (ok60.kd hb) (fr135 ok60 hb) ?_
  refine w_iconst d94_67 (by decide) ?_
  refine w_aload_n d94_68 rfl ?_
  refine w_dloadS d94_69 (ok60.kd ha) (fr135 ok60 ha) ?_
  refine w_iconst d94_72 (by decide) ?_
  refine w_bipush d94_73 (by decide) ?_
  refine p_cpL (f := 135) (g := 135) (n := 6) d94_75 ok60 hb ha ⟨rfl, rfl⟩ ⟨by decide, by decide, by decide, by decide⟩ (fun q => hne ((ok.so.inj (by decide) (by decide)).mp q).2) (by simp) (by omega) (fun h75 e75 m75 => ?_)
  have ok75 := m75.ok
  have M75 := Mo.tr ok M60 m75 (fun x e => (e ▸ (ok.so.uT (by decide) U_refl)))
  refine w_aload_n d94_78 rfl ?_
  refine w_dloadS d94_79 (ok75.kd hb) (fr136 ok75 hb) ?_
  refine w_iconst d94_82 (by decide) ?_
  refine w_aload_n d94_83 rfl ?_
  refine w_dloadS d94_84 (ok75.kd ha) (fr136 ok75 ha) ?_
  refine w_iconst d94_87 (by decide) ?_
  refine w_bipush d94_88 (by decide) ?_
  refine p_cpL (f := 136) (g := 136) (n := 6) d94_90 ok75 hb ha ⟨rfl, rfl⟩ ⟨by decide, by decide, by decide, by decide⟩ (fun q => hne ((ok.so.inj (by decide) (by decide)).mp q).2) (by simp) (by omega) (fun h90 e90 m90 => ?_)
  have ok90 := m90.ok
  have M90 := Mo.tr ok M75 m90 (fun x e => (e ▸ (ok.so.uT (by decide) U_refl)))
  refine w_aload_n d94_93 rfl ?_
  refine w_aload_n d94_94 rfl ?_
  refine w_fload d94_95 (ok90.kd hb) ?_
  refine wf137 d94_98 ok90 ha (fun h98 e98 m98 => ?_)
  have ok98 := m98.ok
  have M98 := Mo.tr ok M90 m98 (fun x e => (e ▸ U_refl))
  refine w_aload_n d94_101 rfl ?_
  refine w_aload_n d94_102 rfl ?_
  refine w_getI (x := (FI h 138 b)) d94_103 (ok98.kd hb) (by simp [e98, e90, e75, e60, e45, e37, e29, e21, e13, e5, FI_sFI, FL_sFI, FR_sFI, AI_sFI, AL_sFI, AR_sFI, FI_sFL, FL_sFL, FR_sFL, AI_sFL, AL_sFL, AR_sFL, FI_sFR, FL_sFR, FR_sFR, AI_sFR, AL_sFR, AR_sFR, FI_sAI, FL_sAI, FR_sAI, AI_sAI, AL_sAI, AR_sAI, FI_sAL, FL_sAL, FR_sAL, AI_sAL, AL_sAL, AR_sAL, FI_sAR, FL_sAR, FR_sAR, AI_sAR, AL_sAR, AR_sAR, FI_cpI, FL_cpI, FR_cpI, AI_cpI, AL_cpI, AR_cpI, FI_cpL, FL_cpL, FR_cpL, AI_cpL, AL_cpL, AR_cpL]) ?_
  refine wf138 d94_106 ok98 ha (rg138 ok hb) (fun h106 e106 m106 => ?_)
  have ok106 := m106.ok
  have M106 := Mo.tr ok M98 m106 (fun x e => (e ▸ U_refl))
  refine w_aload_n d94_109 rfl ?_
  refine w_dloadS d94_110 (ok106.kd ha) (fr139 ok106 ha) ?_
  refine w_aload_n d94_113 rfl ?_
  refine w_dloadS d94_114 (ok106.kd hb) (fr139 ok106 hb) ?_
  refine w_iconst d94_117 (by decide) ?_
  refine w_aload_n d94_118 rfl ?_
  have nT : ¬ U S a (sT S 139 b) := fun u => by
    rcases (ok.so.U_T (by decide)).mp u with q | q
    · have := kT139 ok hb; rw [← q] at this; omega
    · exact hab q
  have et : rl h106 (sT S 139 b) = rl h (sT S 139 b) := M106.rb ok (kT139 ok hb) nT
  refine w_dloadS d94_119 (ok106.kd hb) (fr139 ok106 hb) ?_
  refine w_callv1 d94_122 (by omega) rfl (ok106.kd (kT139 ok106 hb)) (by simp) (Nat.le_of_ble_eq_true rfl) ?_
  refine r_Row_size ok106 (kT139 ok106 hb) ?_
  refine w_callv4 d94_125 (by omega) rfl (ok106.kd (kT139 ok106 ha)) (by simp) (Nat.le_of_ble_eq_true rfl) ?_
  refine r_Row_setAll (by omega) ok106 (kT139 ok106 ha) (kT139 ok106 hb) (fun q => hne ((ok.so.inj (by decide) (by decide)).mp q).2) (Or.inr (by rw [et, D.2.2.2.2.2.2.2.2.1]; exact hl)) (fun h125 m125 e125_1 => ?_)
  have ok125 := m125.ok
  have M125 := Mo.tr ok M106 m125 (fun x e => (e ▸ (ok.so.uT (by decide) U_refl)))
  refine w_return d94_128 ?_
  obtain ⟨d1, d2, d3, d4, d5, d6, d7, d8, d9, o1, o2, o3, o4, o5, o6⟩ := D
  have n0 : sK S a ≠ 0 ∧ sK S a ≠ 6 := by omega
  have na : a ≠ sT S 139 a := fun q => by have := ok.so.ltT (f := 139) (a := a) (by decide); omega
  have nf : ∀ f, f < 4096 → f ≠ 139 → ¬ sT S f a = sT S 139 a := fun f hf hn q => hn ((ok.so.inj hf (by decide)).mp q).1
  have nTT : ∀ f g x y, f < 4096 → g < 4096 → f ≠ g → ¬ sT S f x = sT S g y := fun f g x y hf hg hn q => hn ((ok.so.inj hf hg).mp q).1
  have t45 := nTT 134 135 a a (by decide) (by decide) (by decide)
  have t46 := nTT 134 136 a a (by decide) (by decide) (by decide)
  have t56 := nTT 135 136 a a (by decide) (by decide) (by decide)
  have t54 := nTT 135 134 a a (by decide) (by decide) (by decide)
  have t64 := nTT 136 134 a a (by decide) (by decide) (by decide)
  have t65 := nTT 136 135 a a (by decide) (by decide) (by decide)
  have s45 := nTT 134 135 b a (by decide) (by decide) (by decide)
  have s46 := nTT 134 136 b a (by decide) (by decide) (by decide)
  have s56 := nTT 135 136 b a (by decide) (by decide) (by decide)
  have s54 := nTT 135 134 b a (by decide) (by decide) (by decide)
  have s64 := nTT 136 134 b a (by decide) (by decide) (by decide)
  have s65 := nTT 136 135 b a (by decide) (by decide) (by decide)
  have k4 := kT134 ok ha
  have k5 := kT135 ok ha
  have k6 := kT136 ok ha
  refine kk _ M125 ⟨?_, ?_, ?_, ?_, ?_, (fun i hi => ?_), ?_, ?_, ?_, o1, o2, o3, o4, o5, o6⟩ ?_
  · rw [m125.fl ok106 n0 na 129]; simp [e106, e98, e90, e75, e60, e45, e37, e29, e21, e13, e5, FI_sFI, FL_sFI, FR_sFI, AI_sFI, AL_sFI, AR_sFI, FI_sFL, FL_sFL, FR_sFL, AI_sFL, AL_sFL, AR_sFL, FI_sFR, FL_sFR, FR_sFR, AI_sFR, AL_sFR, AR_sFR, FI_sAI, FL_sAI, FR_sAI, AI_sAI, AL_sAI, AR_sAI, FI_sAL, FL_sAL, FR_sAL, AI_sAL, AL_sAL, AR_sAL, FI_sAR, FL_sAR, FR_sAR, AI_sAR, AL_sAR, AR_sAR, FI_cpI, FL_cpI, FR_cpI, AI_cpI, AL_cpI, AR_cpI, FI_cpL, FL_cpL, FR_cpL, AI_cpL, AL_cpL, AR_cpL, d1]
  · rw [m125.fl ok106 n0 na 130]; simp [e106, e98, e90, e75, e60, e45, e37, e29, e21, e13, e5, FI_sFI, FL_sFI, FR_sFI, AI_sFI, AL_sFI, AR_sFI, FI_sFL, FL_sFL, FR_sFL, AI_sFL, AL_sFL, AR_sFL, FI_sFR, FL_sFR, FR_sFR, AI_sFR, AL_sFR, AR_sFR, FI_sAI, FL_sAI, FR_sAI, AI_sAI, AL_sAI, AR_sAI, FI_sAL, FL_sAL, FR_sAL, AI_sAL, AL_sAL, AR_sAL, FI_sAR, FL_sAR, FR_sAR, AI_sAR, AL_sAR, AR_sAR, FI_cpI, FL_cpI, FR_cpI, AI_cpI, AL_cpI, AR_cpI, FI_cpL, FL_cpL, FR_cpL, AI_cpL, AL_cpL, AR_cpL, d2]
  · rw [m125.fi ok106 n0 na 131]; simp [e106, e98, e90, e75, e60, e45, e37, e29, e21, e13, e5, FI_sFI, FL_sFI, FR_sFI, AI_sFI, AL_sFI, AR_sFI, FI_sFL, FL_sFL, FR_sFL, AI_sFL, AL_sFL, AR_sFL, FI_sFR, FL_sFR, FR_sFR, AI_sFR, AL_sFR, AR_sFR, FI_sAI, FL_sAI, FR_sAI, AI_sAI, AL_sAI, AR_sAI, FI_sAL, FL_sAL, FR_sAL, AI_sAL, AL_sAL, AR_sAL, FI_sAR, FL_sAR, FR_sAR, AI_sAR, AL_sAR, AR_sAR, FI_cpI, FL_cpI, FR_cpI, AI_cpI, AL_cpI, AR_cpI, FI_cpL, FL_cpL, FR_cpL, AI_cpL, AL_cpL, AR_cpL, d3]
  · rw [m125.fl ok106 n0 na 132]; simp [e106, e98, e90, e75, e60, e45, e37, e29, e21, e13, e5, FI_sFI, FL_sFI, FR_sFI, AI_sFI, AL_sFI, AR_sFI, FI_sFL, FL_sFL, FR_sFL, AI_sFL, AL_sFL, AR_sFL, FI_sFR, FL_sFR, FR_sFR, AI_sFR, AL_sFR, AR_sFR, FI_sAI, FL_sAI, FR_sAI, AI_sAI, AL_sAI, AR_sAI, FI_sAL, FL_sAL, FR_sAL, AI_sAL, AL_sAL, AR_sAL, FI_sAR, FL_sAR, FR_sAR, AI_sAR, AL_sAR, AR_sAR, FI_cpI, FL_cpI, FR_cpI, AI_cpI, AL_cpI, AR_cpI, FI_cpL, FL_cpL, FR_cpL, AI_cpL, AL_cpL, AR_cpL, d4]
  · rw [m125.fi ok106 n0 na 133]; simp [e106, e98, e90, e75, e60, e45, e37, e29, e21, e13, e5, FI_sFI, FL_sFI, FR_sFI, AI_sFI, AL_sFI, AR_sFI, FI_sFL, FL_sFL, FR_sFL, AI_sFL, AL_sFL, AR_sFL, FI_sFR, FL_sFR, FR_sFR, AI_sFR, AL_sFR, AR_sFR, FI_sAI, FL_sAI, FR_sAI, AI_sAI, AL_sAI, AR_sAI, FI_sAL, FL_sAL, FR_sAL, AI_sAL, AL_sAL, AR_sAL, FI_sAR, FL_sAR, FR_sAR, AI_sAR, AL_sAR, AR_sAR, FI_cpI, FL_cpI, FR_cpI, AI_cpI, AL_cpI, AR_cpI, FI_cpL, FL_cpL, FR_cpL, AI_cpL, AL_cpL, AR_cpL, d5]
  · have hi6 : i < 6 := Nat.lt_of_lt_of_le hi o4.1
    obtain ⟨b1, b2, b3⟩ := d6 i hi
    rw [m125.ai ok106 (by omega) (nf 134 (by decide) (by decide)), m125.al ok106 (by omega) (nf 135 (by decide) (by decide)), m125.al ok106 (by omega) (nf 136 (by decide) (by decide))]
    simp [e106, e98, e90, e75, e60, e45, e37, e29, e21, e13, e5, FI_sFI, FL_sFI, FR_sFI, AI_sFI, AL_sFI, AR_sFI, FI_sFL, FL_sFL, FR_sFL, AI_sFL, AL_sFL, AR_sFL, FI_sFR, FL_sFR, FR_sFR, AI_sFR, AL_sFR, AR_sFR, FI_sAI, FL_sAI, FR_sAI, AI_sAI, AL_sAI, AR_sAI, FI_sAL, FL_sAL, FR_sAL, AI_sAL, AL_sAL, AR_sAL, FI_sAR, FL_sAR, FR_sAR, AI_sAR, AL_sAR, AR_sAR, FI_cpI, FL_cpI, FR_cpI, AI_cpI, AL_cpI, AR_cpI, FI_cpL, FL_cpL, FR_cpL, AI_cpL, AL_cpL, AR_cpL, hi6, b1, b2, b3, t45, t46, t56, t54, t64, t65, s45, s46, s56, s54, s64, s65, hne]
  · rw [m125.fl ok106 n0 na 137]; simp [e106, e98, e90, e75, e60, e45, e37, e29, e21, e13, e5, FI_sFI, FL_sFI, FR_sFI, AI_sFI, AL_sFI, AR_sFI, FI_sFL, FL_sFL, FR_sFL, AI_sFL, AL_sFL, AR_sFL, FI_sFR, FL_sFR, FR_sFR, AI_sFR, AL_sFR, AR_sFR, FI_sAI, FL_sAI, FR_sAI, AI_sAI, AL_sAI, AR_sAI, FI_sAL, FL_sAL, FR_sAL, AI_sAL, AL_sAL, AR_sAL, FI_sAR, FL_sAR, FR_sAR, AI_sAR, AL_sAR, AR_sAR, FI_cpI, FL_cpI, FR_cpI, AI_cpI, AL_cpI, AR_cpI, FI_cpL, FL_cpL, FR_cpL, AI_cpL, AL_cpL, AR_cpL, d7]
  · rw [m125.fi ok106 n0 na 138]; simp [e106, e98, e90, e75, e60, e45, e37, e29, e21, e13, e5, FI_sFI, FL_sFI, FR_sFI, AI_sFI, AL_sFI, AR_sFI, FI_sFL, FL_sFL, FR_sFL, AI_sFL, AL_sFL, AR_sFL, FI_sFR, FL_sFR, FR_sFR, AI_sFR, AL_sFR, AR_sFR, FI_sAI, FL_sAI, FR_sAI, AI_sAI, AL_sAI, AR_sAI, FI_sAL, FL_sAL, FR_sAL, AI_sAL, AL_sAL, AR_sAL, FI_sAR, FL_sAR, FR_sAR, AI_sAR, AL_sAR, AR_sAR, FI_cpI, FL_cpI, FR_cpI, AI_cpI, AL_cpI, AR_cpI, FI_cpL, FL_cpL, FR_cpL, AI_cpL, AL_cpL, AR_cpL, d8]
  · rw [e125_1, et, d9]
  · rw [m125.fi ok106 n0 na 128]; simp [e106, e98, e90, e75, e60, e45, e37, e29, e21, e13, e5, FI_sFI, FL_sFI, FR_sFI, AI_sFI, AL_sFI, AR_sFI, FI_sFL, FL_sFL, FR_sFL, AI_sFL, AL_sFL, AR_sFL, FI_sFR, FL_sFR, FR_sFR, AI_sFR, AL_sFR, AR_sFR, FI_sAI, FL_sAI, FR_sAI, AI_sAI, AL_sAI, AR_sAI, FI_sAL, FL_sAL, FR_sAL, AI_sAL, AL_sAL, AR_sAL, FI_sAR, FL_sAR, FR_sAR, AI_sAR, AL_sAR, AR_sAR, FI_cpI, FL_cpI, FR_cpI, AI_cpI, AL_cpI, AR_cpI, FI_cpL, FL_cpL, FR_cpL, AI_cpL, AL_cpL, AR_cpL]
