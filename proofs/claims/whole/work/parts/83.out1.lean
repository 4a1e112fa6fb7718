/-! outcomes -/
/-- an outcome: whether it is built, its output, its face, why not -/
abbrev OutV : Type := Bool × List Nat × List Nat × List Nat
def oO (v : OutV) : List Nat := v.2.1
def oF (v : OutV) : List Nat := v.2.2.1
def oW (v : OutV) : List Nat := v.2.2.2
def OuC (S : Shp) (h : Hp) (a : Nat) (v : OutV) : Prop := FI h 256 a = b2i v.1 ∧ rl h (sT S 257 a) = oO v ∧ rl h (sT S 258 a) = oF v ∧ rl h (sT S 259 a) = oW v ∧ (oO v).length ≤ 600 ∧ (oF v).length ≤ 600 ∧ (oW v).length ≤ 600
def PaC (S : Shp) (h : Hp) (a : Nat) (ps : List Int64) : Prop := FI h 261 a = ps.length ∧ ps.length ≤ 7 ∧ ∀ i, i < ps.length → AL h (sT S 260 a) i = ps.getD i 0
/-- the cells of an outcome -/
def OA (S : Shp) (a x : Nat) : Prop := x = a ∨ x = sT S 257 a ∨ x = sT S 258 a ∨ x = sT S 259 a ∨ x = sT S 260 a
section OUT
variable {S : Shp} {h h' : Hp} {A : Nat → Prop} {a : Nat} {v : OutV} {ps : List Int64}
theorem OuC.mo (ok : Ok S h) (m : Mo S A h h') (ha : sK S a = 3) (h0 : ¬ A a) (h1 : ¬ A (sT S 257 a)) (h2 : ¬ A (sT S 258 a)) (h3 : ¬ A (sT S 259 a)) (D : OuC S h a v) : OuC S h' a v := by
  obtain ⟨d1, d2, d3, d4, d5⟩ := D
  exact ⟨(m.fi ok (by omega) h0 256).trans d1, (m.rb ok (kT257 ok ha) h1).trans d2, (m.rb ok (kT258 ok ha) h2).trans d3, (m.rb ok (kT259 ok ha) h3).trans d4, d5⟩
theorem OuC.m1 (ok : Ok S h) (m : Mo S A h h') (ha : sK S a = 3) (h1 : ¬ A (sT S 257 a)) (h2 : ¬ A (sT S 258 a)) (h3 : ¬ A (sT S 259 a)) (h0 : FI h' 256 a = FI h 256 a) (D : OuC S h a v) : OuC S h' a v := by
  obtain ⟨d1, d2, d3, d4, d5⟩ := D
  exact ⟨h0.trans d1, (m.rb ok (kT257 ok ha) h1).trans d2, (m.rb ok (kT258 ok ha) h2).trans d3, (m.rb ok (kT259 ok ha) h3).trans d4, d5⟩
theorem PaC.mo (ok : Ok S h) (m : Mo S A h h') (ha : sK S a = 3) (h0 : ¬ A a) (h1 : ¬ A (sT S 260 a)) (D : PaC S h a ps) : PaC S h' a ps := by
  obtain ⟨d1, d2, d3⟩ := D
  have k := kT260 ok ha
  exact ⟨(m.fi ok (by omega) h0 261).trans d1, d2, fun i hi => (congrFun (m.al ok (by omega) h1) i).trans (d3 i hi)⟩
theorem OuC.u (ok : Ok S h) (m : Mo S A h h') (ha : sK S a = 3) (hA : ∀ y, U S a y → ¬ A y) (D : OuC S h a v) : OuC S h' a v := D.mo ok m ha (hA _ U_refl) (hA _ (ok.so.uT (by decide) U_refl)) (hA _ (ok.so.uT (by decide) U_refl)) (hA _ (ok.so.uT (by decide) U_refl))
theorem PaC.u (ok : Ok S h) (m : Mo S A h h') (ha : sK S a = 3) (hA : ∀ y, U S a y → ¬ A y) (D : PaC S h a ps) : PaC S h' a ps := D.mo ok m ha (hA _ U_refl) (hA _ (ok.so.uT (by decide) U_refl))
theorem Mo.fl_u (ok : Ok S h) (m : Mo S A h h') (ha : sK S a = 3) (hA : ∀ y, U S a y → ¬ A y) : FL h' 262 a = FL h 262 a := m.fl ok (by omega) (hA _ U_refl) 262
/-- what an outcome's own cells are: apart from each other -/
theorem SOk.ou (so : SOk S) {f g a b : Nat} (hf : f < 4096) (hg : g < 4096) (hn : f ≠ g ∨ a ≠ b) : sT S f a ≠ sT S g b := fun z => by
  obtain ⟨z1, z2⟩ := (so.inj hf hg).mp z
  rcases hn with q | q
  · exact q z1
  · exact q z2
end OUT
theorem d57_0 : dc 57 0 = some (.aload_n 0, 1) := by decide +kernel
theorem d57_1 : dc 57 1 = some (.iconst 0, 2) := by decide +kernel
theorem d57_2 : dc 57 2 = some (.putstatic 256, 5) := by decide +kernel
theorem d57_5 : dc 57 5 = some (.aload_n 0, 6) := by decide +kernel
theorem d57_6 : dc 57 6 = some (.dload 257, 9) := by decide +kernel
theorem d57_9 : dc 57 9 = some (.invokevirtual 18, 12) := by decide +kernel
theorem d57_12 : dc 57 12 = some (.aload_n 0, 13) := by decide +kernel
theorem d57_13 : dc 57 13 = some (.dload 258, 16) := by decide +kernel
theorem d57_16 : dc 57 16 = some (.invokevirtual 18, 19) := by decide +kernel
theorem d57_19 : dc 57 19 = some (.aload_n 0, 20) := by decide +kernel
theorem d57_20 : dc 57 20 = some (.dload 259, 23) := by decide +kernel
theorem d57_23 : dc 57 23 = some (.invokevirtual 18, 26) := by decide +kernel
theorem d57_26 : dc 57 26 = some (.aload_n 0, 27) := by decide +kernel
theorem d57_27 : dc 57 27 = some (.iconst 0, 28) := by decide +kernel
theorem d57_28 : dc 57 28 = some (.putfield 261, 31) := by decide +kernel
theorem d57_31 : dc 57 31 = some (.aload_n 0, 32) := by decide +kernel
theorem d57_32 : dc 57 32 = some (.lconst 0, 33) := by decide +kernel
theorem d57_33 : dc 57 33 = some (.fstore 262, 36) := by decide +kernel
theorem d57_36 : dc 57 36 = some (.return_, 37) := by decide +kernel
theorem k_Ou_clear {S : Shp} {G : Nat → Option Nat} {d : Nat} {h : Hp} {Q : Option MV → Hp → Prop} {a : Nat}  (ok : Ok S h) (h1 : 1 ≤ d) (ha : sK S a = 3) 
    (kk : ∀ h', Mo S (OA S a) h h' → OuC S h' a (false, [], [], []) → PaC S h' a [] → FL h' 262 a = 0 → Q none h') : Cl G d 57 [vR (some a)] h Q := by
  show Wp G d 57 0 [some (vR (some a))] [] h Q
  have pT : ∀ f, f < 4096 → a ≠ sT S f a := fun f hf z => ok.so.pT hf z.symm
  have ne : ∀ f g, f < 4096 → g < 4096 → f ≠ g → sT S f a ≠ sT S g a := fun f g hf hg q => ok.so.ou hf hg (Or.inl q)
  have K7 := kT257 ok ha
  have K8 := kT258 ok ha
  have K9 := kT259 ok ha
  have K0 := kT260 ok ha
  refine w_aload_n d57_0 rfl ?_
  refine w_iconst d57_1 (by decide) ?_
  refine wf256 d57_2 ok ha (by omega) (fun h2 e2 m2 => ?_)
  have ok2 := m2.ok
  have M2 := Mo.tr ok (Mo.refl (A := (fun x => x = a ∨ x = (sT S 257 a) ∨ x = (sT S 258 a) ∨ x = (sT S 259 a) ∨ x = (sT S 260 a))) ok) m2 (fun x e => (Or.inl e))
  refine w_aload_n d57_5 rfl ?_
  refine w_dloadS d57_6 (ok2.kd ha) (fr257 ok2 ha) ?_
  refine w_callv1 d57_9 (by omega) rfl (ok2.kd (kT257 ok2 ha)) (by simp) (Nat.le_of_ble_eq_true rfl) ?_
  refine r_Row_clear ok2 (kT257 ok2 ha) (fun h9 m9 e9_1 e9_2 => ?_)
  have ok9 := m9.ok
  have M9 := Mo.tr ok M2 m9 (fun x e => (Or.inr (Or.inl e)))
  refine w_aload_n d57_12 rfl ?_
  refine w_dloadS d57_13 (ok9.kd ha) (fr258 ok9 ha) ?_
  refine w_callv1 d57_16 (by omega) rfl (ok9.kd (kT258 ok9 ha)) (by simp) (Nat.le_of_ble_eq_true rfl) ?_
  refine r_Row_clear ok9 (kT258 ok9 ha) (fun h16 m16 e16_1 e16_2 => ?_)
  have ok16 := m16.ok
  have M16 := Mo.tr ok M9 m16 (fun x e => (Or.inr (Or.inr (Or.inl e))))
  refine w_aload_n d57_19 rfl ?_
  refine w_dloadS d57_20 (ok16.kd ha) (fr259 ok16 ha) ?_
  refine w_callv1 d57_23 (by omega) rfl (ok16.kd (kT259 ok16 ha)) (by simp) (Nat.le_of_ble_eq_true rfl) ?_
  refine r_Row_clear ok16 (kT259 ok16 ha) (fun h23 m23 e23_1 e23_2 => ?_)
  have ok23 := m23.ok
  have M23 := Mo.tr ok M16 m23 (fun x e => (Or.inr (Or.inr (Or.inr (Or.inl e)))))
  refine w_aload_n d57_26 rfl ?_
  refine w_iconst d57_27 (by decide) ?_
  refine wf261 d57_28 ok23 ha (by omega) (fun h28 e28 m28 => ?_)
  have ok28 := m28.ok
  have M28 := Mo.tr ok M23 m28 (fun x e => (Or.inl e))
  refine w_aload_n d57_31 rfl ?_
  refine w_lconst d57_32 ?_
  refine wf262 d57_33 ok28 ha (fun h33 e33 m33 => ?_)
  have ok33 := m33.ok
  have M33 := Mo.tr ok M28 m33 (fun x e => (Or.inl e))
  refine w_return d57_36 ?_
  refine kk h33 M33 ⟨?_, ?_, ?_, ?_, by decide, by decide, by decide⟩ ⟨?_, by decide, fun i hi => absurd hi (Nat.not_lt_zero _)⟩ ?_
  · rw [e33, FI_sFL, e28, FI_sFI, if_neg (fun z => absurd z.1 (by decide)), m23.fi ok16 (by omega) (pT 259 (by decide)) 256, m16.fi ok9 (by omega) (pT 258 (by decide)) 256, m9.fi ok2 (by omega) (pT 257 (by decide)) 256, e2, FI_sFI, if_pos ⟨rfl, rfl⟩]; first | done | rfl
  · rw [m33.rb ok28 K7 (Ne.symm (pT 257 (by decide))), m28.rb ok23 K7 (Ne.symm (pT 257 (by decide))), m23.rb ok16 K7 (ne 257 259 (by decide) (by decide) (by decide)), m16.rb ok9 K7 (ne 257 258 (by decide) (by decide) (by decide))]; exact e9_1
  · rw [m33.rb ok28 K8 (Ne.symm (pT 258 (by decide))), m28.rb ok23 K8 (Ne.symm (pT 258 (by decide))), m23.rb ok16 K8 (ne 258 259 (by decide) (by decide) (by decide))]; exact e16_1
  · rw [m33.rb ok28 K9 (Ne.symm (pT 259 (by decide))), m28.rb ok23 K9 (Ne.symm (pT 259 (by decide)))]; exact e23_1
  · rw [e33, FI_sFL, e28, FI_sFI, if_pos ⟨rfl, rfl⟩]; first | done | rfl
  · rw [e33, FL_sFL, if_pos ⟨rfl, rfl⟩]; rfl
theorem d111_0 : dc 111 0 = some (.aload_n 0, 1) := by decide +kernel
theorem d111_1 : dc 111 1 = some (.aload_n 1, 2) := by decide +kernel
theorem d111_2 : dc 111 2 = some (.getfield 256, 5) := by decide +kernel
theorem d111_5 : dc 111 5 = some (.putstatic 256, 8) := by decide +kernel
theorem d111_8 : dc 111 8 = some (.aload_n 0, 9) := by decide +kernel
theorem d111_9 : dc 111 9 = some (.dload 257, 12) := by decide +kernel
theorem d111_12 : dc 111 12 = some (.aload_n 1, 13) := by decide +kernel
theorem d111_13 : dc 111 13 = some (.dload 257, 16) := by decide +kernel
theorem d111_16 : dc 111 16 = some (.iconst 0, 17) := by decide +kernel
theorem d111_17 : dc 111 17 = some (.aload_n 1, 18) := by decide +kernel
theorem d111_18 : dc 111 18 = some (.dload 257, 21) := by decide +kernel
theorem d111_21 : dc 111 21 = some (.invokevirtual 13, 24) := by decide +kernel
theorem d111_24 : dc 111 24 = some (.invokevirtual 17, 27) := by decide +kernel
theorem d111_27 : dc 111 27 = some (.aload_n 0, 28) := by decide +kernel
theorem d111_28 : dc 111 28 = some (.dload 258, 31) := by decide +kernel
theorem d111_31 : dc 111 31 = some (.aload_n 1, 32) := by decide +kernel
theorem d111_32 : dc 111 32 = some (.dload 258, 35) := by decide +kernel
theorem d111_35 : dc 111 35 = some (.iconst 0, 36) := by decide +kernel
theorem d111_36 : dc 111 36 = some (.aload_n 1, 37) := by decide +kernel
theorem d111_37 : dc 111 37 = some (.dload 258, 40) := by decide +kernel
theorem d111_40 : dc 111 40 = some (.invokevirtual 13, 43) := by decide +kernel
theorem d111_43 : dc 111 43 = some (.invokevirtual 17, 46) := by decide +kernel
theorem d111_46 : dc 111 46 = some (.aload_n 0, 47) := by decide +kernel
theorem d111_47 : dc 111 47 = some (.dload 259, 50) := by decide +kernel
theorem d111_50 : dc 111 50 = some (.aload_n 1, 51) := by decide +kernel
theorem d111_51 : dc 111 51 = some (.dload 259, 54) := by decide +kernel
theorem d111_54 : dc 111 54 = some (.iconst 0, 55) := by decide +kernel
theorem d111_55 : dc 111 55 = some (.aload_n 1, 56) := by decide +kernel
theorem d111_56 : dc 111 56 = some (.dload 259, 59) := by decide +kernel
theorem d111_59 : dc 111 59 = some (.invokevirtual 13, 62) := by decide +kernel
theorem d111_62 : dc 111 62 = some (.invokevirtual 17, 65) := by decide +kernel
theorem d111_65 : dc 111 65 = some (.return_, 66) := by decide +kernel
theorem k_Ou_takeResult {S : Shp} {G : Nat → Option Nat} {d : Nat} {h : Hp} {Q : Option MV → Hp → Prop} {a : Nat} {b : Nat}  (ok : Ok S h) (h1 : 3 ≤ d) (ha : sK S a = 3) (hb : sK S b = 3) {v : OutV} (ob : OuC S h b v) (hab : a ≠ b)
    (kk : ∀ h', Mo S (OA S a) h h' → OuC S h' a v → (∀ ps, PaC S h a ps → PaC S h' a ps) → FL h' 262 a = FL h 262 a → Q none h') : Cl G d 111 [vR (some a), vR (some b)] h Q := by
  show Wp G d 111 0 [some (vR (some a)), some (vR (some b))] [] h Q
  have pT : ∀ f, f < 4096 → a ≠ sT S f a := fun f hf z => ok.so.pT hf z.symm
  have ne : ∀ f g, f < 4096 → g < 4096 → f ≠ g → sT S f a ≠ sT S g a := fun f g hf hg q => ok.so.ou hf hg (Or.inl q)
  have K7 := kT257 ok ha
  have K8 := kT258 ok ha
  have K9 := kT259 ok ha
  have K0 := kT260 ok ha
  have hba := hab.symm
  have K7b := kT257 ok hb
  have K8b := kT258 ok hb
  have K9b := kT259 ok hb
  have nk : ∀ f g, f < 4096 → g < 4096 → sT S f b ≠ sT S g a := fun f g hf hg => ok.so.ou hf hg (Or.inr hba)
  obtain ⟨o1, o2, o3, o4, o5, o6, o7⟩ := ob
  have c2 : b ≠ sT S 257 a := fun z => by rw [z] at hb; omega
  have c3 : b ≠ sT S 258 a := fun z => by rw [z] at hb; omega
  have c4 : b ≠ sT S 259 a := fun z => by rw [z] at hb; omega
  have d7 : a ≠ sT S 257 b := fun z => by rw [z] at ha; omega
  have d8 : a ≠ sT S 258 b := fun z => by rw [z] at ha; omega
  have d9 : a ≠ sT S 259 b := fun z => by rw [z] at ha; omega
  refine w_aload_n d111_0 rfl ?_
  refine w_aload_n d111_1 rfl ?_
  refine w_getI (x := (b2i v.1)) d111_2 (ok.kd hb) o1 ?_
  refine wf256 d111_5 ok ha (b2i_01 v.1) (fun h5 e5 m5 => ?_)
  have ok5 := m5.ok
  have M5 := Mo.tr ok (Mo.refl (A := (fun x => x = a ∨ x = (sT S 257 a) ∨ x = (sT S 258 a) ∨ x = (sT S 259 a) ∨ x = (sT S 260 a))) ok) m5 (fun x e => (Or.inl e))
  have w7 : rl h5 (sT S 257 b) = oO v := (m5.rb ok K7b (Ne.symm d7)).trans o2
  have w8 : rl h5 (sT S 258 b) = oF v := (m5.rb ok K8b (Ne.symm d8)).trans o3
  have w9 : rl h5 (sT S 259 b) = oW v := (m5.rb ok K9b (Ne.symm d9)).trans o4
  refine w_aload_n d111_8 rfl ?_
  refine w_dloadS d111_9 (ok5.kd ha) (fr257 ok5 ha) ?_
  refine w_aload_n d111_12 rfl ?_
  refine w_dloadS d111_13 (ok5.kd hb) (fr257 ok5 hb) ?_
  refine w_iconst d111_16 (by decide) ?_
  refine w_aload_n d111_17 rfl ?_
  refine w_dloadS d111_18 (ok5.kd hb) (fr257 ok5 hb) ?_
  refine w_callv1 d111_21 (by omega) rfl (ok5.kd (kT257 ok5 hb)) (by simp) (Nat.le_of_ble_eq_true rfl) ?_
  refine r_Row_size ok5 (kT257 ok5 hb) ?_
  rw [w7]
  refine w_callv4 d111_24 (by omega) rfl (ok5.kd (kT257 ok5 ha)) (by simp) (Nat.le_of_ble_eq_true rfl) ?_
  refine r_Row_set (f := 0) (e := (oO v).length) (by omega) ok5 (kT257 ok5 ha) (kT257 ok5 hb) (nk 257 257 (by decide) (by decide)) ⟨by omega, by rw [w7]; exact Nat.le_refl _⟩ (Or.inr (by omega)) (fun h24 m24 e24_1 => ?_)
  rw [w7, sl_all] at e24_1
  have ok24 := m24.ok
  have M24 := Mo.tr ok M5 m24 (fun x e => (Or.inr (Or.inl e)))
  refine w_aload_n d111_27 rfl ?_
  refine w_dloadS d111_28 (ok24.kd ha) (fr258 ok24 ha) ?_
  refine w_aload_n d111_31 rfl ?_
  refine w_dloadS d111_32 (ok24.kd hb) (fr258 ok24 hb) ?_
  refine w_iconst d111_35 (by decide) ?_
  refine w_aload_n d111_36 rfl ?_
  refine w_dloadS d111_37 (ok24.kd hb) (fr258 ok24 hb) ?_
  refine w_callv1 d111_40 (by omega) rfl (ok24.kd (kT258 ok24 hb)) (by simp) (Nat.le_of_ble_eq_true rfl) ?_
  refine r_Row_size ok24 (kT258 ok24 hb) ?_
  rw [m24.rb ok5 K8b (nk 258 257 (by decide) (by decide)), w8]
  refine w_callv4 d111_43 (by omega) rfl (ok24.kd (kT258 ok24 ha)) (by simp) (Nat.le_of_ble_eq_true rfl) ?_
  refine r_Row_set (f := 0) (e := (oF v).length) (by omega) ok24 (kT258 ok24 ha) (kT258 ok24 hb) (nk 258 258 (by decide) (by decide)) ⟨by omega, by rw [m24.rb ok5 K8b (nk 258 257 (by decide) (by decide)), w8]; exact Nat.le_refl _⟩ (Or.inr (by omega)) (fun h43 m43 e43_1 => ?_)
  rw [m24.rb ok5 K8b (nk 258 257 (by decide) (by decide)), w8, sl_all] at e43_1
  have ok43 := m43.ok
  have M43 := Mo.tr ok M24 m43 (fun x e => (Or.inr (Or.inr (Or.inl e))))
  refine w_aload_n d111_46 rfl ?_
  refine w_dloadS d111_47 (ok43.kd ha) (fr259 ok43 ha) ?_
  refine w_aload_n d111_50 rfl ?_
  refine w_dloadS d111_51 (ok43.kd hb) (fr259 ok43 hb) ?_
  refine w_iconst d111_54 (by decide) ?_
  refine w_aload_n d111_55 rfl ?_
  refine w_dloadS d111_56 (ok43.kd hb) (fr259 ok43 hb) ?_
  refine w_callv1 d111_59 (by omega) rfl (ok43.kd (kT259 ok43 hb)) (by simp) (Nat.le_of_ble_eq_true rfl) ?_
  refine r_Row_size ok43 (kT259 ok43 hb) ?_
  rw [m43.rb ok24 K9b (nk 259 258 (by decide) (by decide)), m24.rb ok5 K9b (nk 259 257 (by decide) (by decide)), w9]
  refine w_callv4 d111_62 (by omega) rfl (ok43.kd (kT259 ok43 ha)) (by simp) (Nat.le_of_ble_eq_true rfl) ?_
  refine r_Row_set (f := 0) (e := (oW v).length) (by omega) ok43 (kT259 ok43 ha) (kT259 ok43 hb) (nk 259 259 (by decide) (by decide)) ⟨by omega, by rw [m43.rb ok24 K9b (nk 259 258 (by decide) (by decide)), m24.rb ok5 K9b (nk 259 257 (by decide) (by decide)), w9]; exact Nat.le_refl _⟩ (Or.inr (by omega)) (fun h62 m62 e62_1 => ?_)
  rw [m43.rb ok24 K9b (nk 259 258 (by decide) (by decide)), m24.rb ok5 K9b (nk 259 257 (by decide) (by decide)), w9, sl_all] at e62_1
  have ok62 := m62.ok
  have M62 := Mo.tr ok M43 m62 (fun x e => (Or.inr (Or.inr (Or.inr (Or.inl e)))))
  refine w_return d111_65 ?_
  refine kk h62 M62 ⟨?_, ?_, ?_, e62_1, o5, o6, o7⟩ (fun ps D => ⟨?_, D.2.1, fun i hi => ?_⟩) ?_
  · rw [m62.fi ok43 (by omega) (pT 259 (by decide)) 256, m43.fi ok24 (by omega) (pT 258 (by decide)) 256, m24.fi ok5 (by omega) (pT 257 (by decide)) 256, e5, FI_sFI, if_pos ⟨rfl, rfl⟩]
  · rw [m62.rb ok43 K7 (ne 257 259 (by decide) (by decide) (by decide)), m43.rb ok24 K7 (ne 257 258 (by decide) (by decide) (by decide))]; exact e24_1
  · rw [m62.rb ok43 K8 (ne 258 259 (by decide) (by decide) (by decide))]; exact e43_1
  · rw [m62.fi ok43 (by omega) (pT 259 (by decide)) 261, m43.fi ok24 (by omega) (pT 258 (by decide)) 261, m24.fi ok5 (by omega) (pT 257 (by decide)) 261, e5, FI_sFI, if_neg (fun z => absurd z.1 (by decide))]; exact D.1
  · rw [m62.al ok43 (by omega) (ne 260 259 (by decide) (by decide) (by decide)), m43.al ok24 (by omega) (ne 260 258 (by decide) (by decide) (by decide)), m24.al ok5 (by omega) (ne 260 257 (by decide) (by decide) (by decide)), e5]; exact D.2.2 i hi
  · rw [m62.fl ok43 (by omega) (pT 259 (by decide)) 262, m43.fl ok24 (by omega) (pT 258 (by decide)) 262, m24.fl ok5 (by omega) (pT 257 (by decide)) 262, e5]; first | done | rfl
theorem d134_0 : dc 134 0 = some (.aload_n 1, 1) := by decide +kernel
theorem d134_1 : dc 134 1 = some (.dload 260, 4) := by decide +kernel
theorem d134_4 : dc 134 4 = some (.iconst 0, 5) := by decide +kernel
theorem d134_5 : dc 134 5 = some (.aload_n 0, 6) := by decide +kernel
theorem d134_6 : dc 134 6 = some (.dload 260, 9) := by decide +kernel
theorem d134_9 : dc 134 9 = some (.iconst 0, 10) := by decide +kernel
theorem d134_10 : dc 134 10 = some (.aload_n 0, 11) := by decide +kernel
theorem d134_11 : dc 134 11 = some (.dload 260, 14) := by decide +kernel
theorem d134_14 : dc 134 14 = some (.arraylength, 15) := by decide +kernel
theorem d134_15 : dc 134 15 = some (.invokestatic 0, 18) := by decide +kernel
theorem d134_18 : dc 134 18 = some (.aload_n 0, 19) := by decide +kernel
theorem d134_19 : dc 134 19 = some (.aload_n 1, 20) := by decide +kernel
theorem d134_20 : dc 134 20 = some (.getfield 261, 23) := by decide +kernel
theorem d134_23 : dc 134 23 = some (.putfield 261, 26) := by decide +kernel
theorem d134_26 : dc 134 26 = some (.return_, 27) := by decide +kernel
theorem k_Ou_takeParts {S : Shp} {G : Nat → Option Nat} {d : Nat} {h : Hp} {Q : Option MV → Hp → Prop} {a : Nat} {b : Nat}  (ok : Ok S h) (h1 : 1 ≤ d) (ha : sK S a = 3) (hb : sK S b = 3) {ps : List Int64} (pb : PaC S h b ps) (hab : a ≠ b)
    (kk : ∀ h', Mo S (OA S a) h h' → PaC S h' a ps → (∀ v, OuC S h a v → OuC S h' a v) → FL h' 262 a = FL h 262 a → Q none h') : Cl G d 134 [vR (some a), vR (some b)] h Q := by
  show Wp G d 134 0 [some (vR (some a)), some (vR (some b))] [] h Q
  have pT : ∀ f, f < 4096 → a ≠ sT S f a := fun f hf z => ok.so.pT hf z.symm
  have ne : ∀ f g, f < 4096 → g < 4096 → f ≠ g → sT S f a ≠ sT S g a := fun f g hf hg q => ok.so.ou hf hg (Or.inl q)
  have K7 := kT257 ok ha
  have K8 := kT258 ok ha
  have K9 := kT259 ok ha
  have K0 := kT260 ok ha
  have hba := hab.symm
  have K0b := kT260 ok hb
  obtain ⟨o1, o2, o3⟩ := pb
  have cb : b ≠ sT S 260 a := fun z => by rw [z] at hb; omega
  refine w_aload_n d134_0 rfl ?_
  refine w_dloadS d134_1 (ok.kd hb) (fr260 ok hb) ?_
  refine w_iconst d134_4 (by decide) ?_
  refine w_aload_n d134_5 rfl ?_
  refine w_dloadS d134_6 (ok.kd ha) (fr260 ok ha) ?_
  refine w_iconst d134_9 (by decide) ?_
  refine w_aload_n d134_10 rfl ?_
  refine w_dloadS d134_11 (ok.kd ha) (fr260 ok ha) ?_
  refine wl260 d134_14 ok ha ?_
  refine p_cpL (f := 260) (g := 260) (n := 7) d134_15 ok hb ha ⟨rfl, rfl⟩ ⟨by decide, by decide, by decide, by decide⟩ (ok.so.ou (by decide) (by decide) (Or.inr hba)) (by simp) (by omega) (fun h15 e15 m15 => ?_)
  have ok15 := m15.ok
  have M15 := Mo.tr ok (Mo.refl (A := (fun x => x = a ∨ x = (sT S 257 a) ∨ x = (sT S 258 a) ∨ x = (sT S 259 a) ∨ x = (sT S 260 a))) ok) m15 (fun x e => (Or.inr (Or.inr (Or.inr (Or.inr e)))))
  refine w_aload_n d134_18 rfl ?_
  refine w_aload_n d134_19 rfl ?_
  refine w_getI (x := ((ps.length : Nat) : Int)) d134_20 (ok15.kd hb) ((m15.fi ok (by omega) cb 261).trans o1) ?_
  refine wf261 d134_23 ok15 ha (by omega) (fun h23 e23 m23 => ?_)
  have ok23 := m23.ok
  have M23 := Mo.tr ok M15 m23 (fun x e => (Or.inl e))
  refine w_return d134_26 ?_
  refine kk h23 M23 ⟨by rw [e23, FI_sFI, if_pos ⟨rfl, rfl⟩], o2, fun i hi => ?_⟩ (fun v D => ((D.mo ok m15 ha (pT 260 (by decide)) (ne 257 260 (by decide) (by decide) (by decide)) (ne 258 260 (by decide) (by decide) (by decide)) (ne 259 260 (by decide) (by decide) (by decide))).m1 ok15 m23 ha (fun q => (Ne.symm (pT 257 (by decide))) q) (fun q => (Ne.symm (pT 258 (by decide))) q) (fun q => (Ne.symm (pT 259 (by decide))) q) (by rw [e23, FI_sFI, if_neg (fun w => absurd w.1 (by decide))]))) ?_
  · rw [e23, AL_sFI, e15, AL_cpL, if_pos ⟨rfl, Nat.zero_le _, by omega⟩, show 0 + (i - 0) = i by omega]; exact o3 i hi
  · rw [e23, FL_sFI, e15]; first | done | rfl
theorem d108_0 : dc 108 0 = some (.aload_n 0, 1) := by decide +kernel
theorem d108_1 : dc 108 1 = some (.getfield 261, 4) := by decide +kernel
theorem d108_4 : dc 108 4 = some (.aload_n 0, 5) := by decide +kernel
theorem d108_5 : dc 108 5 = some (.dload 260, 8) := by decide +kernel
theorem d108_8 : dc 108 8 = some (.arraylength, 9) := by decide +kernel
theorem d108_9 : dc 108 9 = some (.if_icmp .ge ((32 : Nat) : Int), 12) := by decide +kernel
theorem d108_12 : dc 108 12 = some (.aload_n 0, 13) := by decide +kernel
theorem d108_13 : dc 108 13 = some (.dload 260, 16) := by decide +kernel
theorem d108_16 : dc 108 16 = some (.aload_n 0, 17) := by decide +kernel
theorem d108_17 : dc 108 17 = some (.getfield 261, 20) := by decide +kernel
theorem d108_20 : dc 108 20 = some (.lload_n 1, 21) := by decide +kernel
theorem d108_21 : dc 108 21 = some (.lastore, 22) := by decide +kernel
theorem d108_22 : dc 108 22 = some (.aload_n 0, 23) := by decide +kernel
theorem d108_23 : dc 108 23 = some (.dup, 24) := by decide +kernel
theorem d108_24 : dc 108 24 = some (.getfield 261, 27) := by decide +kernel
theorem d108_27 : dc 108 27 = some (.iconst 1, 28) := by decide +kernel
theorem d108_28 : dc 108 28 = some (.iadd, 29) := by decide +kernel
theorem d108_29 : dc 108 29 = some (.putfield 261, 32) := by decide +kernel
theorem d108_32 : dc 108 32 = some (.return_, 33) := by decide +kernel
theorem k_Ou_addPart {S : Shp} {G : Nat → Option Nat} {d : Nat} {h : Hp} {Q : Option MV → Hp → Prop} {a : Nat} {z : Int64}  (ok : Ok S h) (h1 : 0 ≤ d) (ha : sK S a = 3) {ps : List Int64} (pa : PaC S h a ps) (hl : ps.length < 7)
    (kk : ∀ h', Mo S (OA S a) h h' → PaC S h' a (ps ++ [z]) → (∀ v, OuC S h a v → OuC S h' a v) → FL h' 262 a = FL h 262 a → Q none h') : Cl G d 108 [vR (some a), vJ z] h Q := by
  show Wp G d 108 0 [some (vR (some a)), some (vJ z), none] [] h Q
  have pT : ∀ f, f < 4096 → a ≠ sT S f a := fun f hf z => ok.so.pT hf z.symm
  have ne : ∀ f g, f < 4096 → g < 4096 → f ≠ g → sT S f a ≠ sT S g a := fun f g hf hg q => ok.so.ou hf hg (Or.inl q)
  have K7 := kT257 ok ha
  have K8 := kT258 ok ha
  have K9 := kT259 ok ha
  have K0 := kT260 ok ha
  obtain ⟨o1, o2, o3⟩ := pa
  refine w_aload_n d108_0 rfl ?_
  refine w_getI (x := ((ps.length : Nat) : Int)) d108_1 (ok.kd ha) o1 ?_
  refine w_aload_n d108_4 rfl ?_
  refine w_dloadS d108_5 (ok.kd ha) (fr260 ok ha) ?_
  refine wl260 d108_8 ok ha ?_
  refine w_icmpge d108_9 (fun c9 => ?_) (fun c9 => ?_)
  · omega
  · refine w_aload_n d108_12 rfl ?_
    refine w_dloadS d108_13 (ok.kd ha) (fr260 ok ha) ?_
    refine w_aload_n d108_16 rfl ?_
    refine w_getI (x := ((ps.length : Nat) : Int)) d108_17 (ok.kd ha) o1 ?_
    refine w_lload_n d108_20 rfl ?_
    refine wa260 d108_21 ok ha (by omega) (fun h21 e21 m21 => ?_)
    have e21 : h21 = sAL h (sT S 260 a) ps.length z := e21
    have ok21 := m21.ok
    have M21 := Mo.tr ok (Mo.refl (A := (fun x => x = a ∨ x = (sT S 257 a) ∨ x = (sT S 258 a) ∨ x = (sT S 259 a) ∨ x = (sT S 260 a))) ok) m21 (fun x e => (Or.inr (Or.inr (Or.inr (Or.inr e)))))
    refine w_aload_n d108_22 rfl ?_
    refine w_dupR d108_23 ?_
    refine w_getI (x := ((ps.length : Nat) : Int)) d108_24 (ok21.kd ha) ((m21.fi ok (by omega) (pT 260 (by decide)) 261).trans o1) ?_
    refine w_iconst d108_27 (by decide) ?_
    refine w_iadd d108_28 (by constructor <;> omega) ?_
    refine wf261 d108_29 ok21 ha (by omega) (fun h29 e29 m29 => ?_)
    have ok29 := m29.ok
    have M29 := Mo.tr ok M21 m29 (fun x e => (Or.inl e))
    refine w_return d108_32 ?_
    have eL : (ps ++ [z]).length = ps.length + 1 := by simp
    refine kk h29 M29 ⟨by rw [e29, FI_sFI, if_pos ⟨rfl, rfl⟩, eL]; first | done | rfl, by omega, fun i hi => ?_⟩ (fun v D => ((D.mo ok m21 ha (pT 260 (by decide)) (ne 257 260 (by decide) (by decide) (by decide)) (ne 258 260 (by decide) (by decide) (by decide)) (ne 259 260 (by decide) (by decide) (by decide))).m1 ok21 m29 ha (fun q => (Ne.symm (pT 257 (by decide))) q) (fun q => (Ne.symm (pT 258 (by decide))) q) (fun q => (Ne.symm (pT 259 (by decide))) q) (by rw [e29, FI_sFI, if_neg (fun w => absurd w.1 (by decide))]))) ?_
    · rw [eL] at hi
      rw [e29, AL_sFI, e21, AL_sAL, getD_snoc]
      by_cases q : i = ps.length
      · rw [if_pos ⟨rfl, q⟩, if_pos q]
      · rw [if_neg (fun w => q w.2), if_neg q]; exact o3 i (by omega)
    · rw [e29, FL_sFI, e21]; first | done | rfl
