/-! a session: begun, stopped, forgotten -/
/-- a session as it stands: its plan, its store, its run, what is needed, whether it goes on, its steps, whether nothing is to be taken -/
def SesC (S : Shp) (h : Hp) (x : Nat) (P : PlV) (pu : Nat → OutV) (pp : Nat → List Int64) (re : Nat → OutV) (ed : Nat → Nat → Nat) (ra : Nat → Nat) (ks : List (Int64 × OutV)) (r : RunV) (nd : Nat → Nat) (g : Bool) (k : Nat) (y : Bool) : Prop :=
  PlC S h (sT S 770 x) P ∧ StC S h (sT S 769 x) pu pp re ed ra ks ∧ RunC S h x r ∧ (∀ u, u < 14 → AI h (sT S 773 x) u = (nd u : Nat)) ∧ FI h 771 x = b2i g ∧ FI h 772 x = (k : Nat) ∧ FI h 783 x = b2i y
section SES3
variable {S : Shp} {h h' : Hp} {A : Nat → Prop} {x : Nat} {r : RunV} {P : PlV} {pu : Nat → OutV} {pp : Nat → List Int64} {re : Nat → OutV} {ed : Nat → Nat → Nat} {ra : Nat → Nat} {ks : List (Int64 × OutV)} {nd : Nat → Nat} {g y : Bool} {k : Nat}
theorem SesC.u (ok : Ok S h) (m : Mo S A h h') (hx : sK S x = 7) (hA : ∀ y, U S x y → ¬ A y) (D : SesC S h x P pu pp re ed ra ks r nd g k y) : SesC S h' x P pu pp re ed ra ks r nd g k y := by
  obtain ⟨d1, d2, d3, d4, d5, d6, d7⟩ := D
  have k3 := kT773 ok hx
  have uT : ∀ f, f < 4096 → ¬ A (sT S f x) := fun f hf => hA _ (ok.so.uT hf U_refl)
  refine ⟨d1.u ok m (kT770 ok hx) (fun z u => hA z (U_trans (ok.so.uT (by decide) U_refl) u)), d2.u ok m (kT769 ok hx) (fun z u => hA z (U_trans (ok.so.uT (by decide) U_refl) u)), d3.f ok m hx (hA x U_refl) (fun f f1 f2 => uT f (by omega)) (fun w hw => OFr.u ok.so hA (by decide) (by omega)), fun u hu => (congrFun (m.ai ok (by omega) (uT 773 (by decide))) u).trans (d4 u hu), (m.fi ok (by omega) (hA x U_refl) 771).trans d5, (m.fi ok (by omega) (hA x U_refl) 772).trans d6, (m.fi ok (by omega) (hA x U_refl) 783).trans d7⟩
theorem RunC.a774 {f : Nat → Nat} (ok : Ok S h) (hx : sK S x = 7) (e : ∀ j, j < 14 → AI h' (sT S 774 x) j = (f j : Nat)) (m : Mo S (fun y => y = sT S 774 x) h h') (D : RunC S h x r) : RunC S h' x (rsE r f) := by
  obtain ⟨d774, d775, d776, d777, d778, d780, d781, d782, d784, dl⟩ := D
  have k774 := kT774 ok hx
  have k775 := kT775 ok hx
  have k776 := kT776 ok hx
  have k777 := kT777 ok hx
  have k779 := kT779 ok hx
  have k781 := kT781 ok hx
  have k784 := kT784 ok hx
  exact ⟨e, fun t ht => (congrFun (m.ai ok (by omega) (ok.so.ou (by decide) (by decide) (Or.inl (by decide)))) t).trans (d775 t ht), fun t ht => (congrFun (m.ai ok (by omega) (ok.so.ou (by decide) (by decide) (Or.inl (by decide)))) t).trans (d776 t ht), fun t ht => (congrFun (m.ai ok (by omega) (ok.so.ou (by decide) (by decide) (Or.inl (by decide)))) t).trans (d777 t ht), fun w hw => (d778 w hw).f ok m (kE778 ok hx hw) (OFr.t ok.so (by decide) (Or.inr (by decide)) (by omega)), ⟨(m.fi ok (by omega) (fun z => ok.so.pT (by decide) z.symm) 780).trans d780.1, d780.2.1, fun i hi => (congrFun (m.ai ok (by omega) (ok.so.ou (by decide) (by decide) (Or.inl (by decide)))) i).trans (d780.2.2 i hi)⟩, fun i hi => (congrFun (m.ai ok (by omega) (ok.so.ou (by decide) (by decide) (Or.inl (by decide)))) i).trans (d781 i hi), (m.fi ok (by omega) (fun z => ok.so.pT (by decide) z.symm) 782).trans d782, (m.rb ok k784 (ok.so.ou (by decide) (by decide) (Or.inl (by decide)))).trans d784, dl⟩
theorem RunC.a775 {f : Nat → Int} (ok : Ok S h) (hx : sK S x = 7) (e : ∀ j, j < 2 → AI h' (sT S 775 x) j = f j) (m : Mo S (fun y => y = sT S 775 x) h h') (D : RunC S h x r) : RunC S h' x (rsH r f) := by
  obtain ⟨d774, d775, d776, d777, d778, d780, d781, d782, d784, dl⟩ := D
  have k774 := kT774 ok hx
  have k775 := kT775 ok hx
  have k776 := kT776 ok hx
  have k777 := kT777 ok hx
  have k779 := kT779 ok hx
  have k781 := kT781 ok hx
  have k784 := kT784 ok hx
  exact ⟨fun t ht => (congrFun (m.ai ok (by omega) (ok.so.ou (by decide) (by decide) (Or.inl (by decide)))) t).trans (d774 t ht), e, fun t ht => (congrFun (m.ai ok (by omega) (ok.so.ou (by decide) (by decide) (Or.inl (by decide)))) t).trans (d776 t ht), fun t ht => (congrFun (m.ai ok (by omega) (ok.so.ou (by decide) (by decide) (Or.inl (by decide)))) t).trans (d777 t ht), fun w hw => (d778 w hw).f ok m (kE778 ok hx hw) (OFr.t ok.so (by decide) (Or.inr (by decide)) (by omega)), ⟨(m.fi ok (by omega) (fun z => ok.so.pT (by decide) z.symm) 780).trans d780.1, d780.2.1, fun i hi => (congrFun (m.ai ok (by omega) (ok.so.ou (by decide) (by decide) (Or.inl (by decide)))) i).trans (d780.2.2 i hi)⟩, fun i hi => (congrFun (m.ai ok (by omega) (ok.so.ou (by decide) (by decide) (Or.inl (by decide)))) i).trans (d781 i hi), (m.fi ok (by omega) (fun z => ok.so.pT (by decide) z.symm) 782).trans d782, (m.rb ok k784 (ok.so.ou (by decide) (by decide) (Or.inl (by decide)))).trans d784, dl⟩
theorem RunC.a781 {f : Nat → Nat} (ok : Ok S h) (hx : sK S x = 7) (e : ∀ j, j < 3 → AI h' (sT S 781 x) j = (f j : Nat)) (m : Mo S (fun y => y = sT S 781 x) h h') (D : RunC S h x r) : RunC S h' x (rsC r f) := by
  obtain ⟨d774, d775, d776, d777, d778, d780, d781, d782, d784, dl⟩ := D
  have k774 := kT774 ok hx
  have k775 := kT775 ok hx
  have k776 := kT776 ok hx
  have k777 := kT777 ok hx
  have k779 := kT779 ok hx
  have k781 := kT781 ok hx
  have k784 := kT784 ok hx
  exact ⟨fun t ht => (congrFun (m.ai ok (by omega) (ok.so.ou (by decide) (by decide) (Or.inl (by decide)))) t).trans (d774 t ht), fun t ht => (congrFun (m.ai ok (by omega) (ok.so.ou (by decide) (by decide) (Or.inl (by decide)))) t).trans (d775 t ht), fun t ht => (congrFun (m.ai ok (by omega) (ok.so.ou (by decide) (by decide) (Or.inl (by decide)))) t).trans (d776 t ht), fun t ht => (congrFun (m.ai ok (by omega) (ok.so.ou (by decide) (by decide) (Or.inl (by decide)))) t).trans (d777 t ht), fun w hw => (d778 w hw).f ok m (kE778 ok hx hw) (OFr.t ok.so (by decide) (Or.inr (by decide)) (by omega)), ⟨(m.fi ok (by omega) (fun z => ok.so.pT (by decide) z.symm) 780).trans d780.1, d780.2.1, fun i hi => (congrFun (m.ai ok (by omega) (ok.so.ou (by decide) (by decide) (Or.inl (by decide)))) i).trans (d780.2.2 i hi)⟩, e, (m.fi ok (by omega) (fun z => ok.so.pT (by decide) z.symm) 782).trans d782, (m.rb ok k784 (ok.so.ou (by decide) (by decide) (Or.inl (by decide)))).trans d784, dl⟩
theorem RunC.r0 (ok : Ok S h) (hx : sK S x = 7) (m : Mo S (fun y => y = x) h h') (e780 : FI h' 780 x = 0) (e782 : FI h' 782 x = FI h 782 x) (D : RunC S h x r) : RunC S h' x (rsR r []) := by
  obtain ⟨d774, d775, d776, d777, d778, d780, d781, d782, d784, dl⟩ := D
  have k774 := kT774 ok hx
  have k775 := kT775 ok hx
  have k776 := kT776 ok hx
  have k777 := kT777 ok hx
  have k779 := kT779 ok hx
  have k781 := kT781 ok hx
  have k784 := kT784 ok hx
  exact ⟨fun t ht => (congrFun (m.ai ok (by omega) (fun z => ok.so.pT (by decide) z)) t).trans (d774 t ht), fun t ht => (congrFun (m.ai ok (by omega) (fun z => ok.so.pT (by decide) z)) t).trans (d775 t ht), fun t ht => (congrFun (m.ai ok (by omega) (fun z => ok.so.pT (by decide) z)) t).trans (d776 t ht), fun t ht => (congrFun (m.ai ok (by omega) (fun z => ok.so.pT (by decide) z)) t).trans (d777 t ht), fun w hw => (d778 w hw).f ok m (kE778 ok hx hw) (OFr.own ok.so (by decide) (by omega)), ⟨e780, Nat.zero_le _, fun i hi => absurd hi (Nat.not_lt_zero _)⟩, fun i hi => (congrFun (m.ai ok (by omega) (fun z => ok.so.pT (by decide) z)) i).trans (d781 i hi), e782.trans d782, (m.rb ok k784 (fun z => ok.so.pT (by decide) z)).trans d784, dl⟩
theorem RunC.f0 {v : Int} (ok : Ok S h) (hx : sK S x = 7) (m : Mo S (fun y => y = x) h h') (e780 : FI h' 780 x = FI h 780 x) (e782 : FI h' 782 x = v) (D : RunC S h x r) : RunC S h' x (rsF r v (rT r)) := by
  obtain ⟨d774, d775, d776, d777, d778, d780, d781, d782, d784, dl⟩ := D
  have k774 := kT774 ok hx
  have k775 := kT775 ok hx
  have k776 := kT776 ok hx
  have k777 := kT777 ok hx
  have k779 := kT779 ok hx
  have k781 := kT781 ok hx
  have k784 := kT784 ok hx
  exact ⟨fun t ht => (congrFun (m.ai ok (by omega) (fun z => ok.so.pT (by decide) z)) t).trans (d774 t ht), fun t ht => (congrFun (m.ai ok (by omega) (fun z => ok.so.pT (by decide) z)) t).trans (d775 t ht), fun t ht => (congrFun (m.ai ok (by omega) (fun z => ok.so.pT (by decide) z)) t).trans (d776 t ht), fun t ht => (congrFun (m.ai ok (by omega) (fun z => ok.so.pT (by decide) z)) t).trans (d777 t ht), fun w hw => (d778 w hw).f ok m (kE778 ok hx hw) (OFr.own ok.so (by decide) (by omega)), ⟨e780.trans d780.1, d780.2.1, fun i hi => (congrFun (m.ai ok (by omega) (fun z => ok.so.pT (by decide) z)) i).trans (d780.2.2 i hi)⟩, fun i hi => (congrFun (m.ai ok (by omega) (fun z => ok.so.pT (by decide) z)) i).trans (d781 i hi), e782, (m.rb ok k784 (fun z => ok.so.pT (by decide) z)).trans d784, dl⟩
/-- a run that begins -/
def run0 (r : RunV) : RunV := rsF (rsR (rsH (rsE r (fun _ => 0)) (fun _ => -1)) []) (-1) (rT r)
end SES3
theorem d59_0 : dc 59 0 = some (.aload_n 0, 1) := by decide +kernel
theorem d59_1 : dc 59 1 = some (.iconst 0, 2) := by decide +kernel
theorem d59_2 : dc 59 2 = some (.putfield 772, 5) := by decide +kernel
theorem d59_5 : dc 59 5 = some (.aload_n 0, 6) := by decide +kernel
theorem d59_6 : dc 59 6 = some (.dload 773, 9) := by decide +kernel
theorem d59_9 : dc 59 9 = some (.iconst 0, 10) := by decide +kernel
theorem d59_10 : dc 59 10 = some (.invokevirtual 58, 13) := by decide +kernel
theorem d59_13 : dc 59 13 = some (.aload_n 0, 14) := by decide +kernel
theorem d59_14 : dc 59 14 = some (.dload 774, 17) := by decide +kernel
theorem d59_17 : dc 59 17 = some (.iconst 0, 18) := by decide +kernel
theorem d59_18 : dc 59 18 = some (.invokevirtual 58, 21) := by decide +kernel
theorem d59_21 : dc 59 21 = some (.aload_n 0, 22) := by decide +kernel
theorem d59_22 : dc 59 22 = some (.dload 775, 25) := by decide +kernel
theorem d59_25 : dc 59 25 = some (.iconst (-1), 26) := by decide +kernel
theorem d59_26 : dc 59 26 = some (.invokevirtual 58, 29) := by decide +kernel
theorem d59_29 : dc 59 29 = some (.aload_n 0, 30) := by decide +kernel
theorem d59_30 : dc 59 30 = some (.iconst 0, 31) := by decide +kernel
theorem d59_31 : dc 59 31 = some (.putfield 780, 34) := by decide +kernel
theorem d59_34 : dc 59 34 = some (.aload_n 0, 35) := by decide +kernel
theorem d59_35 : dc 59 35 = some (.iconst (-1), 36) := by decide +kernel
theorem d59_36 : dc 59 36 = some (.putfield 782, 39) := by decide +kernel
theorem d59_39 : dc 59 39 = some (.aload_n 0, 40) := by decide +kernel
theorem d59_40 : dc 59 40 = some (.iconst 0, 41) := by decide +kernel
theorem d59_41 : dc 59 41 = some (.putstatic 783, 44) := by decide +kernel
theorem d59_44 : dc 59 44 = some (.return_, 45) := by decide +kernel
theorem k_Se_reset {S : Shp} {G : Nat → Option Nat} {d : Nat} {h : Hp} {Q : Option MV → Hp → Prop} {x : Nat}  (ok : Ok S h) (h1 : 1 ≤ d) (hx : sK S x = 7) {r : RunV} (rc : RunC S h x r)
    (kk : ∀ h', Mo S (fun y => y = x ∨ y = sT S 773 x ∨ y = sT S 774 x ∨ y = sT S 775 x) h h' → RunC S h' x (run0 r) → FI h' 771 x = FI h 771 x → FI h' 772 x = 0 → FI h' 783 x = 0 → (∀ u, u < 14 → AI h' (sT S 773 x) u = 0) → Q none h') : Cl G d 59 [vR (some x)] h Q := by
  show Wp G d 59 0 [some (vR (some x))] [] h Q
  have k3 := kT773 ok hx
  refine w_aload_n d59_0 rfl ?_
  refine w_iconst d59_1 (by decide) ?_
  refine wf772 d59_2 ok hx (by omega) (fun h2 e2 m2 => ?_)
  have ok2 := m2.ok
  have M2 := Mo.tr ok (Mo.refl (A := (fun ζ => ζ = x ∨ ζ = (sT S 773 x) ∨ ζ = (sT S 774 x) ∨ ζ = (sT S 775 x))) ok) m2 (fun ζ e => (Or.inl e))
  refine w_aload_n d59_5 rfl ?_
  refine w_dloadS d59_6 (ok2.kd hx) (fr773 ok2 hx) ?_
  refine w_iconst d59_9 (by decide) ?_
  refine w_calls2 d59_10 (by omega) rfl rfl (by simp) (Nat.le_of_ble_eq_true rfl) ?_
  refine k_Arrays_fill (n := 14) ok2 (by omega) hx rfl rfl ⟨by decide, by decide⟩ ⟨by decide, by decide⟩ (fun h10 m10 e10_1 => ?_)
  have ok10 := m10.ok
  have M10 := Mo.tr ok M2 m10 (fun ζ e => (Or.inr (Or.inl e)))
  refine w_aload_n d59_13 rfl ?_
  refine w_dloadS d59_14 (ok10.kd hx) (fr774 ok10 hx) ?_
  refine w_iconst d59_17 (by decide) ?_
  refine w_calls2 d59_18 (by omega) rfl rfl (by simp) (Nat.le_of_ble_eq_true rfl) ?_
  refine k_Arrays_fill (n := 14) ok10 (by omega) hx rfl rfl ⟨by decide, by decide⟩ ⟨by decide, by decide⟩ (fun h18 m18 e18_1 => ?_)
  have ok18 := m18.ok
  have M18 := Mo.tr ok M10 m18 (fun ζ e => (Or.inr (Or.inr (Or.inl e))))
  refine w_aload_n d59_21 rfl ?_
  refine w_dloadS d59_22 (ok18.kd hx) (fr775 ok18 hx) ?_
  refine w_iconst d59_25 (by decide) ?_
  refine w_calls2 d59_26 (by omega) rfl rfl (by simp) (Nat.le_of_ble_eq_true rfl) ?_
  refine k_Arrays_fill (n := 2) ok18 (by omega) hx rfl rfl ⟨by decide, by decide⟩ ⟨by decide, by decide⟩ (fun h26 m26 e26_1 => ?_)
  have ok26 := m26.ok
  have M26 := Mo.tr ok M18 m26 (fun ζ e => (Or.inr (Or.inr (Or.inr e))))
  refine w_aload_n d59_29 rfl ?_
  refine w_iconst d59_30 (by decide) ?_
  refine wf780 d59_31 ok26 hx (by omega) (fun h31 e31 m31 => ?_)
  have ok31 := m31.ok
  have M31 := Mo.tr ok M26 m31 (fun ζ e => (Or.inl e))
  refine w_aload_n d59_34 rfl ?_
  refine w_iconst d59_35 (by decide) ?_
  refine wf782 d59_36 ok31 hx (by omega) (fun h36 e36 m36 => ?_)
  have ok36 := m36.ok
  have M36 := Mo.tr ok M31 m36 (fun ζ e => (Or.inl e))
  refine w_aload_n d59_39 rfl ?_
  refine w_iconst d59_40 (by decide) ?_
  refine wf783 d59_41 ok36 hx (by omega) (fun h41 e41 m41 => ?_)
  have ok41 := m41.ok
  have M41 := Mo.tr ok M36 m41 (fun ζ e => (Or.inl e))
  refine w_return d59_44 ?_
  have D2 := rc.own ok hx m2 (by rw [e2, FI_sFI, if_neg (fun z => absurd z.1 (by decide))]) (by rw [e2, FI_sFI, if_neg (fun z => absurd z.1 (by decide))])
  have D10 := D2.f ok2 m10 hx (fun z => ok.so.pT (by decide) z.symm) (fun f f1 f2 => ok.so.ou (by omega) (by decide) (Or.inl (by omega))) (fun w hw => OFr.t ok.so (by decide) (Or.inr (by decide)) (by omega))
  have D18 := D10.a774 (f := fun _ => 0) ok10 hx e18_1 m18
  have D26 := D18.a775 (f := fun _ => -1) ok18 hx e26_1 m26
  have D31 := D26.r0 ok26 hx m31 (by rw [e31, FI_sFI, if_pos ⟨rfl, rfl⟩]) (by rw [e31, FI_sFI, if_neg (fun z => absurd z.1 (by decide))])
  have D36 := D31.f0 (v := -1) ok31 hx m36 (by rw [e36, FI_sFI, if_neg (fun z => absurd z.1 (by decide))]) (by rw [e36, FI_sFI, if_pos ⟨rfl, rfl⟩])
  have D41 := D36.own ok36 hx m41 (by rw [e41, FI_sFI, if_neg (fun z => absurd z.1 (by decide))]) (by rw [e41, FI_sFI, if_neg (fun z => absurd z.1 (by decide))])
  have FX : ∀ f, f ≠ 641 → f ≠ 780 → f ≠ 782 → f ≠ 783 → FI h41 f x = FI h2 f x := fun f a b c d => by
    rw [e41, FI_sFI, if_neg (fun z => d z.1), e36, FI_sFI, if_neg (fun z => c z.1), e31, FI_sFI, if_neg (fun z => b z.1), m26.fi ok18 (by omega) (fun z => ok.so.pT (by decide) z.symm) f a, m18.fi ok10 (by omega) (fun z => ok.so.pT (by decide) z.symm) f a, m10.fi ok2 (by omega) (fun z => ok.so.pT (by decide) z.symm) f a]
  refine kk h41 M41 D41 ?_ ?_ ?_ (fun u hu => ?_)
  · rw [FX 771 (by decide) (by decide) (by decide) (by decide), e2, FI_sFI, if_neg (fun z => absurd z.1 (by decide))]
  · rw [FX 772 (by decide) (by decide) (by decide) (by decide), e2, FI_sFI, if_pos ⟨rfl, rfl⟩]
  · rw [e41, FI_sFI, if_pos ⟨rfl, rfl⟩]
  · rw [e41, e36, e31]; show AI h26 _ u = 0; rw [m26.ai ok18 ⟨by omega, by omega⟩ (ok.so.ou (by decide) (by decide) (Or.inl (by decide))), m18.ai ok10 ⟨by omega, by omega⟩ (ok.so.ou (by decide) (by decide) (Or.inl (by decide)))]; exact e10_1 u hu
theorem d137_0 : dc 137 0 = some (.aload_n 0, 1) := by decide +kernel
theorem d137_1 : dc 137 1 = some (.iconst 0, 2) := by decide +kernel
theorem d137_2 : dc 137 2 = some (.putstatic 771, 5) := by decide +kernel
theorem d137_5 : dc 137 5 = some (.aload_n 0, 6) := by decide +kernel
theorem d137_6 : dc 137 6 = some (.dload 775, 9) := by decide +kernel
theorem d137_9 : dc 137 9 = some (.iconst (-1), 10) := by decide +kernel
theorem d137_10 : dc 137 10 = some (.invokevirtual 58, 13) := by decide +kernel
theorem d137_13 : dc 137 13 = some (.return_, 14) := by decide +kernel
theorem k_Se_stop {S : Shp} {G : Nat → Option Nat} {d : Nat} {h : Hp} {Q : Option MV → Hp → Prop} {x : Nat}  (ok : Ok S h) (h1 : 1 ≤ d) (hx : sK S x = 7) {P : PlV} {pu : Nat → OutV} {pp : Nat → List Int64} {re : Nat → OutV} {ed : Nat → Nat → Nat} {ra : Nat → Nat} {ks : List (Int64 × OutV)} {r : RunV} {nd : Nat → Nat} {g y : Bool} {k : Nat} (D : SesC S h x P pu pp re ed ra ks r nd g k y)
    (kk : ∀ h', Mo S (fun y => y = x ∨ y = sT S 775 x) h h' → SesC S h' x P pu pp re ed ra ks (rsH r (fun _ => -1)) nd false k y → Q none h') : Cl G d 137 [vR (some x)] h Q := by
  show Wp G d 137 0 [some (vR (some x))] [] h Q
  obtain ⟨d1, d2, d3, d4, d5, d6, d7⟩ := D
  have k3 := kT773 ok hx
  refine w_aload_n d137_0 rfl ?_
  refine w_iconst d137_1 (by decide) ?_
  refine wf771 d137_2 ok hx (by omega) (fun h2 e2 m2 => ?_)
  have ok2 := m2.ok
  have M2 := Mo.tr ok (Mo.refl (A := (fun ζ => ζ = x ∨ ζ = (sT S 775 x))) ok) m2 (fun ζ e => (Or.inl e))
  refine w_aload_n d137_5 rfl ?_
  refine w_dloadS d137_6 (ok2.kd hx) (fr775 ok2 hx) ?_
  refine w_iconst d137_9 (by decide) ?_
  refine w_calls2 d137_10 (by omega) rfl rfl (by simp) (Nat.le_of_ble_eq_true rfl) ?_
  refine k_Arrays_fill (n := 2) ok2 (by omega) hx rfl rfl ⟨by decide, by decide⟩ ⟨by decide, by decide⟩ (fun h10 m10 e10_1 => ?_)
  have ok10 := m10.ok
  have M10 := Mo.tr ok M2 m10 (fun ζ e => (Or.inr e))
  refine w_return d137_13 ?_
  have D2 := d3.own ok hx m2 (by rw [e2, FI_sFI, if_neg (fun z => absurd z.1 (by decide))]) (by rw [e2, FI_sFI, if_neg (fun z => absurd z.1 (by decide))])
  have D10 := D2.a775 (f := fun _ => -1) ok2 hx e10_1 m10
  have nx := fun f hf => ok.so.nU (f := f) (x := x) hf
  refine kk h10 M10 ⟨(d1.u ok m2 (kT770 ok hx) (fun z u q => nx 770 (by decide) (q ▸ u))).u ok2 m10 (kT770 ok hx) (fun z u q => ok.so.nUT (by decide) (by decide) (by decide) (q ▸ u)), (d2.u ok m2 (kT769 ok hx) (fun z u q => nx 769 (by decide) (q ▸ u))).u ok2 m10 (kT769 ok hx) (fun z u q => ok.so.nUT (by decide) (by decide) (by decide) (q ▸ u)), D10, fun u hu => ?_, ?_, ?_, ?_⟩
  · rw [m10.ai ok2 ⟨by omega, by omega⟩ (ok.so.ou (by decide) (by decide) (Or.inl (by decide))), e2]; exact d4 u hu
  · rw [m10.fi ok2 (by omega) (fun z => ok.so.pT (by decide) z.symm) 771, e2, FI_sFI, if_pos ⟨rfl, rfl⟩]; first | done | rfl
  · rw [m10.fi ok2 (by omega) (fun z => ok.so.pT (by decide) z.symm) 772, e2, FI_sFI, if_neg (fun z => absurd z.1 (by decide))]; exact d6
  · rw [m10.fi ok2 (by omega) (fun z => ok.so.pT (by decide) z.symm) 783, e2, FI_sFI, if_neg (fun z => absurd z.1 (by decide))]; exact d7
theorem d55_0 : dc 55 0 = some (.aload_n 0, 1) := by decide +kernel
theorem d55_1 : dc 55 1 = some (.dload 769, 4) := by decide +kernel
theorem d55_4 : dc 55 4 = some (.invokevirtual 56, 7) := by decide +kernel
theorem d55_7 : dc 55 7 = some (.aload_n 0, 8) := by decide +kernel
theorem d55_8 : dc 55 8 = some (.dload 781, 11) := by decide +kernel
theorem d55_11 : dc 55 11 = some (.iconst 0, 12) := by decide +kernel
theorem d55_12 : dc 55 12 = some (.invokevirtual 58, 15) := by decide +kernel
theorem d55_15 : dc 55 15 = some (.aload_n 0, 16) := by decide +kernel
theorem d55_16 : dc 55 16 = some (.dload 770, 19) := by decide +kernel
theorem d55_19 : dc 55 19 = some (.invokevirtual 53, 22) := by decide +kernel
theorem d55_22 : dc 55 22 = some (.aload_n 0, 23) := by decide +kernel
theorem d55_23 : dc 55 23 = some (.invokevirtual 59, 26) := by decide +kernel
theorem d55_26 : dc 55 26 = some (.aload_n 0, 27) := by decide +kernel
theorem d55_27 : dc 55 27 = some (.iconst 0, 28) := by decide +kernel
theorem d55_28 : dc 55 28 = some (.putstatic 771, 31) := by decide +kernel
theorem d55_31 : dc 55 31 = some (.return_, 32) := by decide +kernel
theorem k_Se_clear {S : Shp} {G : Nat → Option Nat} {d : Nat} {h : Hp} {Q : Option MV → Hp → Prop} {x : Nat}  (ok : Ok S h) (h1 : 4 ≤ d) (hx : sK S x = 7) {P : PlV} {pu : Nat → OutV} {pp : Nat → List Int64} {re : Nat → OutV} {ed : Nat → Nat → Nat} {ra : Nat → Nat} {ks : List (Int64 × OutV)} {r : RunV} {nd : Nat → Nat} {g y : Bool} {k : Nat} (D : SesC S h x P pu pp re ed ra ks r nd g k y)
    (kk : ∀ h', Mo S (U S x) h h' → SesC S h' x ([], [], []) (fun _ => (false, [], [], [])) (fun _ => []) (fun _ => (false, [], [], [])) ed (fun _ => 0) [] (run0 (rsC r (fun _ => 0))) (fun _ => 0) false 0 false → Q none h') : Cl G d 55 [vR (some x)] h Q := by
  show Wp G d 55 0 [some (vR (some x))] [] h Q
  obtain ⟨d1, d2, d3, d4, d5, d6, d7⟩ := D
  have k3 := kT773 ok hx
  have kst := kT769 ok hx
  have kpl := kT770 ok hx
  have nx := fun f hf => ok.so.nU (f := f) (x := x) hf
  refine w_aload_n d55_0 rfl ?_
  refine w_dloadS d55_1 (ok.kd hx) (fr769 ok hx) ?_
  refine w_callv1 d55_4 (by omega) rfl (ok.kd (kT769 ok hx)) (by simp) (Nat.le_of_ble_eq_true rfl) ?_
  refine k_St_clear ok (by omega) kst d2 (fun h4 m4 e4_1 => ?_)
  have ok4 := m4.ok
  have M4 := Mo.tr ok (Mo.refl (A := (fun ζ => U S x ζ)) ok) m4 (fun ζ u => (U_trans (ok.so.uT (by decide) U_refl) u))
  refine w_aload_n d55_7 rfl ?_
  refine w_dloadS d55_8 (ok4.kd hx) (fr781 ok4 hx) ?_
  refine w_iconst d55_11 (by decide) ?_
  refine w_calls2 d55_12 (by omega) rfl rfl (by simp) (Nat.le_of_ble_eq_true rfl) ?_
  refine k_Arrays_fill (n := 3) ok4 (by omega) hx rfl rfl ⟨by decide, by decide⟩ ⟨by decide, by decide⟩ (fun h12 m12 e12_1 => ?_)
  have ok12 := m12.ok
  have M12 := Mo.tr ok M4 m12 (fun ζ e => (e ▸ (ok.so.uT (by decide) U_refl)))
  refine w_aload_n d55_15 rfl ?_
  refine w_dloadS d55_16 (ok12.kd hx) (fr770 ok12 hx) ?_
  refine w_callv1 d55_19 (by omega) rfl (ok12.kd (kT770 ok12 hx)) (by simp) (Nat.le_of_ble_eq_true rfl) ?_
  have f12 : FilC S h12 (sT S 770 x) P.1 := (d1.1.mo ok m4 kpl (fun z u q => ok.so.sib (by decide) (by decide) (by decide) q u)).mo ok4 m12 kpl (fun z u q => ok.so.nUT (by decide) (by decide) (by decide) (q ▸ u))
  refine k_Plan_clear ok12 (by omega) kpl f12 (fun h19 m19 e19_1 e19_2 e19_3 => ?_)
  have ok19 := m19.ok
  have M19 := Mo.tr ok M12 m19 (fun ζ u => (U_trans (ok.so.uT (by decide) U_refl) u))
  refine w_aload_n d55_22 rfl ?_
  refine w_callv1 d55_23 (by omega) rfl (ok19.kd hx) (by simp) (Nat.le_of_ble_eq_true rfl) ?_
  have R4 := d3.f ok m4 hx (fun q => nx 769 (by decide) q) (fun f f1 f2 q => ok.so.nUT (by decide) (by omega) (by omega) q) (fun w hw => ⟨fun q => ok.so.sib (f := 769) (g := 778) (by decide) (by decide) (by decide) q (ok.so.uE (by omega) U_refl), fun f f1 f2 q => ok.so.sib (f := 769) (g := 778) (by decide) (by decide) (by decide) q (ok.so.uT (by omega) (ok.so.uE (by omega) U_refl))⟩)
  have R12 := R4.a781 (f := fun _ => 0) ok4 hx e12_1 m12
  have R19 := R12.f ok12 m19 hx (fun q => nx 770 (by decide) q) (fun f f1 f2 q => ok.so.nUT (by decide) (by omega) (by omega) q) (fun w hw => ⟨fun q => ok.so.sib (f := 770) (g := 778) (by decide) (by decide) (by decide) q (ok.so.uE (by omega) U_refl), fun f f1 f2 q => ok.so.sib (f := 770) (g := 778) (by decide) (by decide) (by decide) q (ok.so.uT (by omega) (ok.so.uE (by omega) U_refl))⟩)
  refine k_Se_reset ok19 (by omega) hx R19 (fun h23 m23 e23_1 e23_2 e23_3 e23_4 e23_5 => ?_)
  have ok23 := m23.ok
  have M23 := Mo.tr ok M19 m23 (fun y q => by rcases q with q | q | q | q <;> rw [q]; exact U_refl; exact ok.so.uT (by decide) U_refl; exact ok.so.uT (by decide) U_refl; exact ok.so.uT (by decide) U_refl)
  refine w_aload_n d55_26 rfl ?_
  refine w_iconst d55_27 (by decide) ?_
  refine wf771 d55_28 ok23 hx (by omega) (fun h28 e28 m28 => ?_)
  have ok28 := m28.ok
  have M28 := Mo.tr ok M23 m28 (fun ζ e => (e ▸ U_refl))
  refine w_return d55_31 ?_
  have nR : ∀ f, f < 4096 → f ≠ 773 ∧ f ≠ 774 ∧ f ≠ 775 → ∀ z, U S (sT S f x) z → ¬ (z = x ∨ z = sT S 773 x ∨ z = sT S 774 x ∨ z = sT S 775 x) := fun f hf hn z u q => by
    rcases q with q | q | q | q
    · exact nx f hf (q ▸ u)
    · exact ok.so.nUT hf (by decide) hn.1 (q ▸ u)
    · exact ok.so.nUT hf (by decide) hn.2.1 (q ▸ u)
    · exact ok.so.nUT hf (by decide) hn.2.2 (q ▸ u)
  refine kk h28 M28 ⟨⟨?_, ?_, ?_⟩, ?_, ?_, fun u hu => ?_, ?_, ?_, ?_⟩
  · exact (e19_1.mo ok19 m23 kpl (nR 770 (by decide) (by decide))).mo ok23 m28 kpl (fun z u q => nx 770 (by decide) (q ▸ u))
  · exact (e19_2.mo ok19 m23 kpl (nR 770 (by decide) (by decide))).mo ok23 m28 kpl (fun z u q => nx 770 (by decide) (q ▸ u))
  · exact (e19_3.mo ok19 m23 kpl (nR 770 (by decide) (by decide))).mo ok23 m28 kpl (fun z u q => nx 770 (by decide) (q ▸ u))
  · exact (((e4_1.u ok4 m12 kst (fun z u q => ok.so.nUT (by decide) (by decide) (by decide) (q ▸ u))).u ok12 m19 kst (fun z u q => ok.so.sib (by decide) (by decide) (by decide) q u)).u ok19 m23 kst (nR 769 (by decide) (by decide))).u ok23 m28 kst (fun z u q => nx 769 (by decide) (q ▸ u))
  · exact e23_1.own ok23 hx m28 (by rw [e28, FI_sFI, if_neg (fun z => absurd z.1 (by decide))]) (by rw [e28, FI_sFI, if_neg (fun z => absurd z.1 (by decide))])
  · rw [e28]; exact e23_5 u hu
  · rw [e28, FI_sFI, if_pos ⟨rfl, rfl⟩]; first | done | rfl
  · rw [e28, FI_sFI, if_neg (fun z => absurd z.1 (by decide))]; exact e23_3
  · rw [e28, FI_sFI, if_neg (fun z => absurd z.1 (by decide))]; exact e23_4
theorem d96_0 : dc 96 0 = some (.aload_n 0, 1) := by decide +kernel
theorem d96_1 : dc 96 1 = some (.invokevirtual 59, 4) := by decide +kernel
theorem d96_4 : dc 96 4 = some (.aload_n 0, 5) := by decide +kernel
theorem d96_5 : dc 96 5 = some (.dload 770, 8) := by decide +kernel
theorem d96_8 : dc 96 8 = some (.aload_n 1, 9) := by decide +kernel
theorem d96_9 : dc 96 9 = some (.invokevirtual 97, 12) := by decide +kernel
theorem d96_12 : dc 96 12 = some (.aload_n 0, 13) := by decide +kernel
theorem d96_13 : dc 96 13 = some (.dload 770, 16) := by decide +kernel
theorem d96_16 : dc 96 16 = some (.iload_n 2, 17) := by decide +kernel
theorem d96_17 : dc 96 17 = some (.aload_n 0, 18) := by decide +kernel
theorem d96_18 : dc 96 18 = some (.dload 773, 21) := by decide +kernel
theorem d96_21 : dc 96 21 = some (.invokevirtual 98, 24) := by decide +kernel
theorem d96_24 : dc 96 24 = some (.aload_n 0, 25) := by decide +kernel
theorem d96_25 : dc 96 25 = some (.iload_n 2, 26) := by decide +kernel
theorem d96_26 : dc 96 26 = some (.ifCond .lt ((33 : Nat) : Int), 29) := by decide +kernel
theorem d96_29 : dc 96 29 = some (.iconst 1, 30) := by decide +kernel
theorem d96_30 : dc 96 30 = some (.goto ((34 : Nat) : Int), 33) := by decide +kernel
theorem d96_34 : dc 96 34 = some (.putstatic 771, 37) := by decide +kernel
theorem d96_37 : dc 96 37 = some (.return_, 38) := by decide +kernel
theorem k_Se_begin {S : Shp} {G : Nat → Option Nat} {d : Nat} {h : Hp} {Q : Option MV → Hp → Prop} {x : Nat} {p : Nat} {t : Nat}  (ok : Ok S h) (h1 : 4 ≤ d) (hx : sK S x = 7) (hp : sK S p = 4) {P : PlV} {pu : Nat → OutV} {pp : Nat → List Int64} {re : Nat → OutV} {ed : Nat → Nat → Nat} {ra : Nat → Nat} {ks : List (Int64 × OutV)} {r : RunV} {nd : Nat → Nat} {g y : Bool} {k : Nat} (D : SesC S h x P pu pp re ed ra ks r nd g k y) {N0 : PlV} (np : PlC S h p N0) (ht : t < N0.2.2.length) (hxp : ¬ U S x p) (hpx : ∀ z, U S p z → ¬ U S x z)
    (kk : ∀ h' nd', Mo S (U S x) h h' → SesC S h' x N0 pu pp re ed ra ks (run0 r) nd' true 0 false → (∀ u, u < 14 → (nd' u = 1 ∧ Rc N0.2.2 t u) ∨ (nd' u = 0 ∧ ¬ Rc N0.2.2 t u)) → Q none h') : Cl G d 96 [vR (some x), vR (some p), vI (t : Nat)] h Q := by
  show Wp G d 96 0 [some (vR (some x)), some (vR (some p)), some (vI (t : Nat))] [] h Q
  obtain ⟨d1, d2, d3, d4, d5, d6, d7⟩ := D
  have k3 := kT773 ok hx
  have kst := kT769 ok hx
  have kpl := kT770 ok hx
  have nx := fun f hf => ok.so.nU (f := f) (x := x) hf
  have nR : ∀ f, f < 4096 → f ≠ 773 ∧ f ≠ 774 ∧ f ≠ 775 → ∀ z, U S (sT S f x) z → ¬ (z = x ∨ z = sT S 773 x ∨ z = sT S 774 x ∨ z = sT S 775 x) := fun f hf hn z u q => by
    rcases q with q | q | q | q
    · exact nx f hf (q ▸ u)
    · exact ok.so.nUT hf (by decide) hn.1 (q ▸ u)
    · exact ok.so.nUT hf (by decide) hn.2.1 (q ▸ u)
    · exact ok.so.nUT hf (by decide) hn.2.2 (q ▸ u)
  have UX : ∀ z, (z = x ∨ z = sT S 773 x ∨ z = sT S 774 x ∨ z = sT S 775 x) → U S x z := fun z q => by rcases q with q | q | q | q <;> rw [q]; exact U_refl; exact ok.so.uT (by decide) U_refl; exact ok.so.uT (by decide) U_refl; exact ok.so.uT (by decide) U_refl
  refine w_aload_n d96_0 rfl ?_
  refine w_callv1 d96_1 (by omega) rfl (ok.kd hx) (by simp) (Nat.le_of_ble_eq_true rfl) ?_
  refine k_Se_reset ok (by omega) hx d3 (fun h1 m1 e1_1 e1_2 e1_3 e1_4 e1_5 => ?_)
  have ok1 := m1.ok
  have M1 := Mo.tr ok (Mo.refl (A := (fun ζ => U S x ζ)) ok) m1 UX
  refine w_aload_n d96_4 rfl ?_
  refine w_dloadS d96_5 (ok1.kd hx) (fr770 ok1 hx) ?_
  refine w_aload_n d96_8 rfl ?_
  refine w_callv2 d96_9 (by omega) rfl (ok1.kd (kT770 ok1 hx)) (by simp) (Nat.le_of_ble_eq_true rfl) ?_
  have np1 := np.u ok m1 hp (fun z u q => hpx z u (UX z q))
  have f1 := d1.1.mo ok m1 kpl (nR 770 (by decide) (by decide))
  refine k_Plan_copyFrom ok1 (by omega) kpl hp np1.1 np1.2.1 np1.2.2 f1 (fun u => hxp (U_trans (ok.so.uT (by decide) U_refl) u)) (fun u => hpx _ u (ok.so.uT (by decide) U_refl)) (fun h9 m9 e9_1 e9_2 e9_3 => ?_)
  have ok9 := m9.ok
  have M9 := Mo.tr ok M1 m9 (fun ζ u => (U_trans (ok.so.uT (by decide) U_refl) u))
  refine w_aload_n d96_12 rfl ?_
  refine w_dloadS d96_13 (ok9.kd hx) (fr770 ok9 hx) ?_
  refine w_iload_n d96_16 rfl ?_
  refine w_aload_n d96_17 rfl ?_
  refine w_dloadS d96_18 (ok9.kd hx) (fr773 ok9 hx) ?_
  refine w_callv3 d96_21 (by omega) rfl (ok9.kd (kT770 ok9 hx)) (by simp) (Nat.le_of_ble_eq_true rfl) ?_
  refine k_Plan_markNeeds (f := 773) (b := x) ok9 (by omega) kpl e9_3 ht hx rfl rfl ⟨by decide, by decide⟩ (ok.so.ou (by decide) (by decide) (Or.inl (by decide))) (fun i z hi u q => ok.so.nUT (f := 770) (g := 773) (by decide) (by decide) (by decide) (U_trans (ok.so.uE (by have := e9_3.2.1; omega) (ok.so.uT (by decide) U_refl)) (q ▸ u))) (fun h21 m21 e21_1 => ?_)
  have ok21 := m21.ok
  have M21 := Mo.tr ok M9 m21 (fun ζ e => (e ▸ (ok.so.uT (by decide) U_refl)))
  refine w_aload_n d96_24 rfl ?_
  refine w_iload_n d96_25 rfl ?_
  refine w_iflt d96_26 (fun c26 => ?_) (fun c26 => ?_)
  · omega
  · refine w_iconst d96_29 (by decide) ?_
    refine w_goto d96_30 ?_
    refine wf771 d96_34 ok21 hx (by omega) (fun h34 e34 m34 => ?_)
    have ok34 := m34.ok
    have M34 := Mo.tr ok M21 m34 (fun ζ e => (e ▸ U_refl))
    refine w_return d96_37 ?_
    refine kk h34 (fun u => (AI h21 (sT S 773 x) u).toNat) M34 ⟨?_, ?_, ?_, fun u hu => ?_, ?_, ?_, ?_⟩ (fun u hu => ?_)
    · exact (PlC.u ok9 m21 kpl (fun z u q => ok.so.nUT (by decide) (by decide) (by decide) (q ▸ u)) ⟨e9_1, e9_2, e9_3⟩).u ok21 m34 kpl (fun z u q => nx 770 (by decide) (q ▸ u))
    · exact (((d2.u ok m1 kst (nR 769 (by decide) (by decide))).u ok1 m9 kst (fun z u q => ok.so.sib (by decide) (by decide) (by decide) q u)).u ok9 m21 kst (fun z u q => ok.so.nUT (by decide) (by decide) (by decide) (q ▸ u))).u ok21 m34 kst (fun z u q => nx 769 (by decide) (q ▸ u))
    · exact ((e1_1.f ok1 m9 hx (fun q => nx 770 (by decide) q) (fun f f1 f2 q => ok.so.nUT (by decide) (by omega) (by omega) q) (fun w hw => ⟨fun q => ok.so.sib (f := 770) (g := 778) (by decide) (by decide) (by decide) q (ok.so.uE (by omega) U_refl), fun f f1 f2 q => ok.so.sib (f := 770) (g := 778) (by decide) (by decide) (by decide) q (ok.so.uT (by omega) (ok.so.uE (by omega) U_refl))⟩)).f ok9 m21 hx (fun z => ok.so.pT (by decide) z.symm) (fun f f1 f2 => ok.so.ou (by omega) (by decide) (Or.inl (by omega))) (fun w hw => OFr.t ok.so (by decide) (Or.inr (by decide)) (by omega))).own ok21 hx m34 (by rw [e34, FI_sFI, if_neg (fun z => absurd z.1 (by decide))]) (by rw [e34, FI_sFI, if_neg (fun z => absurd z.1 (by decide))])
    · rw [e34]; show AI h21 (sT S 773 x) u = (((AI h21 (sT S 773 x) u).toNat : Nat) : Int); have q := ra773 ok21 hx u; omega
    · rw [e34, FI_sFI, if_pos ⟨rfl, rfl⟩]; first | done | rfl
    · rw [e34, FI_sFI, if_neg (fun z => absurd z.1 (by decide)), m21.fi ok9 (by omega) (fun z => ok.so.pT (by decide) z.symm) 772, m9.fi ok1 (by omega) (nx 770 (by decide)) 772]; exact e1_3
    · rw [e34, FI_sFI, if_neg (fun z => absurd z.1 (by decide)), m21.fi ok9 (by omega) (fun z => ok.so.pT (by decide) z.symm) 783, m9.fi ok1 (by omega) (nx 770 (by decide)) 783]; exact e1_4
    · rcases e21_1 u hu with ⟨a, b⟩ | ⟨a, b⟩
      · left; exact ⟨by show (AI h21 _ u).toNat = 1; rw [a]; rfl, b⟩
      · right; exact ⟨by show (AI h21 _ u).toNat = 0; rw [a]; rfl, b⟩
