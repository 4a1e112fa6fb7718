/-! the house: what it holds; all forgotten -/
/-- a session: plan, released, editions, needed, the run with what it puts, whether it goes on, steps -/
abbrev SeP : Type := PlV × (Nat → OutV) × (Nat → Nat → Nat) × (Nat → Nat) × GoV × Bool × Nat
/-- plan, rules, session -/
abbrev HoS : Type := PlV × List RuV × SeP
def sePl (v : SeP) : PlV := v.1
def seNd (v : SeP) : Nat → Nat := v.2.2.2.1
def seGo (v : SeP) : GoV := v.2.2.2.2.1
def seOn (v : SeP) : Bool := v.2.2.2.2.2.1
def seSt (v : SeP) : Nat := v.2.2.2.2.2.2
def SeC (S : Shp) (h : Hp) (x : Nat) (v : SeP) : Prop := ∃ y, SesG S h x v.1 v.2.1 v.2.2.1 v.2.2.2.1 v.2.2.2.2.1 v.2.2.2.2.2.1 v.2.2.2.2.2.2 y ∧ SesI v.1 v.2.2.2.2.1.1 v.2.2.2.2.1.2.1 (goR v.2.2.2.2.1) 2 ∧ SesL (goR v.2.2.2.2.1) 2 ∧ (v.2.2.2.2.2.1 = true → y = true → cho v.1 v.2.2.2.1 (goR v.2.2.2.2.1) < 0)
def HoC (S : Shp) (h : Hp) (v : HoS) : Prop := PlC S h (sT S 1284 (sX S)) v.1 ∧ VrC S h (sT S 1285 (sX S)) v.2.1 ∧ SeC S h (sT S 1286 (sX S)) v.2.2 ∧ (∃ z, SeC S h (sT S 1287 (sX S)) z) ∧ rl h (sT S 1152 (sT S 1288 (sX S))) = []
/-- a session that is forgotten -/
def seNo (v : SeP) : SeP := (([], [], []), (fun _ => (false, [], [], [])), v.2.2.1, (fun _ => 0), ((fun _ => (false, [], [], [])), (fun _ => []), (fun _ => 0), [], run0 (rsC (goR v.2.2.2.2.1) (fun _ => 0))), false, 0)
def hoNo (v : HoS) : HoS := (([], [], []), [], seNo v.2.2)
section HO
variable {S : Shp} {h h' : Hp} {A : Nat → Prop} {x : Nat} {v : SeP} {w : HoS}
theorem SeC.u (ok : Ok S h) (m : Mo S A h h') (hx : sK S x = 7) (hA : ∀ y, U S x y → ¬ A y) (D : SeC S h x v) : SeC S h' x v := by
  obtain ⟨y, d1, d2⟩ := D
  exact ⟨y, SesC.u ok m hx hA d1, d2⟩
theorem VrC.u {rs : List RuV} (ok : Ok S h) (m : Mo S A h h') (hx : sK S x = 9) (hA : ∀ y, U S x y → ¬ A y) (D : VrC S h x rs) : VrC S h' x rs := D.fr ok m hx (Or.inl (hA _ U_refl)) (fun f f1 f2 => hA _ (ok.so.uT (by omega) U_refl))
/-- what lies apart changes nothing of the house -/
theorem HoC.f (ok : Ok S h) (m : Mo S A h h') (hA : ∀ f, 1284 ≤ f → f ≤ 1288 → ∀ z, U S (sT S f (sX S)) z → ¬ A z) (D : HoC S h w) : HoC S h' w := by
  obtain ⟨d1, d2, d3, ⟨z, d4⟩, d5⟩ := D
  refine ⟨d1.u ok m (kT1284 ok ok.kX) (hA 1284 (by decide) (by decide)), d2.u ok m (kT1285 ok ok.kX) (hA 1285 (by decide) (by decide)), d3.u ok m (kT1286 ok ok.kX) (hA 1286 (by decide) (by decide)), ⟨z, d4.u ok m (kT1287 ok ok.kX) (hA 1287 (by decide) (by decide))⟩, ?_⟩
  rw [m.rb ok (kT1152 ok ok.kW) (hA 1288 (by decide) (by decide) _ (ok.so.uT (by decide) U_refl))]
  exact d5
/-- a part of the house apart from the others -/
theorem apX (so : SOk S) {f g : Nat} (hf : f < 4096) (hg : g < 4096) (h : f ≠ g) : ∀ z, U S (sT S f (sX S)) z → ¬ U S (sT S g (sX S)) z := fun z u => so.sib hf hg h u
theorem run0_I {P : PlV} {pu : Nat → OutV} {pp : Nat → List Int64} {r : RunV} (hp : ∀ t, t < 14 → (pu t).1 = true → 0 < (pp t).length) : SesI P pu pp (run0 r) 2 ∧ SesL (run0 r) 2 := by
  refine ⟨⟨fun w hw => ?_, fun w hw he h => ?_, hp, ?_, fun i hi => absurd hi (Nat.not_lt_zero _)⟩, fun w hw he h => ?_⟩
  · show (-1 : Int) ≤ -1 ∧ (-1 : Int) < _; omega
  · exact absurd h (by show ¬ (0 : Int) ≤ -1; decide)
  · show (-1 : Int) < _; omega
  · exact absurd h (by show ¬ (0 : Int) ≤ -1; decide)
/-- the book -/
def BoC (S : Shp) (h : Hp) (B : Nat → Nat) (u : Nat) (l : Int) (sh : Bool) : Prop := BkC S h (sT S 1283 (sX S)) B ∧ FI h 1 (sT S 1283 (sX S)) = (u : Nat) ∧ FI h 2 (sT S 1283 (sX S)) = l ∧ FI h 3 (sT S 1283 (sX S)) = b2i sh
theorem BoC.f {B : Nat → Nat} {u : Nat} {l : Int} {sh : Bool} (ok : Ok S h) (m : Mo S A h h') (hA : ∀ z, U S (sT S 1283 (sX S)) z → ¬ A z) (D : BoC S h B u l sh) : BoC S h' B u l sh := by
  have kb := kT1283 ok ok.kX
  have n := hA _ U_refl
  exact ⟨D.1.mo ok m kb (hA _ (ok.so.uT (by decide) U_refl)), (m.fi ok (by omega) n 1).trans D.2.1, (m.fi ok (by omega) n 2).trans D.2.2.1, (m.fi ok (by omega) n 3).trans D.2.2.2⟩
end HO
theorem d52_0 : dc 52 0 = some (.aload_n 0, 1) := by decide +kernel
theorem d52_1 : dc 52 1 = some (.dload 1284, 4) := by decide +kernel
theorem d52_4 : dc 52 4 = some (.invokevirtual 53, 7) := by decide +kernel
theorem d52_7 : dc 52 7 = some (.aload_n 0, 8) := by decide +kernel
theorem d52_8 : dc 52 8 = some (.dload 1285, 11) := by decide +kernel
theorem d52_11 : dc 52 11 = some (.invokevirtual 54, 14) := by decide +kernel
theorem d52_14 : dc 52 14 = some (.aload_n 0, 15) := by decide +kernel
theorem d52_15 : dc 52 15 = some (.dload 1286, 18) := by decide +kernel
theorem d52_18 : dc 52 18 = some (.invokevirtual 55, 21) := by decide +kernel
theorem d52_21 : dc 52 21 = some (.return_, 22) := by decide +kernel
theorem k_Ho_forget {S : Shp} {G : Nat → Option Nat} {d : Nat} {h : Hp} {Q : Option MV → Hp → Prop} (ok : Ok S h) (h1 : 5 ≤ d) {v : HoS} (D : HoC S h v)
    (kk : ∀ h', Mo S (fun z => U S (sT S 1284 (sX S)) z ∨ z = sT S 1285 (sX S) ∨ U S (sT S 1286 (sX S)) z) h h' → HoC S h' (hoNo v) → Q none h') : Cl G d 52 [vR (some (sX S))] h Q := by
  show Wp G d 52 0 [some (vR (some (sX S)))] [] h Q
  have kp := kT1284 ok ok.kX
  have kv := kT1285 ok ok.kX
  have ks0 := kT1286 ok ok.kX
  have kt0 := kT1287 ok ok.kX
  have k52 := kT1152 ok ok.kW
  obtain ⟨d1, d2, ⟨y0, d3, d3b⟩, ⟨z0, d4⟩, d5⟩ := D
  refine w_aload_n d52_0 rfl ?_
  refine w_dloadS d52_1 (ok.kd ok.kX) (fr1284 ok ok.kX) ?_
  refine w_callv1 d52_4 (by omega) rfl (ok.kd (kT1284 ok ok.kX)) (by simp) (Nat.le_of_ble_eq_true rfl) ?_
  refine k_Plan_clear ok (by omega) kp d1.1 (fun h4 m4 e4_1 e4_2 e4_3 => ?_)
  have ok4 := m4.ok
  have M4 := Mo.tr ok (Mo.refl (A := (fun ζ => U S (sT S 1284 (sX S)) ζ ∨ ζ = (sT S 1285 (sX S)) ∨ U S (sT S 1286 (sX S)) ζ)) ok) m4 (fun ζ u => (Or.inl (U_trans U_refl u)))
  refine w_aload_n d52_7 rfl ?_
  refine w_dloadS d52_8 (ok4.kd ok.kX) (fr1285 ok4 ok.kX) ?_
  refine w_callv1 d52_11 (by omega) rfl (ok4.kd (kT1285 ok4 ok.kX)) (by simp) (Nat.le_of_ble_eq_true rfl) ?_
  refine k_Vr_clear ok4 (by omega) kv (fun h11 m11 e11_1 e11_2 => ?_)
  have ok11 := m11.ok
  have M11 := Mo.tr ok M4 m11 (fun ζ e => (Or.inr (Or.inl e)))
  refine w_aload_n d52_14 rfl ?_
  refine w_dloadS d52_15 (ok11.kd ok.kX) (fr1286 ok11 ok.kX) ?_
  refine w_callv1 d52_18 (by omega) rfl (ok11.kd (kT1286 ok11 ok.kX)) (by simp) (Nat.le_of_ble_eq_true rfl) ?_
  have ds := SesC.u ok4 m11 ks0 (fun z u q => ok.so.nUT (f := 1286) (g := 1285) (by decide) (by decide) (by decide) (q ▸ u)) (SesC.u ok m4 ks0 (apX ok.so (f := 1286) (g := 1284) (by decide) (by decide) (by decide)) d3)
  refine k_Se_clear ok11 (by omega) ks0 ds (fun h18 m18 e18_1 => ?_)
  have ok18 := m18.ok
  have M18 := Mo.tr ok M11 m18 (fun ζ u => (Or.inr (Or.inr (U_trans U_refl u))))
  refine w_return d52_21 ?_
  have ap := fun f g hf hg hn => apX ok.so (f := f) (g := g) hf hg hn
  have nv : ∀ f, f < 4096 → f ≠ 1285 → ∀ z, U S (sT S f (sX S)) z → ¬ z = sT S 1285 (sX S) := fun f hf hn z u q => ok.so.nUT (f := f) (g := 1285) (x := sX S) hf (by decide) hn (q ▸ u)
  refine kk h18 M18 ⟨(PlC.u ok4 m11 kp (nv 1284 (by decide) (by decide)) ⟨e4_1, e4_2, e4_3⟩).u ok11 m18 kp (ap 1284 1286 (by decide) (by decide) (by decide)), e11_1.u ok11 m18 kv (ap 1285 1286 (by decide) (by decide) (by decide)), ⟨false, e18_1, (run0_I (fun t ht hb => absurd hb Bool.false_ne_true)).1, (run0_I (P := ([], [], [])) (pu := fun _ => (false, [], [], [])) (pp := fun _ => []) (fun t ht hb => absurd hb Bool.false_ne_true)).2, fun _ z => absurd z (by decide)⟩, ⟨z0, ((d4.u ok m4 kt0 (ap 1287 1284 (by decide) (by decide) (by decide))).u ok4 m11 kt0 (nv 1287 (by decide) (by decide))).u ok11 m18 kt0 (ap 1287 1286 (by decide) (by decide) (by decide))⟩, ?_⟩
  have u52 : U S (sT S 1288 (sX S)) (sT S 1152 (sT S 1288 (sX S))) := ok.so.uT (by decide) U_refl
  rw [m18.rb ok11 k52 (ap 1288 1286 (by decide) (by decide) (by decide) _ u52), m11.rb ok4 k52 (nv 1288 (by decide) (by decide) _ u52), m4.rb ok k52 (ap 1288 1284 (by decide) (by decide) (by decide) _ u52)]
  exact d5
