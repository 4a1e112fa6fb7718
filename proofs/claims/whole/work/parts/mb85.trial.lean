/-! the tie: a trial session -/
/-- a target in a hand -/
def trH (P : PlV) (nd : Nat → Nat) (s : GoV) (w t : Nat) : Prop := t < P.2.2.length ∧ nd t = 1 ∧ rE (goR s) t = 0 ∧ rdyB P.2.2 (rE (goR s)) t = true ∧ ((rW (goR s) w = 0 ∧ tkA P t = []) ∨ (rW (goR s) w = 2 ∧ (rB (goR s) w).1 = (false, [], [], tkA P t) ∧ tkA P t ≠ []))
/-- a target that has ended -/
def trE (P : PlV) (nd : Nat → Nat) (s : GoV) (t : Nat) : Prop := rE (goR s) t ≤ 2 ∧ (rE (goR s) t ≠ 0 → t < P.2.2.length ∧ nd t = 1 ∧ rdyB P.2.2 (rE (goR s)) t = true) ∧ (rE (goR s) t = 1 → s.1 t = exV P s.1 t ∧ (exV P s.1 t).1 = true) ∧ (rE (goR s) t = 2 → (exV P s.1 t).1 = false) ∧ (rE (goR s) t ≠ 1 → (s.1 t).1 = false)
/-- a trial session on its way -/
def trI (P : PlV) (nd : Nat → Nat) (s : GoV) : Prop := s.2.2.2.1 = [] ∧ (∀ t, trE P nd s t) ∧ (∀ w, w < 2 → ∀ t : Nat, rH (goR s) w = (t : Int) → trH P nd s w t) ∧ (0 ≤ rH (goR s) 0 → rH (goR s) 0 ≠ rH (goR s) 1) ∧ (rF (goR s) < 0 → ∀ t, rE (goR s) t ≠ 2) ∧ (0 ≤ rF (goR s) → ∃ f : Nat, rF (goR s) = (f : Int) ∧ rE (goR s) f = 2 ∧ rT (goR s) = oW (exV P s.1 f) ∧ ∀ t, rE (goR s) t = 2 → f ≤ t)
theorem kfd_nil (x : Int64) : kfd [] x = -1 := srF_end (Nat.le_refl _)
theorem tn1_tr {P : PlV} {nd : Nat → Nat} {s : GoV} {w : Nat} (hw : w < 2) (I : trI P nd s) : trI P nd (tn1 P nd w s) := by
  unfold tn1
  split
  · rename_i q
    obtain ⟨i1, i2, i3, i4, i5, i6⟩ := I
    obtain ⟨t, ht⟩ : ∃ t : Nat, cho P nd (goR s) = (t : Int) := ⟨(cho P nd (goR s)).toNat, by have := q.2; omega⟩
    have et : (cho P nd (goR s)).toNat = t := by omega
    rw [et]
    have tl : t < P.2.2.length := by
      have g := (chs_rg P.2.2 nd (rE (goR s)) (rH (goR s))).2
      unfold cho at ht
      omega
    obtain ⟨c1, c2, c3, c4, c5⟩ := chs_t (show chs P.2.2 nd (rE (goR s)) (rH (goR s)) = (t : Int) from ht)
    have fin : ∀ (b : BeV) (y : Nat) (sv : Int) (l : List Nat), ((y = 0 ∧ tkA P t = []) ∨ (y = 2 ∧ b.1 = (false, [], [], tkA P t) ∧ tkA P t ≠ [])) → trI P nd (s.1, s.2.1, tkE P s.1 s.2.1 s.2.2.1 s.2.2.2.1 t, s.2.2.2.1, rsR (tk1 (goR s) w t b y sv) l) := fun b y sv l hy => by
      refine ⟨i1, i2, fun j hj u hu => ?_, fun h => ?_, i5, i6⟩
      · have hu : up (rH (goR s)) w (t : Int) j = (u : Int) := hu
        unfold up at hu
        by_cases z : j = w
        · rw [if_pos z] at hu
          have eu : u = t := by omega
          subst eu
          refine ⟨tl, c1, c2, c5, ?_⟩
          have a1 : rW (rsR (tk1 (goR s) w u b y sv) l) j = y := by rw [z]; exact if_pos rfl
          have a2 : rB (rsR (tk1 (goR s) w u b y sv) l) j = b := by rw [z]; exact if_pos rfl
          show (rW (rsR (tk1 (goR s) w u b y sv) l) j = 0 ∧ _) ∨ (rW (rsR (tk1 (goR s) w u b y sv) l) j = 2 ∧ (rB (rsR (tk1 (goR s) w u b y sv) l) j).1 = _ ∧ _)
          rw [a1, a2]
          exact hy
        · rw [if_neg z] at hu
          obtain ⟨d1, d2, d3, d4, d5⟩ := i3 j hj u hu
          refine ⟨d1, d2, d3, d4, ?_⟩
          have a1 : rW (rsR (tk1 (goR s) w t b y sv) l) j = rW (goR s) j := if_neg z
          have a2 : rB (rsR (tk1 (goR s) w t b y sv) l) j = rB (goR s) j := if_neg z
          show (rW (rsR (tk1 (goR s) w t b y sv) l) j = 0 ∧ _) ∨ (rW (rsR (tk1 (goR s) w t b y sv) l) j = 2 ∧ (rB (rsR (tk1 (goR s) w t b y sv) l) j).1 = _ ∧ _)
          rw [a1, a2]
          exact d5
      · show up (rH (goR s)) w (t : Int) 0 ≠ up (rH (goR s)) w (t : Int) 1
        unfold up
        rcases (show w = 0 ∨ w = 1 by omega) with z | z
        · rw [z, if_pos rfl, if_neg (by decide)]; exact fun y => c4 y.symm
        · rw [z, if_neg (by decide), if_pos rfl]; exact c3
    show trI P nd (s.1, s.2.1, tkE P s.1 s.2.1 s.2.2.1 s.2.2.2.1 t, s.2.2.2.1, tkR P s.1 s.2.2.2.1 (goR s) w t)
    unfold tkR
    rw [i1, kfd_nil]
    by_cases a : tkA P t ≠ []
    · rw [if_pos a, ← i1]
      exact fin _ 2 1 (rR (goR s)) (Or.inr ⟨rfl, rfl, a⟩)
    · have a' : tkA P t = [] := Classical.byContradiction a
      rw [if_neg a, if_neg (by decide), ← i1]
      split
      · exact fin _ 0 _ _ (Or.inl ⟨rfl, a'⟩)
      · exact fin _ 0 _ (rR (goR s)) (Or.inl ⟨rfl, a'⟩)
  · exact I
