/-! the tie: a trial session and the plain fixpoint -/
theorem rdy_of {P : PlV} {E : Nat → Nat} {u : Nat} (h : ∀ v, edge P.2.2 u v → E v = 1) : rdyB P.2.2 E u = true := by
  refine rdyB_t.mpr (fun i hi => ?_)
  by_cases q : inT P.2.2 u i < 0
  · exact Or.inl q
  · exact Or.inr (h _ ⟨i, by omega⟩)
theorem oV_1 {x : OmV} : (oV x).1 = true ↔ x.2.2 = [] := by
  unfold oV
  exact decide_eq_true_iff
/-- one target: what came of it is the same on both ways when that is so of its inputs -/
theorem tr_one {P : PlV} {nd : Nat → Nat} {s : GoV} {sN D B : Nat} {bu : Nat → OmV} {u : Nat} (s6 : six P) (I : trI P nd s) (off : onB P nd s = false) (A : AnI P sN D B bu) (cl : ∀ u, bt sN u → ¬ bt D u → ¬ ∀ v, edge P.2.2 u v → bt B v) (ul : u < P.2.2.length) (uH : tH P.2.2 u = true) (un : nd u = 1) (us : bt sN u)
    (H : ∀ v, edge P.2.2 u v → (bt B v ↔ rE (goR s) v = 1) ∧ (bt D v ↔ rE (goR s) v ≠ 0) ∧ (rE (goR s) v ≠ 0 → exV P (fun z => oV (bu z)) v = exV P s.1 v)) : (bt B u ↔ rE (goR s) u = 1) ∧ (bt D u ↔ rE (goR s) u ≠ 0) ∧ (rE (goR s) u ≠ 0 → exV P (fun z => oV (bu z)) u = exV P s.1 u) := by
  obtain ⟨a1, a2, a3, a4, a5⟩ := A
  obtain ⟨i1, i2, i3, i4, i5, i6⟩ := I
  have dD : bt D u ↔ rE (goR s) u ≠ 0 := by
    constructor
    · intro d e
      have b := (a5 u d).1
      exact (onB_no off).2.2 u ul un e (rdy_of (fun v ev => (H v ev).1.mp (b v ev)))
    · intro e
      refine Classical.byContradiction (fun d => cl u us d (fun v ev => (H v ev).1.mpr ?_))
      exact rdy_e s6 ((i2 u).2.1 e).2.2 ev
  have ex : rE (goR s) u ≠ 0 → exV P (fun z => oV (bu z)) u = exV P s.1 u := fun e => by
    refine exV_cg ul uH (fun v ev => ?_)
    have e1 := rdy_e s6 ((i2 u).2.1 e).2.2 ev
    have h := H v ev
    have d := h.2.1.mpr (by omega)
    show oV (bu v) = s.1 v
    rw [(a5 v d).2.1, h.2.2 (by omega)]
    exact ((i2 v).2.2.1 e1).1.symm
  refine ⟨⟨fun b => ?_, fun e => ?_⟩, dD, ex⟩
  · have d := a3 u b
    have e0 := dD.mp d
    have g := (a5 u d).2
    have y : (exV P s.1 u).1 = true := by rw [← ex e0, ← g.1]; exact oV_1.mpr (g.2.mp b)
    have e2 := (i2 u).1
    refine Classical.byContradiction (fun z => ?_)
    have := (i2 u).2.2.2.1 (by omega)
    rw [y] at this
    exact absurd this (by decide)
  · have d := dD.mpr (by omega)
    have g := (a5 u d).2
    refine g.2.mpr (oV_1.mp ?_)
    rw [g.1, ex (by omega)]
    exact ((i2 u).2.2.1 e).2
