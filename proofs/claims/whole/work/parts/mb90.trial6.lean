/-! the tie: a trial session and the plain fixpoint, all targets -/
theorem stp_hd {ts : List (Bool × TgV)} : ∀ {n u v x : Nat}, edge ts u v → stp ts n v x → stp ts (n + 1) u x
  | 0, u, v, x, e, h => ⟨u, rfl, by have h : v = x := h; rw [← h]; exact e⟩
  | n + 1, u, v, x, e, h => by
    obtain ⟨y, h1, h2⟩ := h
    exact ⟨y, stp_hd e h1, h2⟩
theorem tr_all {P : PlV} {nd : Nat → Nat} {s : GoV} {sN D B : Nat} {bu : Nat → OmV} (s6 : six P) (ac : acy P.2.2) (I : trI P nd s) (off : onB P nd s = false) (A : AnI P sN D B bu) (cl : ∀ u, bt sN u → ¬ bt D u → ¬ ∀ v, edge P.2.2 u v → bt B v) (hs : ∀ u, bt sN u → u < P.2.2.length ∧ tH P.2.2 u = true ∧ nd u = 1 ∧ ∀ v, edge P.2.2 u v → bt sN v) : ∀ u, bt sN u → (bt B u ↔ rE (goR s) u = 1) ∧ (bt D u ↔ rE (goR s) u ≠ 0) ∧ (rE (goR s) u ≠ 0 → exV P (fun z => oV (bu z)) u = exV P s.1 u) := by
  have g : ∀ (n u : Nat), (∀ x, ¬ stp P.2.2 n u x) → bt sN u → (bt B u ↔ rE (goR s) u = 1) ∧ (bt D u ↔ rE (goR s) u ≠ 0) ∧ (rE (goR s) u ≠ 0 → exV P (fun z => oV (bu z)) u = exV P s.1 u) := fun n => by
    induction n with
    | zero => intro u h _; exact absurd rfl (h u)
    | succ n ih =>
      intro u h us
      obtain ⟨h1, h2, h3, h4⟩ := hs u us
      exact tr_one s6 I off A cl h1 h2 h3 us (fun v ev => ih v (fun x hx => h x (stp_hd ev hx)) (h4 v ev))
  exact fun u us => g P.2.2.length u (fun x hx => by have := acy_len ac (hs u us).1 hx; omega) us
