/-! the tie: a trial session, its beginning and its end -/
theorem trI_0 {P : PlV} {nd : Nat → Nat} {r : RunV} : trI P nd ((fun _ => (false, [], [], [])), (fun _ => []), (fun _ => 0), [], run0 r) := by
  refine ⟨rfl, fun t => ⟨Nat.zero_le _, fun h => absurd rfl h, fun h => absurd (show (0 : Nat) = 1 from h) (by decide), fun h => absurd (show (0 : Nat) = 2 from h) (by decide), fun _ => rfl⟩, fun w hw t h => ?_, fun h => ?_, fun _ t h => absurd (show (0 : Nat) = 2 from h) (by decide), fun h => ?_⟩
  · have h : (-1 : Int) = (t : Int) := h
    omega
  · exact absurd (show (0 : Int) ≤ -1 from h) (by decide)
  · exact absurd (show (0 : Int) ≤ -1 from h) (by decide)
/-- nothing is left to do -/
theorem onB_no {P : PlV} {nd : Nat → Nat} {s : GoV} (h : onB P nd s = false) : rH (goR s) 0 < 0 ∧ rH (goR s) 1 < 0 ∧ ∀ u, u < P.2.2.length → nd u = 1 → rE (goR s) u = 0 → ¬ rdyB P.2.2 (rE (goR s)) u = true := by
  unfold onB at h
  have h := of_decide_eq_false h
  have a : rH (goR s) 0 < 0 := by
    refine Int.not_le.mp (fun z => h (Or.inl z))
  have b : rH (goR s) 1 < 0 := by
    refine Int.not_le.mp (fun z => h (Or.inr (Or.inl z)))
  have c : cho P nd (goR s) < 0 := by
    refine Int.not_le.mp (fun z => h (Or.inr (Or.inr z)))
  refine ⟨a, b, fun u hu un ue ur => ?_⟩
  have g := (chs_rg P.2.2 nd (rE (goR s)) (rH (goR s))).1
  have e : srF (mayB P.2.2 nd (rE (goR s)) (rH (goR s))) P.2.2.length 0 = -1 := by
    unfold cho chs at c
    unfold chs at g
    omega
  have n := srF_none.mp e u (Nat.zero_le _) hu
  unfold mayB at n
  exact absurd ⟨un, ue, by omega, by omega, ur⟩ (of_decide_eq_false n)
