/-! the tie: a trial session ends: a step -/
theorem ph_set {P : PlV} {r r' : RunV} {w : Nat} (hw : w < 2) (c d : Int) (e1 : (cnE (rE r') P.2.2.length : Int) = (cnE (rE r) P.2.2.length : Int) - c) (h0 : 0 ≤ rH r w) (e2 : ∀ j, j < 2 → j ≠ w → rH r' j = rH r j ∧ rL r' j = rL r j) (e3 : (if 0 ≤ rH r' w then 364 - rL r' w else 0) = 364 - rL r w + d) : phN P r' = phN P r - 365 * c - d := by
  unfold phN
  rcases (show w = 0 ∨ w = 1 by omega) with z | z
  · subst z
    rw [e1, e3, (e2 1 (by decide) (by decide)).1, (e2 1 (by decide) (by decide)).2, if_pos h0]
    omega
  · subst z
    rw [e1, e3, (e2 0 (by decide) (by decide)).1, (e2 0 (by decide) (by decide)).2, if_pos h0]
    omega
theorem tn2_ph {P : PlV} {nd : Nat → Nat} {s : GoV} {w : Nat} (hw : w < 2) (I : trI P nd s) (B : hbN (goR s)) : hbN (goR (tn2 P 0 w s)) ∧ phN P (goR (tn2 P 0 w s)) ≤ phN P (goR s) ∧ (0 ≤ rH (goR s) w → phN P (goR (tn2 P 0 w s)) < phN P (goR s)) ∧ (rH (goR s) w < 0 → tn2 P 0 w s = s) := by
  unfold tn2
  by_cases q : rH (goR s) w < 0
  · rw [if_pos q]; exact ⟨B, Int.le_refl _, fun h => by omega, fun _ => rfl⟩
  · rw [if_neg q]
    have b := B w hw (by omega)
    by_cases q2 : 0 < rL (goR s) w - 1
    · rw [if_pos q2]
      have L : rL (goR (ltG w s)) = up (rL (goR s)) w (rL (goR s) w - 1) := rfl
      have H : rH (goR (ltG w s)) = rH (goR s) := rfl
      have E : rE (goR (ltG w s)) = rE (goR s) := rfl
      have e := ph_set (P := P) (r := goR s) (r' := goR (ltG w s)) hw 0 1 (by rw [E]; omega) (by omega) (fun j _ hj => ⟨by rw [H], by rw [L]; exact if_neg hj⟩) (by rw [H, L, if_pos (by omega), show up (rL (goR s)) w (rL (goR s) w - 1) w = rL (goR s) w - 1 from if_pos rfl]; omega)
      refine ⟨fun j hj h => ?_, by omega, fun _ => by omega, fun h => absurd h q⟩
      rw [H] at h
      rw [L]
      by_cases z : j = w
      · rw [z, show up (rL (goR s)) w (rL (goR s) w - 1) w = rL (goR s) w - 1 from if_pos rfl]; omega
      · rw [show up (rL (goR s)) w (rL (goR s) w - 1) j = rL (goR s) j from if_neg z]; exact B j hj h
    · rw [if_neg q2]
      obtain ⟨t, ht⟩ : ∃ t : Nat, rH (goR s) w = (t : Int) := ⟨(rH (goR s) w).toNat, by omega⟩
      have et : (rH (goR s) w).toNat = t := by omega
      rw [et]
      obtain ⟨d1, d2, d3, d4, d5⟩ := I.2.2.1 w hw t ht
      have key : ∀ s1 : GoV, rE (goR s1) = rE (goR s) → rH (goR s1) = rH (goR s) → rL (goR s1) = up (rL (goR s)) w (rL (goR s) w - 1) → hbN (goR (fnG 0 w t s1)) ∧ phN P (goR (fnG 0 w t s1)) < phN P (goR s) := fun s1 a1 a2 a3 => by
        have E : ∃ x, x ≠ 0 ∧ rE (goR (fnG 0 w t s1)) = upN (rE (goR s)) t x := by
          show ∃ x, x ≠ 0 ∧ rE (fnR (goR s1) w t) = upN (rE (goR s)) t x
          unfold fnR
          rw [← a1]
          split
          · exact ⟨1, by decide, rfl⟩
          · split
            · exact ⟨2, by decide, rfl⟩
            · exact ⟨2, by decide, rfl⟩
        have H : rH (goR (fnG 0 w t s1)) = up (rH (goR s)) w (-1) := by
          show rH (fnR (goR s1) w t) = _
          unfold fnR
          rw [← a2]
          split
          · rfl
          · split <;> rfl
        have L : rL (goR (fnG 0 w t s1)) = up (rL (goR s)) w (rL (goR s) w - 1) := by
          rw [← a3]
          show rL (fnR (goR s1) w t) = _
          unfold fnR
          split
          · rfl
          · split <;> rfl
        obtain ⟨x, x0, E⟩ := E
        have c := cnE_up (E := rE (goR s)) (t := t) (x := x) d3 x0 d1
        have hw0 : up (rH (goR s)) w (-1) w = -1 := if_pos rfl
        have e := ph_set (P := P) (r := goR s) (r' := goR (fnG 0 w t s1)) hw 1 (-(364 - rL (goR s) w)) (by rw [E]; omega) (by omega) (fun j _ hj => ⟨by rw [H]; exact if_neg hj, by rw [L]; exact if_neg hj⟩) (by rw [H, hw0, if_neg (by decide)]; omega)
        refine ⟨fun j hj h => ?_, by omega⟩
        rw [H] at h
        by_cases z : j = w
        · rw [z, hw0] at h; omega
        · rw [show up (rH (goR s)) w (-1) j = rH (goR s) j from if_neg z] at h
          rw [L, show up (rL (goR s)) w (rL (goR s) w - 1) j = rL (goR s) j from if_neg z]
          exact B j hj h
      have F : hbN (goR (fnG 0 w t (wrG P w t (ltG w s)))) ∧ phN P (goR (fnG 0 w t (wrG P w t (ltG w s)))) < phN P (goR s) := by
        unfold wrG
        split
        · exact key _ rfl rfl rfl
        · exact key _ rfl rfl rfl
      exact ⟨F.1, Int.le_of_lt F.2, fun _ => F.2, fun h => absurd h q⟩
