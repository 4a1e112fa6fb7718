/-! the tie: a trial session goes on -/
theorem tn2_tr {P : PlV} {nd : Nat → Nat} {s : GoV} {w : Nat} (s6 : six P) (hH : ∀ u, u < P.2.2.length → nd u = 1 → tH P.2.2 u = true) (hw : w < 2) (I : trI P nd s) : trI P nd (tn2 P 0 w s) := by
  unfold tn2
  split
  · exact I
  · rename_i q
    split
    · exact I
    · obtain ⟨t, ht⟩ : ∃ t : Nat, rH (goR s) w = (t : Int) := ⟨(rH (goR s) w).toNat, by omega⟩
      have et : (rH (goR s) w).toNat = t := by omega
      rw [et]
      have hd := I.2.2.1 w hw t ht
      have k0 := I.1
      have key : ∀ s1 : GoV, s1.1 = s.1 → s1.2.2.2.1 = [] → rE (goR s1) = rE (goR s) → rH (goR s1) = rH (goR s) → rW (goR s1) = rW (goR s) → (∀ j, j ≠ w → rB (goR s1) j = rB (goR s) j) → rF (goR s1) = rF (goR s) → rT (goR s1) = rT (goR s) → (rB (goR s1) w).1 = exV P s.1 t → trI P nd (fnG 0 w t s1) := fun s1 a1 a2 a3 a4 a5 a6 a7 a8 hb => by
        refine fn_tr (s := s) (w := w) (t := t) s6 hH hw I ht ?_ ?_ ?_ ?_ ?_ ?_ ?_
        · show (if (rB (goR s1) w).1.1 = true then upO s1.1 t (rB (goR s1) w).1 else s1.1) = _
          rw [hb, a1]
        · show (if rW (goR s1) w = 2 then s1.2.2.2.1 else kpL 0 s1.2.2.2.1 (rB (goR s1) w).2.2 (rB (goR s1) w).1) = []
          unfold kpL
          rw [if_pos rfl, a2]
          split <;> rfl
        · show rE (fnR (goR s1) w t) = _
          unfold fnR
          rw [hb, ← a3]
          by_cases z : (exV P s.1 t).1 = true
          · rw [if_pos z, if_pos z]; rfl
          · rw [if_neg z, if_neg z]
            split <;> rfl
        · show rH (fnR (goR s1) w t) = _
          unfold fnR
          rw [← a4]
          split
          · rfl
          · split <;> rfl
        · show rW (fnR (goR s1) w t) = _
          unfold fnR
          rw [← a5]
          split
          · rfl
          · split <;> rfl
        · intro j hj
          rw [← a6 j hj]
          show rB (fnR (goR s1) w t) j = _
          unfold fnR
          split
          · rfl
          · split <;> rfl
        · show (rF (fnR (goR s1) w t), rT (fnR (goR s1) w t)) = _
          unfold fnR
          rw [hb, ← a7, ← a8]
          by_cases z : (exV P s.1 t).1 = true
          · rw [if_pos z, if_pos z]; rfl
          · rw [if_neg z, if_neg z]
            split <;> rfl
      obtain ⟨d1, d2, d3, d4, d5⟩ := hd
      unfold wrG
      rcases d5 with ⟨r0, ta⟩ | ⟨r2, rb, ta⟩
      · rw [if_pos (show rW (goR (ltG w s)) w = 0 from r0)]
        refine key _ rfl k0 rfl rfl rfl (fun j hj => if_neg hj) rfl rfl ?_
        show (upO (rB (goR (ltG w s))) w (wrkV (tD P.2.2 t) (tkI P (ltG w s).1 t), _, _) w).1 = _
        unfold upO exV
        rw [if_pos rfl, if_neg (fun z => z ta)]
        rfl
      · rw [if_neg (fun z => by have z : rW (goR s) w = 0 := z; omega)]
        refine key _ rfl k0 rfl rfl rfl (fun j hj => rfl) rfl rfl ?_
        show (rB (goR s) w).1 = _
        unfold exV
        rw [if_pos ta, rb]
theorem goG_tr {P : PlV} {nd : Nat → Nat} (s6 : six P) (hH : ∀ u, u < P.2.2.length → nd u = 1 → tH P.2.2 u = true) : ∀ {n : Nat} {s : GoV} {g : Bool} {k : Nat}, trI P nd s → trI P nd (goG P nd 0 n s g k).1
  | 0, s, g, k, I => I
  | n + 1, s, g, k, I => by
    rw [goG]
    split
    · exact goG_tr s6 hH (tn2_tr s6 hH (by decide) (tn1_tr (by decide) (tn2_tr s6 hH (by decide) (tn1_tr (by decide) I))))
    · exact I
