/-! the tie: a trial session ends -/
theorem wrk_len {t : TgV} {ins : List (List Nat)} : (oO (wrkV t ins)).length ≤ 600 ∧ (oF (wrkV t ins)).length ≤ 600 := by
  have f : ∀ T Y F : List Nat, F.length ≤ T.length → (oO (finV T Y F)).length ≤ 600 ∧ (oF (finV T Y F)).length ≤ 600 := fun T Y F h => by
    unfold finV
    split
    · exact ⟨Nat.zero_le _, Nat.zero_le _⟩
    · split
      · exact ⟨Nat.zero_le _, Nat.zero_le _⟩
      · exact ⟨by show T.length ≤ 600; omega, by show F.length ≤ 600; omega⟩
  unfold wrkV
  split
  · exact f _ _ _ (wsT_le _)
  · exact f _ _ _ (Nat.le_refl _)
theorem trI_len {P : PlV} {nd : Nat → Nat} {s : GoV} (I : trI P nd s) (v : Nat) (h : (s.1 v).1 = true) : (oO (s.1 v)).length ≤ 600 ∧ (oF (s.1 v)).length ≤ 600 := by
  obtain ⟨b1, b2, b3, b4, b5⟩ := I.2.1 v
  have e1 : rE (goR s) v = 1 := Classical.byContradiction (fun z => by rw [b5 z] at h; exact absurd h (by decide))
  rw [(b3 e1).1]
  unfold exV
  split
  · exact ⟨Nat.zero_le _, Nat.zero_le _⟩
  · exact wrk_len
theorem tkS_le {P : PlV} {nd : Nat → Nat} {s : GoV} {t : Nat} (s6 : six P) (fb : flB P.1) (I : trI P nd s) (ht : t < P.2.2.length) (hH : tH P.2.2 t = true) (rd : rdyB P.2.2 (rE (goR s)) t = true) : tkS P s.1 t ≤ 362 := by
  have n6 := s6.2 t ht
  have l : (tkI P s.1 t).length = (tgI (tD P.2.2 t)).length := by unfold tkI inpL; exact List.length_map ..
  have b : ∀ i, i < (tkI P s.1 t).length → ((tkI P s.1 t).getD i []).length ≤ 600 := fun i hi => by
    have hi' : i < (tgI (tD P.2.2 t)).length := by omega
    unfold tkI inpL
    rw [List.getD_eq_getElem?_getD, List.getElem?_map, List.getElem?_eq_getElem hi']
    show (inpV P.1 P.2.2 s.1 _ (tgI (tD P.2.2 t))[i]).length ≤ 600
    unfold inpV
    split
    · rename_i z
      split
      · rename_i y
        have gk : (tgI (tD P.2.2 t)).getD i (false, []) = (tgI (tD P.2.2 t))[i] := by rw [List.getD_eq_getElem?_getD, List.getElem?_eq_getElem hi']; rfl
        have ed : edge P.2.2 t (tat P.2.2 (tgI (tD P.2.2 t))[i].2).toNat := taT_edge ht hH hi' (by
          unfold taT inB inN
          rw [gk, if_pos z]
          omega)
        have e1 := rdy_e s6 rd ed
        have r := ((I.2.1 _).2.2.1 e1)
        have rl := trI_len I _ (by rw [r.1]; exact r.2)
        split
        · exact rl.2
        · exact rl.1
      · exact Nat.zero_le _
    · split
      · exact fb _
      · exact Nat.zero_le _
  have T := totL_le (ins := tkI P s.1 t) (n := (tkI P s.1 t).length) b
  have : 600 * (tkI P s.1 t).length ≤ 3600 := by omega
  unfold tkS
  omega
