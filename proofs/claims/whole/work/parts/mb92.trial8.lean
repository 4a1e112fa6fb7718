/-! the tie: a trial session ends: what is left gets less -/
def cnE (E : Nat → Nat) : Nat → Nat
  | 0 => 0
  | n + 1 => cnE E n + (if E n = 0 then 1 else 0)
theorem cnE_le {E : Nat → Nat} : ∀ n, cnE E n ≤ n
  | 0 => Nat.le_refl _
  | n + 1 => by have := cnE_le (E := E) n; rw [cnE]; split <;> omega
theorem cnE_cg {E E' : Nat → Nat} : ∀ {n : Nat}, (∀ j, j < n → E j = E' j) → cnE E n = cnE E' n
  | 0, _ => rfl
  | n + 1, h => by rw [cnE, cnE, cnE_cg (fun j hj => h j (by omega)), h n (by omega)]
theorem cnE_up {E : Nat → Nat} {t x : Nat} (h0 : E t = 0) (hx : x ≠ 0) : ∀ {n : Nat}, t < n → cnE (upN E t x) n + 1 = cnE E n
  | 0, h => absurd h (Nat.not_lt_zero _)
  | n + 1, h => by
    rw [cnE, cnE]
    by_cases q : t = n
    · subst q
      rw [cnE_cg (E := upN E t x) (E' := E) (n := t) (fun j hj => if_neg (by omega)), show upN E t x t = x from if_pos rfl, if_neg hx, if_pos h0]
    · have := cnE_up h0 hx (n := n) (by omega)
      rw [show upN E t x n = E n from if_neg (fun z => q z.symm)]
      omega
def phN (P : PlV) (r : RunV) : Int := 365 * (cnE (rE r) P.2.2.length : Int) - (if 0 ≤ rH r 0 then 364 - rL r 0 else 0) - (if 0 ≤ rH r 1 then 364 - rL r 1 else 0)
def hbN (r : RunV) : Prop := ∀ w, w < 2 → 0 ≤ rH r w → 1 ≤ rL r w ∧ rL r w ≤ 363
theorem tn1_ph {P : PlV} {nd : Nat → Nat} {s : GoV} {w : Nat} (s6 : six P) (fb : flB P.1) (hH : ∀ u, u < P.2.2.length → nd u = 1 → tH P.2.2 u = true) (hw : w < 2) (I : trI P nd s) (B : hbN (goR s)) : hbN (goR (tn1 P nd w s)) ∧ phN P (goR (tn1 P nd w s)) ≤ phN P (goR s) ∧ (rH (goR s) w < 0 → 0 ≤ cho P nd (goR s) → phN P (goR (tn1 P nd w s)) < phN P (goR s)) ∧ (0 ≤ rH (goR s) w → tn1 P nd w s = s) := by
  unfold tn1
  by_cases q : rH (goR s) w < 0 ∧ 0 ≤ cho P nd (goR s)
  · rw [if_pos q]
    obtain ⟨t, ht⟩ : ∃ t : Nat, cho P nd (goR s) = (t : Int) := ⟨(cho P nd (goR s)).toNat, by have := q.2; omega⟩
    have et : (cho P nd (goR s)).toNat = t := by omega
    rw [et]
    have tl : t < P.2.2.length := by
      have g := (chs_rg P.2.2 nd (rE (goR s)) (rH (goR s))).2
      unfold cho at ht
      omega
    obtain ⟨c1, c2, c3, c4, c5⟩ := chs_t (show chs P.2.2 nd (rE (goR s)) (rH (goR s)) = (t : Int) from ht)
    have ks := tkS_le s6 fb I tl (hH t tl c1) c5
    have fin : ∀ r' : RunV, rE r' = rE (goR s) → rH r' = up (rH (goR s)) w (t : Int) → (∃ sv : Int, 1 ≤ sv ∧ sv ≤ 363 ∧ rL r' = up (rL (goR s)) w sv) → hbN r' ∧ phN P r' < phN P (goR s) := fun r' e1 e2 ⟨sv, v1, v2, e3⟩ => by
      constructor
      · intro j hj h
        rw [e2] at h
        rw [e3]
        unfold up at h ⊢
        by_cases z : j = w
        · rw [if_pos z]; exact ⟨v1, v2⟩
        · rw [if_neg z] at h ⊢; exact B j hj h
      · unfold phN
        rw [e1, e2, e3]
        have q1 := q.1
        have ua : ∀ (f : Nat → Int) (x : Int) (a : Nat), up f a x a = x := fun f x a => if_pos rfl
        have ub : ∀ (f : Nat → Int) (x : Int) (a c : Nat), c ≠ a → up f a x c = f c := fun f x a c h => if_neg h
        rcases (show w = 0 ∨ w = 1 by omega) with z | z
        · subst z
          rw [ua, ua, ub _ _ 0 1 (by decide), ub _ _ 0 1 (by decide), if_pos (by omega : (0 : Int) ≤ (t : Int)), if_neg (by omega : ¬ 0 ≤ rH (goR s) 0)]
          omega
        · subst z
          rw [ua, ua, ub _ _ 1 0 (by decide), ub _ _ 1 0 (by decide), if_pos (by omega : (0 : Int) ≤ (t : Int)), if_neg (by omega : ¬ 0 ≤ rH (goR s) 1)]
          omega
    have F : hbN (tkR P s.1 s.2.2.2.1 (goR s) w t) ∧ phN P (tkR P s.1 s.2.2.2.1 (goR s) w t) < phN P (goR s) := by
      unfold tkR
      split
      · exact fin _ rfl rfl ⟨1, by decide, by decide, rfl⟩
      · split
        · exact fin _ rfl rfl ⟨1, by decide, by decide, rfl⟩
        · have ts : (1 : Int) ≤ (tkS P s.1 t : Nat) := by unfold tkS; omega
          split
          · exact fin _ rfl rfl ⟨_, ts, by omega, rfl⟩
          · exact fin _ rfl rfl ⟨_, ts, by omega, rfl⟩
    exact ⟨F.1, Int.le_of_lt F.2, fun _ _ => F.2, fun h => by have := q.1; omega⟩
  · rw [if_neg q]
    exact ⟨B, Int.le_refl _, fun h1 h2 => absurd ⟨h1, h2⟩ q, fun _ => rfl⟩
