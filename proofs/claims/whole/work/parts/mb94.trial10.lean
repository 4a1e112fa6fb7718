/-! the tie: a trial session ends -/
theorem tr_rnd {P : PlV} {nd : Nat → Nat} {s : GoV} (s6 : six P) (fb : flB P.1) (hH : ∀ u, u < P.2.2.length → nd u = 1 → tH P.2.2 u = true) (I : trI P nd s) (B : hbN (goR s)) : trI P nd (trs P nd 0 s 2) ∧ hbN (goR (trs P nd 0 s 2)) ∧ phN P (goR (trs P nd 0 s 2)) ≤ phN P (goR s) ∧ (onB P nd s = true → phN P (goR (trs P nd 0 s 2)) < phN P (goR s)) := by
  have I1 : trI P nd (tn1 P nd 0 s) := tn1_tr (by decide) I
  have I2 : trI P nd (tn2 P 0 0 (tn1 P nd 0 s)) := tn2_tr s6 hH (by decide) I1
  have I3 : trI P nd (tn1 P nd 1 (tn2 P 0 0 (tn1 P nd 0 s))) := tn1_tr (by decide) I2
  have I4 : trI P nd (tn2 P 0 1 (tn1 P nd 1 (tn2 P 0 0 (tn1 P nd 0 s)))) := tn2_tr s6 hH (by decide) I3
  obtain ⟨b1, p1, q1, r1⟩ := tn1_ph (w := 0) s6 fb hH (by decide) I B
  obtain ⟨b2, p2, q2, r2⟩ := tn2_ph (w := 0) (by decide) I1 b1
  obtain ⟨b3, p3, q3, r3⟩ := tn1_ph (w := 1) s6 fb hH (by decide) I2 b2
  obtain ⟨b4, p4, q4, r4⟩ := tn2_ph (w := 1) (by decide) I3 b3
  have e : trs P nd 0 s 2 = tn2 P 0 1 (tn1 P nd 1 (tn2 P 0 0 (tn1 P nd 0 s))) := rfl
  rw [e]
  refine ⟨I4, b4, by omega, fun h => ?_⟩
  unfold onB at h
  have h := of_decide_eq_true h
  by_cases c0 : 0 ≤ rH (goR s) 0
  · have e1 := r1 c0
    have := q2 (by rw [e1]; exact c0)
    omega
  · by_cases c1 : 0 ≤ cho P nd (goR s)
    · have := q1 (by omega) c1
      omega
    · have h1 : 0 ≤ rH (goR s) 1 := h.elim (fun z => absurd z c0) (fun z => z.elim id (fun y => absurd y c1))
      have e1 : tn1 P nd 0 s = s := if_neg (fun z => c1 z.2)
      have e2 := r2 (by rw [e1]; omega)
      have e3 := r3 (by rw [e2, e1]; exact h1)
      have := q4 (by rw [e3, e2, e1]; exact h1)
      omega
theorem phN_ge {P : PlV} {r : RunV} (B : hbN r) : -726 ≤ phN P r := by
  have b0 := B 0 (by decide)
  have b1 := B 1 (by decide)
  unfold phN
  split
  · rename_i q
    have := b0 q
    split
    · rename_i q2
      have := b1 q2
      omega
    · omega
  · split
    · rename_i q2
      have := b1 q2
      omega
    · omega
theorem goG_no {P : PlV} {nd : Nat → Nat} {L : Nat} : ∀ {n : Nat} {s : GoV} {k : Nat}, goG P nd L n s false k = (s, false, k)
  | 0, _, _ => rfl
  | n + 1, _, _ => by rw [goG, if_neg (by decide)]
theorem go_end {P : PlV} {nd : Nat → Nat} (s6 : six P) (fb : flB P.1) (hH : ∀ u, u < P.2.2.length → nd u = 1 → tH P.2.2 u = true) : ∀ {n : Nat} {s : GoV} {k : Nat}, trI P nd s → hbN (goR s) → onB P nd s = true → phN P (goR s) + 727 < (n : Int) → (goG P nd 0 n s true k).2.1 = false ∧ onB P nd (goG P nd 0 n s true k).1 = false
  | 0, s, k, I, B, h, c => by have := phN_ge (P := P) B; omega
  | n + 1, s, k, I, B, h, c => by
    obtain ⟨i, b, -, d⟩ := tr_rnd s6 fb hH I B
    have d := d h
    have e : goG P nd 0 (n + 1) s true k = goG P nd 0 n (trs P nd 0 s 2) (onB P nd (trs P nd 0 s 2)) (k + 1) := by rw [goG, if_pos rfl]
    rw [e]
    cases q : onB P nd (trs P nd 0 s 2) with
    | true => exact go_end s6 fb hH i b q (by omega)
    | false => rw [goG_no]; exact ⟨rfl, q⟩
theorem go_end0 {P : PlV} {nd : Nat → Nat} (s6 : six P) (fb : flB P.1) (hH : ∀ u, u < P.2.2.length → nd u = 1 → tH P.2.2 u = true) {n : Nat} {s : GoV} {k : Nat} (I : trI P nd s) (B : hbN (goR s)) (c : phN P (goR s) + 727 < (n : Int)) : (goG P nd 0 (n + 1) s true k).2.1 = false ∧ onB P nd (goG P nd 0 (n + 1) s true k).1 = false := by
  obtain ⟨i, b, d, -⟩ := tr_rnd s6 fb hH I B
  have e : goG P nd 0 (n + 1) s true k = goG P nd 0 n (trs P nd 0 s 2) (onB P nd (trs P nd 0 s 2)) (k + 1) := by rw [goG, if_pos rfl]
  rw [e]
  cases q : onB P nd (trs P nd 0 s 2) with
  | true => exact go_end s6 fb hH i b q (by omega)
  | false => rw [goG_no]; exact ⟨rfl, q⟩
