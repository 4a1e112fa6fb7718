/-! the tie: a refutation told -/
def szN : Nat → Nat
  | 0 => 1
  | k + 1 => 1 + 4 * szN k
theorem dec_1d : ∀ n : Fin 10, dec n.val = [48 + n.val] := by decide +kernel
theorem up_same {vl : Nat → Int} {de : Nat} {v : Int} (h : vl de = -1) : up (up vl de v) de (-1) = vl := funext fun i => by
  unfold up
  by_cases q : i = de
  · rw [if_pos q, q, h]
  · rw [if_neg q, if_neg q]
theorem upI_2 {vl : Nat → Int} {de : Nat} {v u : Int} : up (up vl de v) de u = up vl de u := funext fun i => by
  unfold up
  by_cases q : i = de
  · rw [if_pos q, if_pos q]
  · rw [if_neg q, if_neg q, if_neg q]
/-- what lies behind the tree of the value v at de -/
theorem reN_v {rs : List RuV} {m de : Nat} {vl : Nat → Int} {v : Int} (hv : v ≠ 3) : reN rs m (up vl de v) (de + 1) = reT rs m (up vl de (v + 1)) (de + 1) := by
  have e : bk 3 (up vl de v) (de + 1) = (up vl de v, de + 1) := bk_end (Or.inr (by rw [Nat.add_sub_cancel]; unfold up; rw [if_pos rfl]; exact hv))
  unfold reN
  rw [e, if_neg (by show ¬ de + 1 = 0; omega)]
  show reT rs m (up (up vl de v) (de + 1 - 1) ((up vl de v) (de + 1 - 1) + 1)) (de + 1) = _
  rw [Nat.add_sub_cancel, show (up vl de v) de = v from if_pos rfl, upI_2]
theorem reN_3 {rs : List RuV} {m de : Nat} {vl : Nat → Int} (h : vl de = -1) : reN rs m (up vl de 3) (de + 1) = reN rs m vl de := by
  have e : bk 3 (up vl de 3) (de + 1) = bk 3 vl de := by
    rw [bk_step (by omega) (by rw [Nat.add_sub_cancel]; exact if_pos rfl), Nat.add_sub_cancel, up_same h]
  unfold reN
  rw [e]
theorem re_node {rs : List RuV} (r20 : rs.length ≤ 20) : ∀ (k : Nat) {de : Nat} {vl : Nat → Int}, de + k = 5 → (∀ j, de ≤ j → vl j = -1) → (∀ j, j < de → 0 ≤ vl j ∧ vl j ≤ 3) → (∀ w : Nat → Int, (∀ j, j < 5 → 0 ≤ w j ∧ w j ≤ 3) → (∀ j, 5 ≤ j → w j = -1) → 0 ≤ lwb rs w) → ∃ c, c ≤ szN k ∧ ∀ n, c ≤ n → reT rs n vl de = tmT rs k vl ++ reN rs (n - c) vl de := fun k => by
  have leaf : ∀ (k de : Nat) (vl : Nat → Int), 0 ≤ lwb rs vl → tmT rs k vl = lfT (lwb rs vl).toNat → ∃ c, c ≤ szN k ∧ ∀ n, c ≤ n → reT rs n vl de = tmT rs k vl ++ reN rs (n - c) vl de := fun k de vl h e => by
    refine ⟨1, by cases k with | zero => exact Nat.le_refl _ | succ k => (rw [szN]; omega), fun n hn => ?_⟩
    have g := (lwb_rg rs vl).2
    rw [re_l (by omega) (fun z => by omega), e]
    have a := dec_1d ⟨(lwb rs vl).toNat / 10, by omega⟩
    have b := dec_1d ⟨(lwb rs vl).toNat % 10, by omega⟩
    simp only at a b
    rw [a, b]
    unfold lfT
    rfl
  induction k with
  | zero =>
    intro de vl hde hv h0 H
    have d5 : de = 5 := by omega
    subst d5
    have h := H vl h0 hv
    exact leaf 0 5 vl h rfl
  | succ k ih =>
    intro de vl hde hv h0 H
    by_cases q : 0 ≤ lwb rs vl
    · exact leaf (k + 1) de vl q (by rw [tmT, if_pos q])
    · have d4 : 4 - k = de := by omega
      have ch : ∀ v : Int, 0 ≤ v → v ≤ 3 → ∃ c, c ≤ szN k ∧ ∀ n, c ≤ n → reT rs n (up vl de v) (de + 1) = tmT rs k (up vl de v) ++ reN rs (n - c) (up vl de v) (de + 1) := fun v v0 v3 => by
        refine ih (by omega) (fun j hj => ?_) (fun j hj => ?_) H
        · show (if j = de then v else vl j) = -1
          rw [if_neg (by omega)]; exact hv j (by omega)
        · show 0 ≤ (if j = de then v else vl j) ∧ (if j = de then v else vl j) ≤ 3
          by_cases z : j = de
          · rw [if_pos z]; exact ⟨v0, v3⟩
          · rw [if_neg z]; exact h0 j (by omega)
      obtain ⟨c0, b0, e0⟩ := ch 0 (by decide) (by decide)
      obtain ⟨c1, b1, e1⟩ := ch 1 (by decide) (by decide)
      obtain ⟨c2, b2, e2⟩ := ch 2 (by decide) (by decide)
      obtain ⟨c3, b3, e3⟩ := ch 3 (by decide) (by decide)
      refine ⟨1 + c0 + c1 + c2 + c3, by rw [szN]; omega, fun n hn => ?_⟩
      have dd := dec_1d ⟨de, by omega⟩
      simp only at dd
      rw [re_q (by omega) ⟨by omega, by omega⟩, e0 (n - 1) (by omega), reN_v (by decide), show (0 : Int) + 1 = 1 by decide, e1 (n - 1 - c0) (by omega), reN_v (by decide), show (1 : Int) + 1 = 2 by decide, e2 (n - 1 - c0 - c1) (by omega), reN_v (by decide), show (2 : Int) + 1 = 3 by decide, e3 (n - 1 - c0 - c1 - c2) (by omega), reN_3 (hv de (Nat.le_refl _)), tmT, if_neg q, d4, dd, show n - 1 - c0 - c1 - c2 - c3 = n - (1 + c0 + c1 + c2 + c3) by omega]
      simp only [List.append_assoc, List.cons_append, List.nil_append]
/-- without a solution both tell the same tree -/
theorem ref_eq {rs : List RuV} (r20 : rs.length ≤ 20) (H : ∀ w : Nat → Int, (∀ j, j < 5 → 0 ≤ w j ∧ w j ≤ 3) → (∀ j, 5 ≤ j → w j = -1) → 0 ≤ lwb rs w) : reT rs 1365 (fun _ => -1) 0 = tmT rs 5 (fun _ => -1) := by
  obtain ⟨c, hc, e⟩ := re_node r20 5 (de := 0) (vl := fun _ => -1) rfl (fun _ _ => rfl) (fun j hj => absurd hj (Nat.not_lt_zero _)) H
  have s : szN 5 = 1365 := by decide
  rw [e 1365 (by omega)]
  unfold reN
  rw [if_pos (show (bk 3 (fun _ => -1) 0).2 = 0 from rfl), List.append_nil]
