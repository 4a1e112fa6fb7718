/-! the tie: the class's search, as a tree -/
abbrev BeQ : Type := (Nat → Int) × Int
/-- the search below a node: values vl of the first 5 - k parts; best and fewest so far -/
def sbG (rs : List RuV) : Nat → (Nat → Int) → BeQ → BeQ
  | 0, vl, s => if (cnV vl 5 : Int) < s.2 ∧ lwb rs vl < 0 then (vl, (cnV vl 5 : Int)) else s
  | k + 1, vl, s => if (cnV vl (4 - k) : Int) < s.2 ∧ lwb rs vl < 0 then sbG rs k (up vl (4 - k) 0) (sbG rs k (up vl (4 - k) 1) (sbG rs k (up vl (4 - k) 2) (sbG rs k (up vl (4 - k) 3) s))) else s
/-- the state behind a node -/
def sbN (vl : Nat → Int) (s : BeQ) (de : Nat) : FsV := (if (bk 0 vl de).2 = 0 then (bk 0 vl de).1 else up (bk 0 vl de).1 ((bk 0 vl de).2 - 1) ((bk 0 vl de).1 ((bk 0 vl de).2 - 1) - 1), s.1, s.2, (bk 0 vl de).2, if (bk 0 vl de).2 ≠ 0 ∧ (bk 0 vl de).1 ((bk 0 vl de).2 - 1) - 1 = 0 then (cnV vl de : Int) - 1 else (cnV vl de : Int), decide ((bk 0 vl de).2 ≠ 0))
theorem cnV_cg {vl vl' : Nat → Int} : ∀ {n : Nat}, (∀ j, j < n → vl j = vl' j) → cnV vl n = cnV vl' n
  | 0, _ => rfl
  | n + 1, h => by rw [cnV, cnV, cnV_cg (fun j hj => h j (by omega)), h n (by omega)]
theorem cnV_up {vl : Nat → Int} {de : Nat} {v : Int} : cnV (up vl de v) (de + 1) = cnV vl de + (if 0 < v then 1 else 0) := by
  rw [cnV, cnV_cg (vl := up vl de v) (vl' := vl) (n := de) (fun j hj => by show (if j = de then v else vl j) = vl j; rw [if_neg (by omega)]), show (up vl de v) de = v from if_pos rfl]
theorem sbN_v {vl : Nat → Int} {s : BeQ} {de : Nat} {v : Int} (hv : 1 ≤ v) : sbN (up vl de v) s (de + 1) = (up vl de (v - 1), s.1, s.2, de + 1, (cnV (up vl de (v - 1)) (de + 1) : Int), true) := by
  have e : bk 0 (up vl de v) (de + 1) = (up vl de v, de + 1) := bk_end (Or.inr (by rw [Nat.add_sub_cancel]; unfold up; rw [if_pos rfl]; omega))
  unfold sbN
  rw [e]
  simp only [Nat.add_sub_cancel]
  rw [if_neg (by omega), show (up vl de v) de = v from if_pos rfl, upI_2, cnV_up, cnV_up, decide_eq_true (by omega : de + 1 ≠ 0)]
  by_cases q : v - 1 = 0
  · rw [if_pos ⟨by omega, q⟩, if_pos (by omega), if_neg (by omega)]
    simp
  · rw [if_neg (fun z => q z.2), if_pos (by omega), if_pos (by omega)]
theorem sbN_0 {vl : Nat → Int} {s : BeQ} {de : Nat} (h : vl de = -1) : sbN (up vl de 0) s (de + 1) = sbN vl s de := by
  have e : bk 0 (up vl de 0) (de + 1) = bk 0 vl de := by
    rw [bk_step (by omega) (by rw [Nat.add_sub_cancel]; exact if_pos rfl), Nat.add_sub_cancel, up_same h]
  unfold sbN
  have c0 : cnV (up vl de 0) (de + 1) = cnV vl de := by rw [cnV_up, if_neg (by decide), Nat.add_zero]
  rw [e, c0]
/-- a node that is not opened -/
theorem fsS_stop {rs : List RuV} {vl be : Nat → Int} {fw : Int} {de : Nat} (h : ¬ (fsR rs (vl, be, fw, de, (cnV vl de : Int), true) = true ∧ de < 5)) : fsS rs (vl, be, fw, de, (cnV vl de : Int), true) = sbN vl (if fsR rs (vl, be, fw, de, (cnV vl de : Int), true) = true then (vl, (cnV vl de : Int)) else (be, fw)) de := by
  unfold fsS
  rw [if_neg h]
  unfold sbN
  by_cases q : fsR rs (vl, be, fw, de, (cnV vl de : Int), true) = true
  · simp only [q, if_true]
  · simp only [q, if_false]
    rfl
theorem fsR_t {rs : List RuV} {vl be : Nat → Int} {fw th : Int} {de : Nat} {m : Bool} : fsR rs (vl, be, fw, de, th, m) = true ↔ th < fw ∧ lwb rs vl < 0 := by unfold fsR; exact decide_eq_true_iff
theorem fs_node {rs : List RuV} : ∀ (k : Nat) {de : Nat} {vl be : Nat → Int} {fw : Int}, de + k = 5 → (∀ j, de ≤ j → vl j = -1) → ∃ c, 0 < c ∧ c ≤ szN k ∧ ∀ n, c ≤ n → fsI rs n (vl, be, fw, de, (cnV vl de : Int), true) = fsI rs (n - c) (sbN vl (sbG rs k vl (be, fw)) de) := fun k => by
  induction k with
  | zero =>
    intro de vl be fw hde hv
    have d5 : de = 5 := by omega
    subst d5
    refine ⟨1, by decide, Nat.le_refl _, fun n hn => ?_⟩
    rw [fsI_on (by omega) rfl, fsS_stop (fun z => absurd z.2 (by decide)), sbG]
    by_cases q : (cnV vl 5 : Int) < fw ∧ lwb rs vl < 0
    · rw [if_pos (fsR_t.mpr q), if_pos q]
    · rw [if_neg (fun z => q (fsR_t.mp z)), if_neg q]
  | succ k ih =>
    intro de vl be fw hde hv
    have d4 : 4 - k = de := by omega
    by_cases q : (cnV vl de : Int) < fw ∧ lwb rs vl < 0
    · have ch : ∀ (v : Int) (s : BeQ), ∃ c, 0 < c ∧ c ≤ szN k ∧ ∀ n, c ≤ n → fsI rs n (up vl de v, s.1, s.2, de + 1, (cnV (up vl de v) (de + 1) : Int), true) = fsI rs (n - c) (sbN (up vl de v) (sbG rs k (up vl de v) s) (de + 1)) := fun v s => by
        refine ih (by omega) (fun j hj => ?_)
        show (if j = de then v else vl j) = -1
        rw [if_neg (by omega)]; exact hv j (by omega)
      obtain ⟨c3, p3, b3, e3⟩ := ch 3 (be, fw)
      obtain ⟨c2, p2, b2, e2⟩ := ch 2 (sbG rs k (up vl de 3) (be, fw))
      obtain ⟨c1, p1, b1, e1⟩ := ch 1 (sbG rs k (up vl de 2) (sbG rs k (up vl de 3) (be, fw)))
      obtain ⟨c0, p0, b0, e0⟩ := ch 0 (sbG rs k (up vl de 1) (sbG rs k (up vl de 2) (sbG rs k (up vl de 3) (be, fw))))
      refine ⟨1 + c3 + c2 + c1 + c0, by omega, by rw [szN]; omega, fun n hn => ?_⟩
      have o : fsS rs (vl, be, fw, de, (cnV vl de : Int), true) = (up vl de 3, be, fw, de + 1, (cnV (up vl de 3) (de + 1) : Int), true) := by
        unfold fsS
        rw [if_pos ⟨fsR_t.mpr q, by show de < 5; omega⟩, cnV_up, if_pos (by decide)]
        rfl
      rw [fsI_on (by omega) rfl, o, e3 (n - 1) (by omega), sbN_v (v := 3) (by decide), show (3 : Int) - 1 = 2 by decide, e2 (n - 1 - c3) (by omega), sbN_v (v := 2) (by decide), show (2 : Int) - 1 = 1 by decide, e1 (n - 1 - c3 - c2) (by omega), sbN_v (v := 1) (by decide), show (1 : Int) - 1 = 0 by decide, e0 (n - 1 - c3 - c2 - c1) (by omega), sbN_0 (hv de (Nat.le_refl _)), sbG, d4, if_pos q, show n - 1 - c3 - c2 - c1 - c0 = n - (1 + c3 + c2 + c1 + c0) by omega]
    · refine ⟨1, by decide, by rw [szN]; omega, fun n hn => ?_⟩
      rw [fsI_on (by omega) rfl, fsS_stop (fun z => q (fsR_t.mp z.1)), if_neg (fun z => q (fsR_t.mp z)), sbG, d4, if_neg q]
theorem fsE_G (rs : List RuV) : (fsE rs).2.1 = (sbG rs 5 (fun _ => -1) (fun _ => 0, 6)).1 ∧ (fsE rs).2.2.1 = (sbG rs 5 (fun _ => -1) (fun _ => 0, 6)).2 := by
  obtain ⟨c, c0, hc, e⟩ := fs_node (rs := rs) 5 (de := 0) (vl := fun _ => -1) (be := fun _ => 0) (fw := 6) rfl (fun _ _ => rfl)
  have s : szN 5 = 1365 := by decide
  have e := e 1365 (by omega)
  have eE : fsE rs = fsI rs (1365 - c) (sbN (fun _ => -1) (sbG rs 5 (fun _ => -1) (fun _ => 0, 6)) 0) := e
  have off : (sbN (fun _ => -1) (sbG rs 5 (fun _ => -1) (fun _ => 0, 6)) 0).2.2.2.2.2 = false := rfl
  rw [eE, fsI_off off]
  exact ⟨rfl, rfl⟩
