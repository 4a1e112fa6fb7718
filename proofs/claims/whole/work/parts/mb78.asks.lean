/-! the tie: what is to be told -/
/-- what is owed of solutions: the two searches find the same -/
def solQ (rs : List RuV) : Prop := (if (fsE rs).2.2.1 ≤ 5 then slTxt (fsE rs).2.1 5 else txt 4) = (if solR rs < 0 then txt 4 else slTxt (dgV (solR rs).toNat) 5) ∧ (if (fsE rs).2.2.1 ≤ 5 then txt 24 else reT rs 1365 (fun _ => -1) 0) = (if 0 ≤ solR rs then txt 24 else tmT rs 5 (fun _ => -1))
theorem ou_tie {rs : List RuV} (S : solQ rs) {t : Nat} (ht : 28 ≤ t) (nu : Nat → Int) (n : Nat) (l : List Nat) : ouM t rs nu n l = ouT t rs nu n l := by
  unfold ouM ouT
  by_cases q : t = 28
  · rw [if_pos q, if_pos q]
  rw [if_neg q, if_neg q]
  by_cases q : t = 29
  · rw [if_pos q, if_pos q]; exact S.1.symm
  rw [if_neg q, if_neg q]
  by_cases q : t = 30
  · rw [if_pos q, if_pos q]
  rw [if_neg q, if_neg q]
  by_cases q : t = 31
  · rw [if_pos q, if_pos q]; exact S.2.symm
  rw [if_neg q, if_neg q]
theorem chR_tie {v w : HoS} {t L : Nat} {f e : Int} {T : List Nat} (h : v.1.2.2 = w.1.2.2) (ht : t ≠ 21 ∨ f < 0) (C : chR t v L f e T) : chR t w 0 f e T := by
  unfold chR at C ⊢
  by_cases q : f < 0 ∨ e < 0
  · rw [if_pos q] at C ⊢; exact C
  · rw [if_neg q] at C ⊢
    have t21 : t ≠ 21 := ht.elim id (fun y => absurd (Or.inl y) q)
    rw [if_neg t21] at C ⊢
    rw [h] at C
    exact C
theorem kd_e : ∀ t : Fin 35, (kd t.val = 1 ↔ t.val ∈ [13, 14, 15, 16, 17, 18, 19, 20, 23, 26, 27, 33, 34]) ∧ (kd t.val = 2 ↔ t.val ∈ [21, 22, 24, 25]) ∧ (kd t.val = 3 ↔ t.val ∈ [28, 29, 30, 31, 32]) := by decide +kernel
theorem as_of {k L LZ : Nat} {l T : List Nat} {v w v' : HoS} {b b' : BkV} (I : cInv k v w) (S : solQ v.2.1) (er : qrR l = true) (h12 : 12 < qrT l) (h32 : qrT l ≤ 32) (sh : b.2.2.2 = false) (R : ansR L LZ l v b v' b' T) : asP w l v.1.1 T := by
  have t35 := (qr_ok er).2
  obtain ⟨k1, k2, k3⟩ := kd_e ⟨qrT l, t35⟩
  simp only at k1 k2 k3
  have e12 : v.1.2 = w.1.2 := I.2.1.1.1.symm
  unfold ansR at R
  rw [if_neg (by rw [er]; exact Bool.noConfusion), if_neg (fun z => by rw [sh] at z; exact absurd z.1 Bool.false_ne_true)] at R
  unfold asP
  by_cases c2 : kd (qrT l) = 2
  · rw [if_pos c2] at R
    have m := k2.mp c2
    simp only [List.mem_cons, List.not_mem_nil, or_false] at m
    rw [if_neg (by omega), if_neg (by omega), if_neg (by omega), if_pos c2]
    intro z
    have C := R.2.2
    rw [e12] at C
    exact chR_tie (by rw [e12]) z C
  rw [if_neg c2] at R
  by_cases c3 : kd (qrT l) = 3
  · rw [if_pos c3] at R
    have m := k3.mp c3
    simp only [List.mem_cons, List.not_mem_nil, or_false] at m
    rw [if_neg (by omega), if_neg (by omega), if_neg (by omega), if_neg c2, if_neg (by omega), R.2.2]
    unfold moT
    rw [if_neg (by omega), ← I.2.1.2.1, ou_tie S (by omega)]
  rw [if_neg c3] at R
  have c1 : kd (qrT l) = 1 := by
    have d0 := kd_0 ⟨qrT l, t35⟩
    simp only at d0
    exact Classical.byContradiction (fun z => by have := d0 z c2 c3; omega)
  rw [if_pos c1] at R
  have m := k1.mp c1
  simp only [List.mem_cons, List.not_mem_nil, or_false] at m
  obtain ⟨-, sel, cu, us, -, -, eT⟩ := R
  by_cases q : qrT l = 13
  · rw [if_pos q, eT]
    unfold shT
    rw [if_pos q]
  rw [if_neg q]
  by_cases q19 : qrT l = 19
  · rw [if_pos q19, eT, I.run]
    unfold shT
    rw [if_neg q, if_neg (by omega), if_neg (by omega), if_neg (by omega), if_neg (by omega), if_neg (by omega), if_pos q19]
  rw [if_neg q19]
  by_cases q23 : qrT l = 23
  · rw [if_pos q23]
    refine ⟨sel, by rw [← e12]; exact us q23, ?_⟩
    rw [eT]
    unfold shT
    rw [if_neg q, if_neg (by omega), if_neg (by omega), if_neg (by omega), if_neg (by omega), if_neg (by omega), if_neg q19, if_neg (by omega), if_pos q23, e12]
  rw [if_neg q23, if_neg c2]
  have se : ∀ (s s' : Nat → Bool) (c c' : Bool), qrT l ≠ 23 → qrT l ≠ 33 → qrT l ≠ 34 → shT (qrT l) v (qrA l (qrN l)).1 s c = shT (qrT l) v (qrA l (qrN l)).1 s' c' := fun s s' c c' n23 n33 n34 => by
    unfold shT
    rw [if_neg n23, if_neg n23]
    rcases m with y | y | y | y | y | y | y | y | y | y | y | y | y <;> first | exact absurd y n23 | exact absurd y n33 | exact absurd y n34 | simp [y]
  by_cases q20 : qrT l ≤ 20
  · rw [if_pos q20, eT, shT_tie I.2.1 ⟨q, q19⟩]
    exact se _ _ _ _ q23 (by omega) (by omega)
  · rw [if_neg q20, eT]
    unfold moT
    rw [if_pos (by omega), shT_tie I.2.1 ⟨q, q19⟩]
    exact se _ _ _ _ q23 (by omega) (by omega)
