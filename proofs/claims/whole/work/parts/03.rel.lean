/-! how the small machine's values and heap stand to the JVM's -/
theorem ir_iff {x : Int} : ir x = true ↔ InR x := by simp [ir, InR]
theorem i32_ok {x : Int} (h : InR x) : (i32 x).toInt = x := Int32.toInt_ofInt_of_le h.1 (by have := h.2; omega)
theorem i32_in (x : Int32) : InR x.toInt := ⟨x.le_toInt, by have := x.toInt_lt; omega⟩
theorem i32_of (x : Int32) : i32 x.toInt = x := Int32.ofInt_toInt x
theorem i32_eq {x y : Int} (hx : InR x) (hy : InR y) : i32 x = i32 y ↔ x = y := by
  rw [← Int32.toInt_inj, i32_ok hx, i32_ok hy]
theorem i32_lt {x y : Int} (hx : InR x) (hy : InR y) : i32 x < i32 y ↔ x < y := by
  rw [Int32.lt_iff_toInt_lt, i32_ok hx, i32_ok hy]
theorem i32_le {x y : Int} (hx : InR x) (hy : InR y) : i32 x ≤ i32 y ↔ x ≤ y := by
  rw [Int32.le_iff_toInt_le, i32_ok hx, i32_ok hy]
theorem InR_0 : InR 0 := ⟨by decide, by decide⟩
theorem i32_0 : i32 0 = 0 := rfl
theorem i32_add (x y : Int) : i32 x + i32 y = i32 (x + y) := (Int32.ofInt_add x y).symm
theorem i32_sub (x y : Int) : i32 x - i32 y = i32 (x - y) := (Int32.ofInt_sub x y).symm
theorem i32_mul (x y : Int) : i32 x * i32 y = i32 (x * y) := (Int32.ofInt_mul x y).symm
theorem InR_min {x : Int} (h : InR x) : Int32.minValue.toInt ≤ x ∧ x ≤ Int32.maxValue.toInt := h
theorem i32_div {x y : Int} (hx : InR x) (hy : InR y) : i32 x / i32 y = i32 (x.tdiv y) := (Int32.ofInt_tdiv hx.1 hx.2 hy.1 hy.2).symm
theorem i32_rem {x y : Int} (hx : InR x) (hy : InR y) : i32 x - i32 x / i32 y * i32 y = i32 (x.tmod y) := by
  rw [i32_div hx hy, i32_mul, i32_sub]
  congr 1
  rw [Int.tmod_def, Int.mul_comm]
theorem tdiv_in {x y : Int} (hx : InR x) (hy : 0 < y) : InR (x.tdiv y) := by
  have h : (x.tdiv y).natAbs ≤ x.natAbs := Int.natAbs_tdiv_le_natAbs x y
  have h1 := hx.1
  have h2 := hx.2
  by_cases h0 : 0 ≤ x
  · have : 0 ≤ x.tdiv y := Int.tdiv_nonneg h0 (by omega)
    exact ⟨by omega, by omega⟩
  · exact ⟨by omega, by
      have : x.tdiv y ≤ 0 := by
        rw [← Int.neg_neg x, Int.neg_tdiv]
        have : 0 ≤ (-x).tdiv y := Int.tdiv_nonneg (by omega) (by omega)
        omega
      omega⟩
theorem tmod_in {x y : Int} (hx : InR x) (hy : 0 < y) : InR (x.tmod y) := by
  have h1 := hx.1
  have h2 := hx.2
  have e : x.tmod y = x - y * x.tdiv y := Int.tmod_def x y
  by_cases h0 : 0 ≤ x
  · have a : 0 ≤ x.tmod y := Int.tmod_nonneg y h0
    have b : x.tmod y ≤ x := by
      have : 0 ≤ x.tdiv y := Int.tdiv_nonneg h0 (by omega)
      have : 0 ≤ y * x.tdiv y := Int.mul_nonneg (by omega) this
      omega
    exact ⟨by omega, by omega⟩
  · have g : x.tmod y = -((-x).tmod y) := by rw [Int.neg_tmod, Int.neg_neg]
    have a : 0 ≤ (-x).tmod y := Int.tmod_nonneg y (by omega)
    have b : (-x).tmod y ≤ -x := by
      have e2 : (-x).tmod y = -x - y * (-x).tdiv y := Int.tmod_def (-x) y
      have : 0 ≤ (-x).tdiv y := Int.tdiv_nonneg (by omega) (by omega)
      have : 0 ≤ y * (-x).tdiv y := Int.mul_nonneg (by omega) this
      omega
    exact ⟨by omega, by omega⟩
/-- a value in the JVM -/
def cv : MV → Value
  | .inl x => .int (i32 x)
  | .inr (.inl x) => .long x
  | .inr (.inr x) => va_rf x
def vok : MV → Prop
  | .inl x => InR x
  | _ => True
theorem cv_cat1 {v : MV} (h : ∀ x, v ≠ .inr (.inl x)) : (cv v).category = 1 := by
  rcases v with x | x | x
  · rfl
  · exact absurd rfl (h x)
  · cases x <;> rfl
theorem cv_cat2 (x : Int64) : (cv (vJ x)).category = 2 := rfl
theorem cv_inj2 {v : MV} : (cv v).category = 2 ↔ ∃ x, v = vJ x := by
  rcases v with x | x | x
  · exact ⟨fun h => by simp [cv, Value.category] at h, fun ⟨x, h⟩ => by cases h⟩
  · exact ⟨fun _ => ⟨x, rfl⟩, fun _ => rfl⟩
  · exact ⟨fun h => by cases x <;> simp [cv, va_rf, Value.category] at h, fun ⟨x, h⟩ => by cases h⟩
/-! locals -/
def asc (l : List (Option MV)) : List (Nat × Value) := (List.range l.length).filterMap fun i => (l[i]?.join).map fun w => (i, cv w)
theorem mem_asc {l : List (Option MV)} {q : Nat × Value} : q ∈ asc l ↔ ∃ w, l[q.1]? = some (some w) ∧ q.2 = cv w := by
  unfold asc
  rw [List.mem_filterMap]
  constructor
  · rintro ⟨i, hi, h⟩
    rw [Option.map_eq_some_iff] at h
    obtain ⟨w, hw, rfl⟩ := h
    refine ⟨w, ?_, rfl⟩
    cases hl : l[i]? with
    | none => rw [hl] at hw; cases hw
    | some o => rw [hl] at hw; cases o with
      | none => cases hw
      | some z => cases hw; rfl
  · rintro ⟨w, hw, h2⟩
    obtain ⟨i, v⟩ := q
    dsimp only at hw h2
    subst h2
    refine ⟨i, ?_, ?_⟩
    · rw [List.mem_range]
      exact (List.getElem?_eq_some_iff.mp hw).1
    · rw [hw]; rfl
/-- the JVM's locals hold what the small machine's list has -/
def LR (ls : Array Slot) (l : List (Option MV)) : Prop := lv_has ls l.length (asc l)
theorem LR.at {ls : Array Slot} {l : List (Option MV)} (h : LR ls l) {i : Nat} {w : MV} (hw : l[i]? = some (some w)) : ls[i]? = some (.val (cv w)) := h.2.2 (i, cv w) (mem_asc.mpr ⟨w, hw, rfl⟩)
theorem lcl_len (l : List (Option MV)) (i : Nat) : (lcl l i).length = l.length := by
  unfold lcl
  split
  · rfl
  · split
    · rw [List.length_set]
    · rfl
theorem lcl_get {l : List (Option MV)} {i j : Nat} {w : MV} (h : (lcl l i)[j]? = some (some w)) : l[j]? = some (some w) ∧ ¬ (j + 1 = i ∧ ∃ x, w = vJ x) := by
  unfold lcl at h
  split at h
  · exact ⟨h, fun ⟨q, _⟩ => by omega⟩
  · rename_i j'
    split at h
    · rename_i x hx
      by_cases e : j = j'
      · subst e
        rw [List.getElem?_set_self (List.getElem?_eq_some_iff.mp hx).1] at h
        cases h
      · rw [List.getElem?_set_ne (Ne.symm e)] at h
        exact ⟨h, fun ⟨q, _⟩ => e (by omega)⟩
    · rename_i hx
      refine ⟨h, ?_⟩
      rintro ⟨q, x, rfl⟩
      have : j = j' := by omega
      subst this
      exact hx x h
theorem LR.set1 {ls' : Array Slot} {l : List (Option MV)} {i : Nat} {v : MV} (hi : i < l.length)
    (h : lv_has ls' l.length ((i, cv v) :: (asc l).filter (fun q => !(q.1 == i) && !(q.1 + 1 == i && q.2.category == 2)))) : LR ls' ((lcl l i).set i (some v)) := by
  obtain ⟨h1, h2, h3⟩ := h
  refine ⟨by rw [List.length_set, lcl_len]; exact h1, h2, ?_⟩
  intro q hq
  obtain ⟨w, hw, hv⟩ := mem_asc.mp hq
  by_cases e : q.1 = i
  · rw [e, List.getElem?_set_self (by rw [lcl_len]; exact hi)] at hw
    cases hw
    rw [hv, e]
    exact h3 (i, cv v) List.mem_cons_self
  · rw [List.getElem?_set_ne (Ne.symm e)] at hw
    obtain ⟨g1, g2⟩ := lcl_get hw
    refine h3 q (List.mem_cons_of_mem _ (List.mem_filter.mpr ⟨mem_asc.mpr ⟨w, g1, hv⟩, ?_⟩))
    rw [hv]
    simp only [Bool.and_eq_true, Bool.not_eq_true', beq_eq_false_iff_ne, ne_eq, Bool.and_eq_false_imp, beq_iff_eq]
    exact ⟨e, fun z => by
      intro z2
      exact g2 ⟨z, cv_inj2.mp z2⟩⟩
theorem LR.set2 {ls' : Array Slot} {l : List (Option MV)} {i : Nat} {x : Int64} (hi : i + 1 < l.length)
    (h : lv_has ls' l.length ((i, Value.long x) :: (asc l).filter (fun q => !(q.1 == i) && (!(q.1 == i + 1) && !(q.1 + 1 == i && q.2.category == 2))))) : LR ls' (((lcl l i).set i (some (vJ x))).set (i + 1) none) := by
  obtain ⟨h1, h2, h3⟩ := h
  refine ⟨by rw [List.length_set, List.length_set, lcl_len]; exact h1, h2, ?_⟩
  intro q hq
  obtain ⟨w, hw, hv⟩ := mem_asc.mp hq
  by_cases e2 : q.1 = i + 1
  · rw [e2, List.getElem?_set_self (by rw [List.length_set, lcl_len]; exact hi)] at hw
    cases hw
  · rw [List.getElem?_set_ne (Ne.symm e2)] at hw
    by_cases e : q.1 = i
    · rw [e, List.getElem?_set_self (by rw [lcl_len]; omega)] at hw
      cases hw
      rw [hv, e]
      exact h3 (i, Value.long x) List.mem_cons_self
    · rw [List.getElem?_set_ne (Ne.symm e)] at hw
      obtain ⟨g1, g2⟩ := lcl_get hw
      refine h3 q (List.mem_cons_of_mem _ (List.mem_filter.mpr ⟨mem_asc.mpr ⟨w, g1, hv⟩, ?_⟩))
      rw [hv]
      simp only [Bool.and_eq_true, Bool.not_eq_true', beq_eq_false_iff_ne, ne_eq, Bool.and_eq_false_imp, beq_iff_eq]
      exact ⟨e, e2, fun z => by
        intro z2
        exact g2 ⟨z, cv_inj2.mp z2⟩⟩
