/-! the order of names as numbers -/
def vl (l : List Nat) : Nat → Nat → Nat
  | _, 0 => 0
  | i, k + 1 => l.getD i 0 * 256 ^ k + vl l (i + 1) k
theorem vl_cons (a : Nat) (l : List Nat) : ∀ (k i : Nat), vl (a :: l) (i + 1) k = vl l i k
  | 0, _ => rfl
  | k + 1, i => by
    rw [vl, vl, vl_cons a l k (i + 1)]
    rfl
theorem vl_nil : ∀ (k i : Nat), vl [] i k = 0
  | 0, _ => rfl
  | k + 1, i => by
    rw [vl, vl_nil k (i + 1)]
    show 0 * _ + 0 = 0
    omega
theorem vl_lt {l : List Nat} (h : ∀ j, l.getD j 0 < 256) : ∀ (k i : Nat), vl l i k < 256 ^ k
  | 0, _ => by show 0 < 1; decide
  | k + 1, i => by
    have := vl_lt h k (i + 1)
    have a := h i
    rw [vl, Nat.pow_succ]
    have : l.getD i 0 * 256 ^ k ≤ 255 * 256 ^ k := Nat.mul_le_mul_right _ (by omega)
    omega
theorem cmp_vl : ∀ (k : Nat) (A B : List Nat), A.length ≤ k → B.length ≤ k → (∀ c ∈ A, 0 < c ∧ c < 256) → (∀ c ∈ B, 0 < c ∧ c < 256) → (cmpL A B < 0 ↔ vl A 0 k < vl B 0 k) ∧ (cmpL A B = 0 ↔ vl A 0 k = vl B 0 k)
  | 0, A, B, ha, hb, _, _ => by
    rw [List.length_eq_zero_iff.mp (by omega : A.length = 0), List.length_eq_zero_iff.mp (by omega : B.length = 0)]
    decide
  | k + 1, [], [], _, _, _, _ => by
    rw [vl_nil]
    simp [cmpL]
  | k + 1, [], b :: B, _, hb, _, h2 => by
    have b0 := (h2 b List.mem_cons_self).1
    have p : 0 < 256 ^ k := Nat.pow_pos (by decide)
    have : 0 < b * 256 ^ k := Nat.mul_pos b0 p
    rw [vl_nil, vl]
    show (-((b :: B).length : Int) < 0 ↔ _) ∧ (-((b :: B).length : Int) = 0 ↔ _)
    rw [List.length_cons]
    show (_ ↔ 0 < b * 256 ^ k + _) ∧ (_ ↔ 0 = b * 256 ^ k + _)
    omega
  | k + 1, a :: A, [], ha, _, h1, _ => by
    have a0 := (h1 a List.mem_cons_self).1
    have p : 0 < 256 ^ k := Nat.pow_pos (by decide)
    have : 0 < a * 256 ^ k := Nat.mul_pos a0 p
    rw [vl_nil, vl]
    show (((a :: A).length : Int) < 0 ↔ _) ∧ (((a :: A).length : Int) = 0 ↔ _)
    rw [List.length_cons]
    show (_ ↔ a * 256 ^ k + _ < 0) ∧ (_ ↔ a * 256 ^ k + _ = 0)
    omega
  | k + 1, a :: A, b :: B, ha, hb, h1, h2 => by
    have IH := cmp_vl k A B (by simp at ha; omega) (by simp at hb; omega) (fun c hc => h1 c (List.mem_cons_of_mem _ hc)) (fun c hc => h2 c (List.mem_cons_of_mem _ hc))
    have bA : ∀ j, A.getD j 0 < 256 := fun j => by
      rcases Nat.lt_or_ge j A.length with q | q
      · rw [List.getD_eq_getElem?_getD, List.getElem?_eq_getElem q]
        exact (h1 _ (List.mem_cons_of_mem _ (List.getElem_mem q))).2
      · rw [List.getD_eq_getElem?_getD, List.getElem?_eq_none q]; decide
    have bB : ∀ j, B.getD j 0 < 256 := fun j => by
      rcases Nat.lt_or_ge j B.length with q | q
      · rw [List.getD_eq_getElem?_getD, List.getElem?_eq_getElem q]
        exact (h2 _ (List.mem_cons_of_mem _ (List.getElem_mem q))).2
      · rw [List.getD_eq_getElem?_getD, List.getElem?_eq_none q]; decide
    have lA := vl_lt bA k 0
    have lB := vl_lt bB k 0
    rw [vl, vl, vl_cons, vl_cons]
    show ((if a = b then cmpL A B else (a : Int) - (b : Int)) < 0 ↔ a * 256 ^ k + _ < b * 256 ^ k + _) ∧ ((if a = b then cmpL A B else (a : Int) - (b : Int)) = 0 ↔ a * 256 ^ k + _ = b * 256 ^ k + _)
    by_cases q : a = b
    · rw [if_pos q, q, IH.1, IH.2]
      omega
    · rw [if_neg q]
      rcases Nat.lt_or_ge a b with z | z
      · have : (a + 1) * 256 ^ k ≤ b * 256 ^ k := Nat.mul_le_mul_right _ z
        rw [Nat.succ_mul] at this
        omega
      · have : (b + 1) * 256 ^ k ≤ a * 256 ^ k := Nat.mul_le_mul_right _ (by omega)
        rw [Nat.succ_mul] at this
        omega
/-- a name as a number -/
def kN (n : List Nat) : Nat := vl n 0 16
theorem okS_256 {n : List Nat} {m : Nat} (o : okS n m) : ∀ c ∈ n, 0 < c ∧ c < 256 := fun c hc => ⟨(o.2 c hc).1, by have := (o.2 c hc).2; omega⟩
theorem cmp_kN {n m : List Nat} (o : okP n) (p : okP m) : (cmpL n m < 0 ↔ kN n < kN m) ∧ (cmpL n m = 0 ↔ kN n = kN m) := cmp_vl 16 n m (by have := o.1; omega) (by have := p.1; omega) (okS_256 o) (okS_256 p)
theorem kN_inj {n m : List Nat} (o : okP n) (p : okP m) : kN n = kN m ↔ n = m := by rw [← (cmp_kN o p).2, cmpL_eq]
theorem pkN {n : List Nat} {m f : Nat} (o : okS n m) : (nameV n f n.length).toInt = (vl n f 8 : Nat) := by
  have d : ∀ j, (if f + j < n.length then n.getD (f + j) 0 else 0) = n.getD (f + j) 0 := fun j => by
    by_cases q : f + j < n.length
    · rw [if_pos q]
    · rw [if_neg q, List.getD_eq_getElem?_getD, List.getElem?_eq_none (by omega)]; rfl
  have b : ∀ j, n.getD (f + j) 0 < 128 := fun j => (o.at (f + j)).1
  unfold nameV
  rw [pad8_eq]
  simp only [d]
  have b0 := b 0
  have b1 := b 1
  have b2 := b 2
  have b3 := b 3
  have b4 := b 4
  have b5 := b 5
  have b6 := b 6
  have b7 := b 7
  have e := pk8 (a := n.getD (f + 0) 0) (b := n.getD (f + 1) 0) (c := n.getD (f + 2) 0) (d := n.getD (f + 3) 0) (e := n.getD (f + 4) 0) (f := n.getD (f + 5) 0) (g := n.getD (f + 6) 0) (i := n.getD (f + 7) 0) (by omega) (by omega) (by omega) (by omega) (by omega) (by omega) (by omega) (by omega)
  have v : vl n f 8 = ((((((n.getD (f + 0) 0 * 256 + n.getD (f + 1) 0) * 256 + n.getD (f + 2) 0) * 256 + n.getD (f + 3) 0) * 256 + n.getD (f + 4) 0) * 256 + n.getD (f + 5) 0) * 256 + n.getD (f + 6) 0) * 256 + n.getD (f + 7) 0 := by
    simp only [vl, Nat.add_assoc, Nat.reduceAdd, Nat.add_zero]
    omega
  rw [v, ← e]
  show BitVec.toInt _ = _
  rw [BitVec.toInt_eq_toNat_of_lt]
  rw [e]
  omega
theorem kN_2 (n : List Nat) : kN n = vl n 0 8 * 256 ^ 8 + vl n 8 8 := by
  unfold kN
  simp only [vl, Nat.add_assoc, Nat.reduceAdd, Nat.zero_add]
  omega
theorem ltP_kN {n m : List Nat} (o : okP n) (p : okP m) : ltP n m ↔ kN n < kN m := by
  unfold ltP
  rw [ltJ_iff]
  unfold hd tl
  rw [pkN o, pkN o, pkN p, pkN p, kN_2, kN_2]
  have a := vl_lt (l := n) (fun j => Nat.lt_trans (o.at j).1 (by decide)) 8 8
  have b := vl_lt (l := m) (fun j => Nat.lt_trans (p.at j).1 (by decide)) 8 8
  have e : (256 : Nat) ^ 8 = 18446744073709551616 := by decide
  rw [e] at a b ⊢
  omega
