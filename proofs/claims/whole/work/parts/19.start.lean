/-! the start: what the statement's words give of the state -/
section START
variable {s : State} {args : Array Value}
theorem fitE (hF : heapFits s = true) {a : Nat} {cell : Cell} {ty : FieldType} (hc : s.heap[a]? = some cell) (ha : s.isArrayOf cell ty) {j : Nat} {v : Value} (hv : cell.slots[j]? = some v) : fits ty v = true := by
  have h1 : cellFits s cell = true := by
    unfold heapFits at hF
    rw [Array.all_eq_true] at hF
    obtain ⟨hlt, he⟩ := Array.getElem?_eq_some_iff.mp hc
    have h2 := hF a hlt
    rwa [he] at h2
  unfold cellFits at h1
  have h2 := List.all_eq_true.mp h1 j (List.mem_range.mpr (Array.getElem?_eq_some_iff.mp hv).1)
  rw [hv] at h2
  obtain ⟨hobj, k, hk, comp, hkind⟩ := ha
  cases hvm : cell.vm <;> first | exact absurd hvm (hobj _) | simpa [State.fitsSlot, State.slotType?, hvm, hk, hkind] using h2
def Ob (s : State) (C : String) (a : Nat) : Prop := ∃ cell : Cell, s.heap[a]? = some cell ∧ s.vm.findClass C = some cell.cls ∧ (∃ (j x : Nat), cell.slots[j]? = some (.ref x)) ∧ ∃ (j : Nat) (x : Int32), cell.slots[j]? = some (.int x)
def Ay (s : State) (ty : FieldType) (a : Nat) : Prop := ∃ cell : Cell, s.heap[a]? = some cell ∧ s.isArrayOf cell ty
theorem ob_ay (hF : heapFits s = true) {C : String} {a : Nat} {ty : FieldType} (h : Ob s C a) (h2 : Ay s ty a) (hty : ty = .int ∨ ty = .byte ∨ ∃ n, ty = .object n) : False := by
  obtain ⟨cell, h1, -, ⟨j, x, hr⟩, ⟨j2, x2, hi⟩⟩ := h
  obtain ⟨cell', g1, g2⟩ := h2
  cases h1.symm.trans g1
  have q1 := fitE hF h1 g2 hr
  have q2 := fitE hF h1 g2 hi
  rcases hty with rfl | rfl | ⟨n, rfl⟩
  · cases q1
  · cases q1
  · cases q2
theorem ay_ay {a : Nat} {t u : FieldType} (h : Ay s t a) (h2 : Ay s u a) : t = u := by
  obtain ⟨cell, h1, -, k, hk, comp, hkind⟩ := h
  obtain ⟨cell', g1, -, k', hk', comp', hkind'⟩ := h2
  cases h1.symm.trans g1
  cases hk.symm.trans hk'
  rw [hkind] at hkind'
  cases hkind'
  rfl
theorem ob_ob {a : Nat} {C E : String} (h : Ob s C a) (h2 : Ob s E a) : C = E := by
  obtain ⟨cell, h1, hc, -⟩ := h
  obtain ⟨cell', g1, hc', -⟩ := h2
  cases h1.symm.trans g1
  unfold Vm.findClass at hc hc'
  obtain ⟨l1, p1, -⟩ := Array.findIdx?_eq_some_iff_getElem.mp hc
  obtain ⟨l2, p2, -⟩ := Array.findIdx?_eq_some_iff_getElem.mp hc'
  simp only [Bool.and_eq_true, beq_iff_eq] at p1 p2
  exact p1.1.1.1.symm.trans p2.1.1.1
theorem va_T_ay {ty : FieldType} {t N : Nat} {f : Nat → Value} {A : Nat → Prop} (h : va_T ty t N f A s s.heap) : Ay s ty t := by
  obtain ⟨cell, h1, h2, -⟩ := h
  exact ⟨cell, h1, h2⟩
def vInt : Option Value → Int
  | some (.int x) => x.toInt
  | _ => 0
def vRef : Option Value → Option Nat
  | some (.ref x) => some x
  | _ => none
theorem vInt_in (v : Option Value) : InR (vInt v) := by
  unfold vInt
  split
  · exact i32_in _
  · exact InR_0
def hIn (s : State) (b j : Nat) : Option Value := (s.heap[b]?).bind fun c => c.slots[j]?
theorem hIn_of {b j : Nat} {cell : Cell} {v : Value} (h1 : s.heap[b]? = some cell) (h2 : cell.slots[j]? = some v) : hIn s b j = some v := by
  unfold hIn
  rw [h1]
  exact h2
/-- a String of the start's: its object, its bytes -/
theorem str_ok (hs : startC.before args s = true) {i : Nat} (hi : i < 89) {A : Nat → Prop} (hA : ∀ a : Nat, a < s.heap.size → ¬ A a) :
    ∃ a b, (tX i).eval args s none [] s = some (.ref a) ∧ va_O "java/lang/String" a A s s.heap ∧ va_OF "java/lang/String" "coder" "B" (.int 0) a A s s.heap ∧ va_OF "java/lang/String" "value" "[B" (.ref b) a A s s.heap ∧
      va_T .byte b (txt i).length (fun j => .int (Int32.ofNat ((txt i).getD j 0))) A s s.heap ∧ s.fieldOf? a "java/lang/String" "coder" "B" = some (.int 0) ∧ s.fieldOf? a "java/lang/String" "value" "[B" = some (.ref b) ∧ Ob s "java/lang/String" a := by
  have h0 := all_range txt_c hi
  simp only [Bool.and_eq_true, decide_eq_true_eq] at h0
  have hw := isPart_b hs h0.1.1
  have w1 := hw (.exactly (tX i) "java/lang/String") (by simp [txW])
  have w2 := hw (.eq (.field (tX i) "java/lang/String" "coder" "B") (.int 0)) (by simp [txW])
  have w3 := hw (.arrayOf (tV (tX i)) .byte) (by simp [txW])
  have w4 := hw (.eq (.length (tV (tX i))) (.int (Int32.ofNat (txt i).length))) (by simp [txW])
  have w5 : ∀ j, j < (txt i).length → (Cond.eq (.elem (tV (tX i)) (.int (Int32.ofNat j))) (.int (Int32.ofNat ((txt i).getD j 0)))).before args s = true := fun j hj => hw _ (by
    unfold txW
    exact List.mem_cons_of_mem _ (List.mem_cons_of_mem _ (List.mem_cons_of_mem _ (List.mem_cons_of_mem _ (List.mem_map.mpr ⟨j, List.mem_range.mpr hj, rfl⟩)))))
  obtain ⟨a, c, cA, kA, q1, q2, q3, q4, q5, q6, -⟩ := Cond.exactly_spec (args := args) (first := s) (o := none) (s := s) (idx := []) (t := tX i) (cls := "java/lang/String") w1
  obtain ⟨t, ht, hT⟩ := va_Tof (f := fun j => .int (Int32.ofNat ((txt i).getD j 0))) (A := A) (by omega) w3 (va_eqt w4) (fun j hj => va_eqt (w5 j hj)) hA
  have f1 := va_eqt w2
  have o1 := vk_OFof (A := A) q1 f1 hA
  have o2 := vk_OFof (A := A) q1 (show (Term.field (tX i) "java/lang/String" "value" "[B").eval args s none [] s = some (.ref t) from ht) hA
  refine ⟨a, t, q1, ⟨cA, q3, q5, by rw [q6]; exact q2, hA a (Array.getElem?_eq_some_iff.mp q3).1⟩, o1, o2, hT, ?_, ?_, ?_⟩
  · rw [← va_fe q1]; exact f1
  · rw [← va_fe q1]; exact ht
  · obtain ⟨_, _, _, _, cell1, -, -, e1, -, e2, -⟩ := o1
    obtain ⟨_, _, _, _, cell2, -, -, g1, -, g2, -⟩ := o2
    cases q3.symm.trans e1
    cases q3.symm.trans g1
    exact ⟨cA, q3, by rw [q6]; exact q2, ⟨_, _, g2⟩, ⟨_, _, e2⟩⟩
/-- a mention of a text is its first mention's String -/
theorem men_ok (hs : startC.before args s = true) {o idx g pos : Nat} (ho : o < 22) (hm : (idx, g, pos) ∈ strT.getD o []) {a : Nat} (ha : (tX (g - 50)).eval args s none [] s = some (.ref a)) : 50 ≤ g ∧ g < 139 ∧ isW pos (.stringRef (onm o) idx (txtT.getD (g - 50) "")) = true ∧ (tS o idx).eval args s none [] s = some (.ref a) := by
  obtain ⟨i, hi⟩ := List.getElem?_of_mem hm
  have h0 := all_range (all_range eqs_c ho) (List.getElem?_eq_some_iff.mp hi).1
  rw [hi] at h0
  unfold eqOk at h0
  simp only [Bool.and_eq_true, decide_eq_true_eq] at h0
  obtain ⟨⟨⟨h1, h2⟩, h3⟩, h4⟩ := h0
  refine ⟨h1, h2, h3, ?_⟩
  split at h4
  · rw [decide_eq_true_eq] at h4
    have e : tX (g - 50) = tS o idx := by unfold tX; rw [h4]
    rw [← e]
    exact ha
  · split at h4
    · exact va_eqR (isPart_b hs h4 _ List.mem_cons_self) ha
    · exact va_eqv (isPart_b hs h4 _ List.mem_cons_self) ha
theorem vrb_ok (hs : startC.before args s = true) {t : Nat} (ht : t < 35) {A : Nat → Prop} (hA : ∀ a : Nat, a < s.heap.size → ¬ A a) {aK : Nat → Nat} (hK : ∀ i, i < 89 → (tX i).eval args s none [] s = some (.ref (aK i))) :
    ∃ a, (vtm t).eval args s none [] s = some (.ref a) ∧ va_O "BuildHouse$Verb" a A s s.heap ∧ va_OF "BuildHouse$Verb" "word" "Ljava/lang/String;" (.ref (aK (vbW.getD t 0))) a A s s.heap ∧ va_OF "BuildHouse$Verb" "form" "Ljava/lang/String;" (.ref (aK (vbF.getD t 0))) a A s s.heap ∧ va_OF "BuildHouse$Verb" "kind" "I" (.int (Int32.ofNat (vbK.getD t 0))) a A s s.heap ∧ va_OF "java/lang/Enum" "ordinal" "I" (.int (Int32.ofNat t)) a A s s.heap ∧
      s.fieldOf? a "BuildHouse$Verb" "word" "Ljava/lang/String;" = some (.ref (aK (vbW.getD t 0))) ∧ s.fieldOf? a "BuildHouse$Verb" "form" "Ljava/lang/String;" = some (.ref (aK (vbF.getD t 0))) ∧ s.fieldOf? a "BuildHouse$Verb" "kind" "I" = some (.int (Int32.ofNat (vbK.getD t 0))) ∧ s.fieldOf? a "java/lang/Enum" "ordinal" "I" = some (.int (Int32.ofNat t)) ∧ Ob s "BuildHouse$Verb" a := by
  have h0 := all_range vrb_c ht
  simp only [Bool.and_eq_true, decide_eq_true_eq] at h0
  obtain ⟨⟨⟨h1, h2⟩, h3⟩, -⟩ := h0
  have hw := isPart_b hs h1
  have key : ∀ idx w : Nat, ((strT.getD 15 []).lookup idx).map (fun e => e.1) = some (50 + w) → (tS 15 idx).eval args s none [] s = some (.ref (aK w)) := by
    intro idx w hq
    obtain ⟨⟨g, pos⟩, hl, hg⟩ := Option.map_eq_some_iff.mp hq
    have hg2 : g = 50 + w := hg
    subst hg2
    have hb := men_ok (a := aK w) hs (by decide) (lookup_mem hl)
    have hlt : 50 + w < 139 := by
      obtain ⟨i, hi⟩ := List.getElem?_of_mem (lookup_mem hl)
      have h0 := all_range (all_range eqs_c (show 15 < 22 by decide)) (List.getElem?_eq_some_iff.mp hi).1
      rw [hi] at h0
      unfold eqOk at h0
      simp only [Bool.and_eq_true, decide_eq_true_eq] at h0
      exact h0.1.1.2
    rw [show 50 + w - 50 = w by omega] at hb
    exact (hb (hK w (by omega))).2.2.2
  have w1 := hw _ (show Cond.exactly (vtm t) "BuildHouse$Verb" ∈ vbWd t by simp [vbWd])
  have w2 := va_eqt (hw _ (show Cond.eq (.field (vtm t) "java/lang/Enum" "ordinal" "I") (.int (Int32.ofNat t)) ∈ vbWd t by simp [vbWd]))
  have w3 := va_eqv (hw _ (show Cond.eq (.field (vtm t) "BuildHouse$Verb" "word" "Ljava/lang/String;") (tS 15 (vbq t).2.2.1) ∈ vbWd t by simp [vbWd])) (key _ _ h2)
  have w4 := va_eqv (hw _ (show Cond.eq (.field (vtm t) "BuildHouse$Verb" "form" "Ljava/lang/String;") (tS 15 (vbq t).2.2.2) ∈ vbWd t by simp [vbWd])) (key _ _ h3)
  have w5 := va_eqt (hw _ (show Cond.eq (.field (vtm t) "BuildHouse$Verb" "kind" "I") (.int (Int32.ofNat (vbK.getD t 0))) ∈ vbWd t by simp [vbWd]))
  obtain ⟨a, c, cA, kA, q1, q2, q3, q4, q5, q6, -⟩ := Cond.exactly_spec (args := args) (first := s) (o := none) (s := s) (idx := []) (t := vtm t) (cls := "BuildHouse$Verb") w1
  have o3 := vk_OFof (A := A) q1 w3 hA
  have o5 := vk_OFof (A := A) q1 w5 hA
  refine ⟨a, q1, ⟨cA, q3, q5, by rw [q6]; exact q2, hA a (Array.getElem?_eq_some_iff.mp q3).1⟩, o3, vk_OFof q1 w4 hA, o5, vk_OFof q1 w2 hA, ?_, ?_, ?_, ?_, ?_⟩
  · rw [← va_fe q1]; exact w3
  · rw [← va_fe q1]; exact w4
  · rw [← va_fe q1]; exact w5
  · rw [← va_fe q1]; exact w2
  · obtain ⟨_, _, _, _, cell1, -, -, e1, -, e2, -⟩ := o3
    obtain ⟨_, _, _, _, cell2, -, -, g1, -, g2, -⟩ := o5
    cases q3.symm.trans e1
    cases q3.symm.trans g1
    exact ⟨cA, q3, by rw [q6]; exact q2, ⟨_, _, e2⟩, ⟨_, _, g2⟩⟩
theorem swm_ok (hs : startC.before args s = true) {A : Nat → Prop} (hA : ∀ a : Nat, a < s.heap.size → ¬ A a) : ∃ w, swt.eval args s none [] s = some (.ref w) ∧ va_T .int w 35 (fun j => .int (Int32.ofNat (swB.getD j 0))) A s s.heap := by
  have hw := isPart_b hs swm_c
  exact va_Tof (by decide) (hw _ List.mem_cons_self) (va_eqt (hw _ (List.mem_cons_of_mem _ List.mem_cons_self))) (fun j hj => va_eqt (hw _ (List.mem_cons_of_mem _ (List.mem_cons_of_mem _ (List.mem_map.mpr ⟨j, List.mem_range.mpr hj, rfl⟩))))) hA
theorem vls_ok (hs : startC.before args s = true) {A : Nat → Prop} (hA : ∀ a : Nat, a < s.heap.size → ¬ A a) {aB : Nat → Nat} (hB : ∀ t, t < 35 → (vtm t).eval args s none [] s = some (.ref (aB t))) :
    ∃ v, vlt.eval args s none [] s = some (.ref v) ∧ va_T (.object "BuildHouse$Verb") v 35 (fun j => .ref (aB j)) A s s.heap ∧ ∃ cell : Cell, s.heap[v]? = some cell ∧ cell.slots.size = 35 ∧ s.vm.findClass "[LBuildHouse$Verb;" = some cell.cls := by
  have hw := isPart_b hs vls_c
  have w1 := hw (.exactly vlt "[LBuildHouse$Verb;") (by simp)
  have w2 := hw (.arrayOf vlt (.object "BuildHouse$Verb")) (by simp)
  have w3 := hw (.eq (.length vlt) (.int (Int32.ofNat 35))) (by simp)
  have w4 := hw (.all vlt (.le (.index 0) (.int 34))) (by simp)
  have w5 : ∀ j, j < 35 → (Term.elem vlt (.int (Int32.ofNat j))).eval args s none [] s = some (.ref (aB j)) := fun j hj => va_eqv (hw (.eq (.elem vlt (.int (Int32.ofNat j))) (vtm j)) (List.mem_append_right _ (List.mem_map.mpr ⟨j, List.mem_range.mpr hj, rfl⟩))) (hB j hj)
  obtain ⟨v, h1, h2⟩ := va_Tof (A := A) (by decide) w2 (va_eqt w3) w5 hA
  obtain ⟨a, c, cA, kA, q1, q2, q3, q4, q5, q6, -⟩ := Cond.exactly_spec (args := args) (first := s) (o := none) (s := s) (idx := []) (t := vlt) (cls := "[LBuildHouse$Verb;") w1
  cases q1.symm.trans h1
  refine ⟨v, h1, h2, cA, q3, ?_, by rw [q6]; exact q2⟩
  obtain ⟨a2, cell, g1, g2, g3⟩ := Term.length_spec (va_eqt w3)
  cases g1.symm.trans h1
  obtain ⟨g4, -⟩ := State.arrayAt?_spec g2
  obtain rfl : cell = cA := Option.some.inj (g4.symm.trans q3)
  have hall : (Cond.all vlt (.le (.index 0) (.int 34))).value args s none s [] = some true := by
    unfold Cond.before Cond.holds at w4
    simpa using w4
  have key := Cond.all_elim h1 g2 hall
  have hle : cell.slots.size ≤ 35 := by
    refine Nat.not_lt.mp fun q => ?_
    have h35 := key 35 q
    simp [Cond.value, Term.eval] at h35
    exact absurd h35 (by decide)
  have : cell.slots.size.toInt32 = Int32.ofNat 35 := (Value.int.inj g3).symm
  have e : (cell.slots.size.toInt32).toInt = 35 := by rw [this]; rfl
  have e2 : (cell.slots.size.toInt32).toInt = (cell.slots.size : Int) := Int32.toInt_ofNat_of_lt (by omega)
  omega
end START
