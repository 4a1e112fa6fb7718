/-! the start's heap is the small machine's -/
theorem kdS_set (b sw vl : Nat) (aK aV aB : Nat → Nat) (a : Nat) : (kdS b sw vl aK aV aB a = 80 ∧ (a = b ∨ a = sw)) ∨ (kdS b sw vl aK aV aB a = 82 ∧ a = vl) ∨ (kdS b sw vl aK aV aB a = 30 ∧ ∃ i, i < 89 ∧ a = aK i) ∨ (kdS b sw vl aK aV aB a = 81 ∧ ∃ i, i < 89 ∧ a = aV i) ∨ (kdS b sw vl aK aV aB a = 31 ∧ ∃ i, i < 35 ∧ a = aB i) ∨ kdS b sw vl aK aV aB a = 0 := by
  unfold kdS
  split
  · exact Or.inl ⟨rfl, by assumption⟩
  · split
    · exact Or.inr (Or.inl ⟨rfl, by assumption⟩)
    · split
      · exact Or.inr (Or.inr (Or.inl ⟨rfl, any_of (by assumption)⟩))
      · split
        · exact Or.inr (Or.inr (Or.inr (Or.inl ⟨rfl, any_of (by assumption)⟩)))
        · split
          · exact Or.inr (Or.inr (Or.inr (Or.inr (Or.inl ⟨rfl, any_of (by assumption)⟩))))
          · exact Or.inr (Or.inr (Or.inr (Or.inr (Or.inr rfl))))
section BEGIN
variable {s : State} {args : Array Value}
set_option maxHeartbeats 1000000 in
theorem begin_ok (hts : ∀ w ∈ lw_tbl, w.before args s = true) (hs : startC.before args s = true) (hF : heapFits s = true) {b L : Nat} {xs : Nat → Int32} (hX : va_X b L xs s s.heap) (hL : L ≤ 384) :
    ∃ (D : Dk) (G : Nat → Option Nat) (h : Hp), D.2.2.2 = s.heap.size ∧ GK D G s ∧ Rel D G h s s.heap ∧ NX h = s.heap.size ∧ Ws G h b L (fun j => (xs j).toInt) := by
  have hA0 : ∀ a : Nat, a < s.heap.size → ¬ (fun q => s.heap.size ≤ q) a := fun a h q => by have : s.heap.size ≤ a := q; omega
  generalize hA : (fun q : Nat => s.heap.size ≤ q) = A at hA0
  have hstr : ∀ i : Nat, ∃ q : Nat × Nat, i < 89 → (tX i).eval args s none [] s = some (.ref q.1) ∧ va_O "java/lang/String" q.1 A s s.heap ∧ va_OF "java/lang/String" "coder" "B" (.int 0) q.1 A s s.heap ∧ va_OF "java/lang/String" "value" "[B" (.ref q.2) q.1 A s s.heap ∧
      va_T .byte q.2 (txt i).length (fun j => .int (Int32.ofNat ((txt i).getD j 0))) A s s.heap ∧ s.fieldOf? q.1 "java/lang/String" "coder" "B" = some (.int 0) ∧ s.fieldOf? q.1 "java/lang/String" "value" "[B" = some (.ref q.2) ∧ Ob s "java/lang/String" q.1 := by
    intro i
    by_cases hi : i < 89
    · obtain ⟨a, v, h⟩ := str_ok hs hi hA0
      exact ⟨(a, v), fun _ => h⟩
    · exact ⟨(0, 0), fun q => absurd q hi⟩
  obtain ⟨f, hf⟩ := Classical.axiomOfChoice hstr
  generalize haK : (fun i => (f i).1) = aK
  generalize haV : (fun i => (f i).2) = aV
  have eK : ∀ i, (f i).1 = aK i := fun i => by rw [← haK]
  have eV : ∀ i, (f i).2 = aV i := fun i => by rw [← haV]
  simp only [eK, eV] at hf
  have hK : ∀ i, i < 89 → (tX i).eval args s none [] s = some (.ref (aK i)) := fun i hi => (hf i hi).1
  have hvb : ∀ t : Nat, ∃ a : Nat, t < 35 → _ := fun t => by
    by_cases ht : t < 35
    · obtain ⟨a, h⟩ := vrb_ok hs ht hA0 hK
      exact ⟨a, fun _ => h⟩
    · exact ⟨0, fun q => absurd q ht⟩
  obtain ⟨aB, hB⟩ := Classical.axiomOfChoice hvb
  obtain ⟨sw, hsw, hswT⟩ := swm_ok hs hA0
  obtain ⟨vl, hvl, hvlT, cellV, hv1, hv2, hv3⟩ := vls_ok hs hA0 (aB := aB) (fun t ht => (hB t ht).1)
  have hcs := isPart_b hs cst0_c
  have hc1 := va_eqi (hcs _ List.mem_cons_self)
  obtain ⟨fmv, hfm, hfm2⟩ := Cond.isRef_spec (args := args) (first := s) (o := none) (s := s) (idx := []) (hcs _ (List.mem_cons_of_mem _ List.mem_cons_self))
  obtain ⟨fm, rfl⟩ : ∃ fm : Option Nat, fmv = va_rf fm := by
    cases fmv <;> first | (cases hfm2; done) | exact ⟨none, rfl⟩ | exact ⟨some _, rfl⟩
  have hG : ∀ i, i < 89 → gS sw vl aK aB fm (50 + i) = some (aK i) := fun i hi => by
    unfold gS
    rw [if_neg (by omega), if_neg (by omega), if_neg (by omega), if_neg (by omega), if_pos (by omega), show 50 + i - 50 = i by omega]
  obtain ⟨D, hD, hGK⟩ := gk_start (G := gS sw vl aK aB fm) hts hs hK hG
  have hoA : oA D = A := by unfold oA; rw [hD]; exact hA
  -- the arrays, the objects
  have yb : Ay s .int b := by obtain ⟨scr, h1, h2, -⟩ := hX; exact ⟨scr, h1, h2⟩
  have ysw : Ay s .int sw := va_T_ay hswT
  have yvl : Ay s (.object "BuildHouse$Verb") vl := va_T_ay hvlT
  have yV : ∀ i, i < 89 → Ay s .byte (aV i) := fun i hi => va_T_ay (hf i hi).2.2.2.2.1
  have oK : ∀ i, i < 89 → Ob s "java/lang/String" (aK i) := fun i hi => (hf i hi).2.2.2.2.2.2.2
  have oB : ∀ t, t < 35 → Ob s "BuildHouse$Verb" (aB t) := fun t ht => (hB t ht).2.2.2.2.2.2.2.2.2.2
  generalize hkd : kdS b sw vl aK aV aB = kd
  have kset := kdS_set b sw vl aK aV aB
  rw [hkd] at kset
  have kb : kd b = 80 := by rw [← hkd]; exact if_pos (Or.inl rfl)
  have ksw : kd sw = 80 := by rw [← hkd]; exact if_pos (Or.inr rfl)
  have noI : ∀ {ty : FieldType} {a : Nat}, Ay s ty a → ty ≠ .int → ¬ (a = b ∨ a = sw) := fun ha hty q => by
    rcases q with rfl | rfl
    · exact hty (ay_ay ha yb)
    · exact hty (ay_ay ha ysw)
  have noO : ∀ {C : String} {a : Nat}, Ob s C a → ¬ (a = b ∨ a = sw) ∧ a ≠ vl := fun ha => ⟨fun q => by
    rcases q with rfl | rfl
    · exact ob_ay hF ha yb (Or.inl rfl)
    · exact ob_ay hF ha ysw (Or.inl rfl), fun q => by
    subst q
    exact ob_ay hF ha yvl (Or.inr (Or.inr ⟨_, rfl⟩))⟩
  have kvl : kd vl = 82 := by
    rw [← hkd]
    unfold kdS
    rw [if_neg (noI yvl (fun q => by cases q)), if_pos rfl]
  have kK : ∀ i, i < 89 → kd (aK i) = 30 := fun i hi => by
    rw [← hkd]
    unfold kdS
    rw [if_neg (noO (oK i hi)).1, if_neg (noO (oK i hi)).2, if_pos (any_in hi)]
  have kV : ∀ i, i < 89 → kd (aV i) = 81 := fun i hi => by
    rw [← hkd]
    unfold kdS
    rw [if_neg (noI (yV i hi) (fun q => by cases q)), if_neg (fun q => absurd (ay_ay (yV i hi) (by rw [q]; exact yvl)) (fun e => by cases e)), if_neg (fun q => by
      obtain ⟨j, hj, he⟩ := any_of q
      exact ob_ay hF (oK j hj) (by rw [← he]; exact yV i hi) (Or.inr (Or.inl rfl))), if_pos (any_in hi)]
  have kB : ∀ t, t < 35 → kd (aB t) = 31 := fun t ht => by
    rw [← hkd]
    unfold kdS
    rw [if_neg (noO (oB t ht)).1, if_neg (noO (oB t ht)).2, if_neg (fun q => by
      obtain ⟨j, hj, he⟩ := any_of q
      exact absurd (ob_ob (oB t ht) (by rw [he]; exact oK j hj)) (by decide)), if_neg (fun q => by
      obtain ⟨j, hj, he⟩ := any_of q
      exact ob_ay hF (oB t ht) (by rw [he]; exact yV j hj) (Or.inr (Or.inl rfl))), if_pos (any_in ht)]
  have hXT : va_T .int b L (fun j => .int (xs j)) A s s.heap := by
    obtain ⟨scr, h1, h2, h3, h4, h5⟩ := hX
    exact ⟨scr, h1, h2, h3, by omega, by rw [h4], h5, hA0 b (Array.getElem?_eq_some_iff.mp h1).1⟩
  obtain ⟨b1, b2, b3⟩ := hS_T (kd := kd) hXT (by omega) kb (Or.inl rfl)
  obtain ⟨w1, w2, w3⟩ := hS_T (kd := kd) hswT (by omega) ksw (Or.inl rfl)
  have hV := fun i hi => hS_T (kd := kd) (hf i hi).2.2.2.2.1 (by
    have h0 := all_range txt_c hi
    simp only [Bool.and_eq_true, decide_eq_true_eq] at h0
    omega) (kV i hi) (Or.inr rfl)
  have fK : ∀ i, i < 89 → FI (hS s kd) 2049 (aK i) = 0 ∧ FR (hS s kd) 2048 (aK i) = some (aV i) := fun i hi => by
    obtain ⟨-, -, -, -, -, q1, q2, -⟩ := hf i hi
    refine ⟨?_, ?_⟩
    · show vInt (s.fieldOf? (aK i) "java/lang/String" "coder" "B") = 0
      rw [q1]; rfl
    · show vRef (s.fieldOf? (aK i) "java/lang/String" "value" "[B") = some (aV i)
      rw [q2]; rfl
  have fB : ∀ t, t < 35 → FI (hS s kd) 2179 (aB t) = (Int32.ofNat t).toInt ∧ FI (hS s kd) 2178 (aB t) = (Int32.ofNat (vbK.getD t 0)).toInt ∧ FR (hS s kd) 2176 (aB t) = some (aK (vbW.getD t 0)) ∧ FR (hS s kd) 2177 (aB t) = some (aK (vbF.getD t 0)) := fun t ht => by
    obtain ⟨-, -, -, -, -, -, q1, q2, q3, q4, -⟩ := hB t ht
    refine ⟨?_, ?_, ?_, ?_⟩
    · show vInt (s.fieldOf? (aB t) "java/lang/Enum" "ordinal" "I") = _
      rw [q4]; rfl
    · show vInt (s.fieldOf? (aB t) "BuildHouse$Verb" "kind" "I") = _
      rw [q3]; rfl
    · show vRef (s.fieldOf? (aB t) "BuildHouse$Verb" "word" "Ljava/lang/String;") = _
      rw [q1]; rfl
    · show vRef (s.fieldOf? (aB t) "BuildHouse$Verb" "form" "Ljava/lang/String;") = _
      rw [q2]; rfl
  have lvl : LN (hS s kd) vl = 35 := by
    show lnS s kd vl = 35
    unfold lnS
    rw [if_neg (by omega), hv1]
    show cellV.slots.size.toInt32.toInt.toNat = 35
    rw [hv2]
    rfl
  have avl : ∀ j, j < 35 → AR (hS s kd) vl j = some (aB j) := fun j hj => by
    obtain ⟨cell, g1, -, -, -, -, g6, -⟩ := hvlT
    show vRef (hIn s vl j) = _
    rw [hIn_of g1 (g6 j hj)]
    rfl
  have hKD : ∀ a, KD (hS s kd) a = kd a := fun _ => rfl
  refine ⟨D, gS sw vl aK aB fm, hS s kd, hD, hGK, ⟨rfl, by rw [hD]; exact Nat.le_refl _, ⟨fun g a => ?_, fun c j => vInt_in _, fun c j hk => ?_, fun c j hk => ?_, fun a => ?_⟩, fun a c hc hk => ?_, fun a k hm hk => ?_, fun a hk => ?_, fun a hk => ?_, fun a k hk3 hk => ?_, fun g C n d hm => ?_, fun a hk => ?_⟩, rfl, ?_⟩
  · show InR (if g = 2049 then _ else if g = 2178 then _ else if g = 2179 then _ else (0 : Int))
    split
    · exact vInt_in _
    · split
      · exact vInt_in _
      · split
        · exact vInt_in _
        · exact InR_0
  · rw [hKD] at hk
    rcases kset c with ⟨q, -⟩ | ⟨q, -⟩ | ⟨q, -⟩ | ⟨q, -⟩ | ⟨q, -⟩ | q <;> omega
  · rw [hKD] at hk
    rcases kset c with ⟨q, -⟩ | ⟨q, -⟩ | ⟨q, -⟩ | ⟨q, -⟩ | ⟨q, -⟩ | q <;> omega
  · have e0 : kd a < 80 → LN (hS s kd) a = 0 := fun q => if_pos q
    rcases kset a with ⟨q, q2⟩ | ⟨q, q2⟩ | ⟨q, -⟩ | ⟨q, i, hi, q2⟩ | ⟨q, -⟩ | q
    · rcases q2 with rfl | rfl <;> omega
    · rw [q2, lvl]; omega
    · rw [e0 (by omega)]; omega
    · have h0 := all_range txt_c hi
      simp only [Bool.and_eq_true, decide_eq_true_eq] at h0
      rw [q2, (hV i hi).1]; omega
    · rw [e0 (by omega)]; omega
    · rw [e0 (by omega)]; omega
  · rw [hKD] at hk
    rcases kset a with ⟨q, -⟩ | ⟨q, -⟩ | ⟨q, -⟩ | ⟨q, -⟩ | ⟨q, -⟩ | q <;> omega
  · rw [hKD] at hk
    have hk4 : k ≠ 0 ∧ k ≠ 30 ∧ k ≠ 31 ∧ k ≠ 80 ∧ k ≠ 81 ∧ k ≠ 82  := (by decide : ∀ k ∈ aKs, k ≠ 0 ∧ k ≠ 30 ∧ k ≠ 31 ∧ k ≠ 80 ∧ k ≠ 81 ∧ k ≠ 82) k hm
    rcases kset a with ⟨q, -⟩ | ⟨q, -⟩ | ⟨q, -⟩ | ⟨q, -⟩ | ⟨q, -⟩ | q <;> omega
  · rw [hKD] at hk
    obtain ⟨i, hi, rfl⟩ : ∃ i, i < 89 ∧ a = aK i := by
      rcases kset a with ⟨q, -⟩ | ⟨q, -⟩ | ⟨q, q2⟩ | ⟨q, -⟩ | ⟨q, -⟩ | q <;> first | omega | exact q2
    obtain ⟨-, q1, q2, q3, -⟩ := hf i hi
    unfold fSt
    rw [hoA, (fK i hi).1, (fK i hi).2]
    exact ⟨q1, q3, q2⟩
  · rw [hKD] at hk
    obtain ⟨t, ht, rfl⟩ : ∃ i, i < 35 ∧ a = aB i := by
      rcases kset a with ⟨q, -⟩ | ⟨q, -⟩ | ⟨q, -⟩ | ⟨q, -⟩ | ⟨q, q2⟩ | q <;> first | omega | exact q2
    obtain ⟨-, q1, q2, q3, q4, q5, -⟩ := hB t ht
    obtain ⟨p1, p2, p3, p4⟩ := fB t ht
    unfold fVb
    rw [hoA, p1, p2, p3, p4, i32_of, i32_of]
    exact ⟨q1, q2, q3, q4, q5⟩
  · rw [hKD] at hk
    rw [hoA]
    rcases hk3 with rfl | rfl | rfl
    · rcases kset a with ⟨q, q2⟩ | ⟨q, -⟩ | ⟨q, -⟩ | ⟨q, -⟩ | ⟨q, -⟩ | q
      · rcases q2 with rfl | rfl
        · exact b3
        · exact w3
      all_goals omega
    · obtain ⟨i, hi, rfl⟩ : ∃ i, i < 89 ∧ a = aV i := by
        rcases kset a with ⟨q, -⟩ | ⟨q, -⟩ | ⟨q, -⟩ | ⟨q, q2⟩ | ⟨q, -⟩ | q <;> first | omega | exact q2
      exact (hV i hi).2.2
    · obtain rfl : a = vl := by
        rcases kset a with ⟨q, -⟩ | ⟨q, q2⟩ | ⟨q, -⟩ | ⟨q, -⟩ | ⟨q, -⟩ | q <;> first | omega | exact q2
      obtain ⟨cell, g1, g2, g3, g4, g5, g6, g7⟩ := hvlT
      refine ⟨cell, g1, g2, g3, by rw [lvl]; exact g4, by rw [lvl]; exact g5, fun j hj => ?_, g7⟩
      rw [lvl] at hj
      rw [g6 j hj]
      show some (Value.ref (aB j)) = some (va_rf (AR (hS s kd) a j))
      rw [avl j hj]
      rfl
  · rw [hoA]
    obtain ⟨i, hi⟩ := List.getElem?_of_mem hm
    have hi8 : i < 8 := (List.getElem?_eq_some_iff.mp hi).1
    have h0 := all_range sta_c hi8
    rw [hi] at h0
    simp only [Bool.and_eq_true] at h0
    have m1 := hts _ (List.mem_append_right _ (isW_in h0.1))
    have m2 := hts _ (List.mem_append_right _ (isW_in h0.2))
    refine va_Zof m1 m2 ?_ hA0
    match i, hi8, hi with
    | 0, _, hi => cases hi; exact hsw
    | 1, _, hi => cases hi; exact hvl
    | 2, _, hi => cases hi; exact (hB 32 (by decide)).1
    | 3, _, hi => cases hi; exact (hB 0 (by decide)).1
    | 4, _, hi => cases hi; exact (hB 34 (by decide)).1
    | 5, _, hi => cases hi; exact (hB 24 (by decide)).1
    | 6, _, hi => cases hi; exact hc1
    | 7, _, hi => cases hi; exact hfm
  · rw [hKD] at hk
    obtain rfl : a = vl := by
      rcases kset a with ⟨q, -⟩ | ⟨q, q2⟩ | ⟨q, -⟩ | ⟨q, -⟩ | ⟨q, -⟩ | q <;> first | omega | exact q2
    refine ⟨cellV, hv1, by rw [lvl]; exact hv2, ?_, by rw [hoA]; exact hA0 _ (Array.getElem?_eq_some_iff.mp hv1).1⟩
    have h75 : (D.2.2.1 75, kty 75) ∈ tysL D := List.mem_map.mpr ⟨75, by decide, rfl⟩
    obtain ⟨i, hi⟩ := List.getElem?_of_mem h75
    obtain ⟨-, kA, comp, -, -, -, g4⟩ := hGK.1.2 i _ hi
    have e : "[" ++ (FieldType.object "BuildHouse$Verb").toString = "[LBuildHouse$Verb;" := by decide
    rw [e, hv3] at g4
    exact Option.some.inj g4
  · refine ⟨fun i hi => ⟨aK i, aV i, hG i hi, kK i hi, (fK i hi).1, (fK i hi).2, kV i hi, (hV i hi).1, fun j hj => ?_⟩, fun t ht => ⟨aB t, ?_, kB t ht, ?_, ?_, ?_, ?_⟩, ⟨sw, ?_, ksw, w1, fun j hj => ?_⟩, ⟨vl, ?_, kvl, lvl, fun j hj => ?_⟩, ⟨kb, b1, b2⟩, fun j => i32_in _, fun a => ?_, fun a hk => ?_, rfl⟩
    · rw [(hV i hi).2.1 j hj]
      have h0 := all_range txt_c hi
      simp only [Bool.and_eq_true, decide_eq_true_eq] at h0
      have h1 := List.all_eq_true.mp h0.2 ((txt i).getD j 0) (by rw [List.getD_eq_getElem?_getD, List.getElem?_eq_getElem hj]; exact List.getElem_mem hj)
      rw [decide_eq_true_eq] at h1
      exact ofNat_i (by omega)
    · unfold gS; rw [if_pos ht]
    · rw [(fB t ht).1]; exact ofNat_i (by omega)
    · rw [(fB t ht).2.1]
      have h0 := all_range vrb_c ht
      simp only [Bool.and_eq_true, decide_eq_true_eq] at h0
      exact ofNat_i (by omega)
    · rw [(fB t ht).2.2.1]
      have : ∀ t, t < 35 → vbW.getD t 0 < 89 := by decide
      rw [hG _ (this t ht)]
    · rw [(fB t ht).2.2.2]
      have : ∀ t, t < 35 → vbF.getD t 0 < 89 := by decide
      rw [hG _ (this t ht)]
    · rfl
    · rw [w2 j hj]
      have : ∀ t, t < 35 → swB.getD t 0 < 1000 := by decide
      exact ofNat_i (this j hj)
    · rfl
    · rw [avl j hj]
      unfold gS
      rw [if_pos hj]
    · rw [hKD]
      rcases kset a with ⟨q, -⟩ | ⟨q, -⟩ | ⟨q, -⟩ | ⟨q, -⟩ | ⟨q, -⟩ | q <;> omega
    · rw [hKD] at hk
      show a < s.heap.size
      have ay : ∀ {ty : FieldType} {x : Nat}, Ay s ty x → x < s.heap.size := fun h => by obtain ⟨cell, h1, -⟩ := h; exact (Array.getElem?_eq_some_iff.mp h1).1
      have ob : ∀ {C : String} {x : Nat}, Ob s C x → x < s.heap.size := fun h => by obtain ⟨cell, h1, -⟩ := h; exact (Array.getElem?_eq_some_iff.mp h1).1
      rcases kset a with ⟨q, q2⟩ | ⟨q, q2⟩ | ⟨q, i, hi, q2⟩ | ⟨q, i, hi, q2⟩ | ⟨q, i, hi, q2⟩ | q
      · rcases q2 with rfl | rfl
        · exact ay yb
        · exact ay ysw
      · rw [q2]; exact ay yvl
      · rw [q2]; exact ob (oK i hi)
      · rw [q2]; exact ay (yV i hi)
      · rw [q2]; exact ob (oB i hi)
      · exact absurd q hk
end BEGIN
