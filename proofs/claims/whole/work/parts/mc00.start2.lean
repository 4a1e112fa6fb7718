/-! the start once more: nothing lies behind its end -/
def Cn0 (G : Nat → Option Nat) (h : Hp) : Prop := (∀ x, NX h ≤ x → KD h x = 0 ∧ LN h x = 0 ∧ (∀ f, FI h f x = 0 ∧ FL h f x = 0 ∧ FR h f x = none) ∧ ∀ j, AI h x j = 0 ∧ AL h x j = 0 ∧ AR h x j = none) ∧ (∀ b, LN h b ≤ 60000000) ∧ ∀ x, KD h x = 82 → G 41 = some x
theorem hS_cn {G : Nat → Option Nat} {s : State} {kd : Nat → Nat} {L : Nat} (hL : L ≤ 384) (h0 : ∀ x, s.heap.size ≤ x → kd x = 0) (hl : ∀ a, LN (hS s kd) a ≤ 60000000) (h82 : ∀ x, kd x = 82 → G 41 = some x) : Cn0 G (hS s kd) := by
  refine ⟨fun x hx => ?_, hl, h82⟩
  have hx : s.heap.size ≤ x := hx
  have hn : s.heap[x]? = none := Array.getElem?_eq_none hx
  have hf : ∀ C f D, s.fieldOf? x C f D = none := fun C f D => by unfold State.fieldOf?; rw [hn]; rfl
  have hi : ∀ j, hIn s x j = none := fun j => by unfold hIn; rw [hn]; rfl
  refine ⟨h0 x hx, if_pos (by rw [h0 x hx]; decide), fun f => ⟨?_, rfl, ?_⟩, fun j => ⟨?_, rfl, ?_⟩⟩
  · show (if f = 2049 then vInt (s.fieldOf? x "java/lang/String" "coder" "B") else if f = 2178 then vInt (s.fieldOf? x "BuildHouse$Verb" "kind" "I") else if f = 2179 then vInt (s.fieldOf? x "java/lang/Enum" "ordinal" "I") else 0) = 0
    simp only [hf]
    repeat' split
    all_goals rfl
  · show (if f = 2048 then vRef (s.fieldOf? x "java/lang/String" "value" "[B") else if f = 2176 then vRef (s.fieldOf? x "BuildHouse$Verb" "word" "Ljava/lang/String;") else if f = 2177 then vRef (s.fieldOf? x "BuildHouse$Verb" "form" "Ljava/lang/String;") else none) = none
    simp only [hf]
    repeat' split
    all_goals rfl
  · show vInt (hIn s x j) = 0
    rw [hi]; rfl
  · show vRef (hIn s x j) = none
    rw [hi]; rfl
section BEGINB
variable {s : State} {args : Array Value}
set_option maxHeartbeats 1000000 in
theorem begin_ok2 (hts : ∀ w ∈ lw_tbl, w.before args s = true) (hs : startC.before args s = true) (hF : heapFits s = true) {b L : Nat} {xs : Nat → Int32} (hX : va_X b L xs s s.heap) (hL : L ≤ 384) :
    ∃ (D : Dk) (G : Nat → Option Nat) (h : Hp), D.2.2.2 = s.heap.size ∧ GK D G s ∧ Rel D G h s s.heap ∧ NX h = s.heap.size ∧ Ws G h b L (fun j => (xs j).toInt) ∧ Cn0 G h := by
  have hA0 : ∀ a : Nat, a < s.heap.size → ¬ (fun q => s.heap.size ≤ q) a := fun a h q => by have : s.heap.size ≤ a := q; omega
  generalize hA : (fun q : Nat => s.heap.size ≤ q) = A at hA0
  have hstr : ∀ i : Nat, ∃ q : Nat × Nat, i < 89 → (tX i).eval args s none [] s = some (.ref q.1) ∧ va_O "java/lang/String" q.1 A s s.heap ∧ va_OF "java/lang/String" "coder" "B" (.int 0) q.1 A s s.heap ∧ va_OF "java/lang/String" "value" "[B" (.ref q.2) q.1 A s s.heap ∧
      va_T .byte q.2 (txt i).length (fun j => .int (Int32.ofNat ((txt i).getD j 0))) A s s.heap ∧ s.fieldOf? q.1 "java/lang/String" "coder" "B" = some (.int 0) ∧ s.fieldOf? q.1 "java/lang/String" "value" "[B" = some (.ref q.2) ∧ Ob s "java/lang/String" q.1 := by
    intro i
    by_cases hi : i < 89
    · obtain ⟨a, v, h⟩ := str_ok hs hi hA0
      exact ⟨(a, v), fun _ => h⟩
    · exact ⟨(0, 0), fun q => absurd q hi⟩
  obtain ⟨f, hf⟩ := Classical.axiomOfChoice hstr
  generalize haK : (fun i => (f i).1) = aK
  generalize haV : (fun i => (f i).2) = aV
  have eK : ∀ i, (f i).1 = aK i := fun i => by rw [← haK]
  have eV : ∀ i, (f i).2 = aV i := fun i => by rw [← haV]
  simp only [eK, eV] at hf
  have hK : ∀ i, i < 89 → (tX i).eval args s none [] s = some (.ref (aK i)) := fun i hi => (hf i hi).1
  have hvb : ∀ t : Nat, ∃ a : Nat, t < 35 → _ := fun t => by
    by_cases ht : t < 35
    · obtain ⟨a, h⟩ := vrb_ok hs ht hA0 hK
      exact ⟨a, fun _ => h⟩
    · exact ⟨0, fun q => absurd q ht⟩
  obtain ⟨aB, hB⟩ := Classical.axiomOfChoice hvb
  obtain ⟨sw, hsw, hswT⟩ := swm_ok hs hA0
  obtain ⟨vl, hvl, hvlT, cellV, hv1, hv2, hv3⟩ := vls_ok hs hA0 (aB := aB) (fun t ht => (hB t ht).1)
  have hcs := isPart_b hs cst0_c
  have hc1 := va_eqi (hcs _ List.mem_cons_self)
  obtain ⟨fmv, hfm, hfm2⟩ := Cond.isRef_spec (args := args) (first := s) (o := none) (s := s) (idx := []) (hcs _ (List.mem_cons_of_mem _ List.mem_cons_self))
  obtain ⟨fm, rfl⟩ : ∃ fm : Option Nat, fmv = va_rf fm := by
    cases fmv <;> first | (cases hfm2; done) | exact ⟨none, rfl⟩ | exact ⟨some _, rfl⟩
  have hG : ∀ i, i < 89 → gS sw vl aK aB fm (50 + i) = some (aK i) := fun i hi => by
    unfold gS
    rw [if_neg (by omega), if_neg (by omega), if_neg (by omega), if_neg (by omega), if_pos (by omega), show 50 + i - 50 = i by omega]
  obtain ⟨D, hD, hGK⟩ := gk_start (G := gS sw vl aK aB fm) hts hs hK hG
  have hoA : oA D = A := by unfold oA; rw [hD]; exact hA
  -- the arrays, the objects
  have yb : Ay s .int b := by obtain ⟨scr, h1, h2, -⟩ := hX; exact ⟨scr, h1, h2⟩
  have ysw : Ay s .int sw := va_T_ay hswT
  have yvl : Ay s (.object "BuildHouse$Verb") vl := va_T_ay hvlT
  have yV : ∀ i, i < 89 → Ay s .byte (aV i) := fun i hi => va_T_ay (hf i hi).2.2.2.2.1
  have oK : ∀ i, i < 89 → Ob s "java/lang/String" (aK i) := fun i hi => (hf i hi).2.2.2.2.2.2.2
  have oB : ∀ t, t < 35 → Ob s "BuildHouse$Verb" (aB t) := fun t ht => (hB t ht).2.2.2.2.2.2.2.2.2.2
  generalize hkd : kdS b sw vl aK aV aB = kd
  have kset := kdS_set b sw vl aK aV aB
  rw [hkd] at kset
  have kb : kd b = 80 := by rw [← hkd]; exact if_pos (Or.inl rfl)
  have ksw : kd sw = 80 := by rw [← hkd]; exact if_pos (Or.inr rfl)
  have noI : ∀ {ty : FieldType} {a : Nat}, Ay s ty a → ty ≠ .int → ¬ (a = b ∨ a = sw) := fun ha hty q => by
    rcases q with rfl | rfl
    · exact hty (ay_ay ha yb)
    · exact hty (ay_ay ha ysw)
  have noO : ∀ {C : String} {a : Nat}, Ob s C a → ¬ (a = b ∨ a = sw) ∧ a ≠ vl := fun ha => ⟨fun q => by
    rcases q with rfl | rfl
    · exact ob_ay hF ha yb (Or.inl rfl)
    · exact ob_ay hF ha ysw (Or.inl rfl), fun q => by
    subst q
    exact ob_ay hF ha yvl (Or.inr (Or.inr ⟨_, rfl⟩))⟩
  have kvl : kd vl = 82 := by
    rw [← hkd]
    unfold kdS
    rw [if_neg (noI yvl (fun q => by cases q)), if_pos rfl]
  have kK : ∀ i, i < 89 → kd (aK i) = 30 := fun i hi => by
    rw [← hkd]
    unfold kdS
    rw [if_neg (noO (oK i hi)).1, if_neg (noO (oK i hi)).2, if_pos (any_in hi)]
  have kV : ∀ i, i < 89 → kd (aV i) = 81 := fun i hi => by
    rw [← hkd]
    unfold kdS
    rw [if_neg (noI (yV i hi) (fun q => by cases q)), if_neg (fun q => absurd (ay_ay (yV i hi) (by rw [q]; exact yvl)) (fun e => by cases e)), if_neg (fun q => by
      obtain ⟨j, hj, he⟩ := any_of q
      exact ob_ay hF (oK j hj) (by rw [← he]; exact yV i hi) (Or.inr (Or.inl rfl))), if_pos (any_in hi)]
  have kB : ∀ t, t < 35 → kd (aB t) = 31 := fun t ht => by
    rw [← hkd]
    unfold kdS
    rw [if_neg (noO (oB t ht)).1, if_neg (noO (oB t ht)).2, if_neg (fun q => by
      obtain ⟨j, hj, he⟩ := any_of q
      exact absurd (ob_ob (oB t ht) (by rw [he]; exact oK j hj)) (by decide)), if_neg (fun q => by
      obtain ⟨j, hj, he⟩ := any_of q
      exact ob_ay hF (oB t ht) (by rw [he]; exact yV j hj) (Or.inr (Or.inl rfl))), if_pos (any_in ht)]
  have hXT : va_T .int b L (fun j => .int (xs j)) A s s.heap := by
    obtain ⟨scr, h1, h2, h3, h4, h5⟩ := hX
    exact ⟨scr, h1, h2, h3, by omega, by rw [h4], h5, hA0 b (Array.getElem?_eq_some_iff.mp h1).1⟩
  obtain ⟨b1, b2, b3⟩ := hS_T (kd := kd) hXT (by omega) kb (Or.inl rfl)
  obtain ⟨w1, w2, w3⟩ := hS_T (kd := kd) hswT (by omega) ksw (Or.inl rfl)
  have hV := fun i hi => hS_T (kd := kd) (hf i hi).2.2.2.2.1 (by
    have h0 := all_range txt_c hi
    simp only [Bool.and_eq_true, decide_eq_true_eq] at h0
    omega) (kV i hi) (Or.inr rfl)
  have fK : ∀ i, i < 89 → FI (hS s kd) 2049 (aK i) = 0 ∧ FR (hS s kd) 2048 (aK i) = some (aV i) := fun i hi => by
    obtain ⟨-, -, -, -, -, q1, q2, -⟩ := hf i hi
    refine ⟨?_, ?_⟩
    · show vInt (s.fieldOf? (aK i) "java/lang/String" "coder" "B") = 0
      rw [q1]; rfl
    · show vRef (s.fieldOf? (aK i) "java/lang/String" "value" "[B") = some (aV i)
      rw [q2]; rfl
  have fB : ∀ t, t < 35 → FI (hS s kd) 2179 (aB t) = (Int32.ofNat t).toInt ∧ FI (hS s kd) 2178 (aB t) = (Int32.ofNat (vbK.getD t 0)).toInt ∧ FR (hS s kd) 2176 (aB t) = some (aK (vbW.getD t 0)) ∧ FR (hS s kd) 2177 (aB t) = some (aK (vbF.getD t 0)) := fun t ht => by
    obtain ⟨-, -, -, -, -, -, q1, q2, q3, q4, -⟩ := hB t ht
    refine ⟨?_, ?_, ?_, ?_⟩
    · show vInt (s.fieldOf? (aB t) "java/lang/Enum" "ordinal" "I") = _
      rw [q4]; rfl
    · show vInt (s.fieldOf? (aB t) "BuildHouse$Verb" "kind" "I") = _
      rw [q3]; rfl
    · show vRef (s.fieldOf? (aB t) "BuildHouse$Verb" "word" "Ljava/lang/String;") = _
      rw [q1]; rfl
    · show vRef (s.fieldOf? (aB t) "BuildHouse$Verb" "form" "Ljava/lang/String;") = _
      rw [q2]; rfl
  have lvl : LN (hS s kd) vl = 35 := by
    show lnS s kd vl = 35
    unfold lnS
    rw [if_neg (by omega), hv1]
    show cellV.slots.size.toInt32.toInt.toNat = 35
    rw [hv2]
    rfl
  have avl : ∀ j, j < 35 → AR (hS s kd) vl j = some (aB j) := fun j hj => by
    obtain ⟨cell, g1, -, -, -, -, g6, -⟩ := hvlT
    show vRef (hIn s vl j) = _
    rw [hIn_of g1 (g6 j hj)]
    rfl
  have hKD : ∀ a, KD (hS s kd) a = kd a := fun _ => rfl
  refine ⟨D, gS sw vl aK aB fm, hS s kd, hD, hGK, ⟨rfl, by rw [hD]; exact Nat.le_refl _, ⟨fun g a => ?_, fun c j => vInt_in _, fun c j hk => ?_, fun c j hk => ?_, fun a => ?_⟩, fun a c hc hk => ?_, fun a k hm hk => ?_, fun a hk => ?_, fun a hk => ?_, fun a k hk3 hk => ?_, fun g C n d hm => ?_, fun a hk => ?_⟩, rfl, ?_, ?_⟩
  · show InR (if g = 2049 then _ else if g = 2178 then _ else if g = 2179 then _ else (0 : Int))
    split
    · exact vInt_in _
    · split
      · exact vInt_in _
      · split
        · exact vInt_in _
        · exact InR_0
  · rw [hKD] at hk
    rcases kset c with ⟨q, -⟩ | ⟨q, -⟩ | ⟨q, -⟩ | ⟨q, -⟩ | ⟨q, -⟩ | q <;> omega
  · rw [hKD] at hk
    rcases kset c with ⟨q, -⟩ | ⟨q, -⟩ | ⟨q, -⟩ | ⟨q, -⟩ | ⟨q, -⟩ | q <;> omega
  · have e0 : kd a < 80 → LN (hS s kd) a = 0 := fun q => if_pos q
    rcases kset a with ⟨q, q2⟩ | ⟨q, q2⟩ | ⟨q, -⟩ | ⟨q, i, hi, q2⟩ | ⟨q, -⟩ | q
    · rcases q2 with rfl | rfl <;> omega
    · rw [q2, lvl]; omega
    · rw [e0 (by omega)]; omega
    · have h0 := all_range txt_c hi
      simp only [Bool.and_eq_true, decide_eq_true_eq] at h0
      rw [q2, (hV i hi).1]; omega
    · rw [e0 (by omega)]; omega
    · rw [e0 (by omega)]; omega
  · rw [hKD] at hk
    rcases kset a with ⟨q, -⟩ | ⟨q, -⟩ | ⟨q, -⟩ | ⟨q, -⟩ | ⟨q, -⟩ | q <;> omega
  · rw [hKD] at hk
    have hk4 : k ≠ 0 ∧ k ≠ 30 ∧ k ≠ 31 ∧ k ≠ 80 ∧ k ≠ 81 ∧ k ≠ 82  := (by decide : ∀ k ∈ aKs, k ≠ 0 ∧ k ≠ 30 ∧ k ≠ 31 ∧ k ≠ 80 ∧ k ≠ 81 ∧ k ≠ 82) k hm
    rcases kset a with ⟨q, -⟩ | ⟨q, -⟩ | ⟨q, -⟩ | ⟨q, -⟩ | ⟨q, -⟩ | q <;> omega
  · rw [hKD] at hk
    obtain ⟨i, hi, rfl⟩ : ∃ i, i < 89 ∧ a = aK i := by
      rcases kset a with ⟨q, -⟩ | ⟨q, -⟩ | ⟨q, q2⟩ | ⟨q, -⟩ | ⟨q, -⟩ | q <;> first | omega | exact q2
    obtain ⟨-, q1, q2, q3, -⟩ := hf i hi
    unfold fSt
    rw [hoA, (fK i hi).1, (fK i hi).2]
    exact ⟨q1, q3, q2⟩
  · rw [hKD] at hk
    obtain ⟨t, ht, rfl⟩ : ∃ i, i < 35 ∧ a = aB i := by
      rcases kset a with ⟨q, -⟩ | ⟨q, -⟩ | ⟨q, -⟩ | ⟨q, -⟩ | ⟨q, q2⟩ | q <;> first | omega | exact q2
    obtain ⟨-, q1, q2, q3, q4, q5, -⟩ := hB t ht
    obtain ⟨p1, p2, p3, p4⟩ := fB t ht
    unfold fVb
    rw [hoA, p1, p2, p3, p4, i32_of, i32_of]
    exact ⟨q1, q2, q3, q4, q5⟩
  · rw [hKD] at hk
    rw [hoA]
    rcases hk3 with rfl | rfl | rfl
    · rcases kset a with ⟨q, q2⟩ | ⟨q, -⟩ | ⟨q, -⟩ | ⟨q, -⟩ | ⟨q, -⟩ | q
      · rcases q2 with rfl | rfl
        · exact b3
        · exact w3
      all_goals omega
    · obtain ⟨i, hi, rfl⟩ : ∃ i, i < 89 ∧ a = aV i := by
        rcases kset a with ⟨q, -⟩ | ⟨q, -⟩ | ⟨q, -⟩ | ⟨q, q2⟩ | ⟨q, -⟩ | q <;> first | omega | exact q2
      exact (hV i hi).2.2
    · obtain rfl : a = vl := by
        rcases kset a with ⟨q, -⟩ | ⟨q, q2⟩ | ⟨q, -⟩ | ⟨q, -⟩ | ⟨q, -⟩ | q <;> first | omega | exact q2
      obtain ⟨cell, g1, g2, g3, g4, g5, g6, g7⟩ := hvlT
      refine ⟨cell, g1, g2, g3, by rw [lvl]; exact g4, by rw [lvl]; exact g5, fun j hj => ?_, g7⟩
      rw [lvl] at hj
      rw [g6 j hj]
      show some (Value.ref (aB j)) = some (va_rf (AR (hS s kd) a j))
      rw [avl j hj]
      rfl
  · rw [hoA]
    obtain ⟨i, hi⟩ := List.getElem?_of_mem hm
    have hi8 : i < 8 := (List.getElem?_eq_some_iff.mp hi).1
    have h0 := all_range sta_c hi8
    rw [hi] at h0
    simp only [Bool.and_eq_true] at h0
    have m1 := hts _ (List.mem_append_right _ (isW_in h0.1))
    have m2 := hts _ (List.mem_append_right _ (isW_in h0.2))
    refine va_Zof m1 m2 ?_ hA0
    match i, hi8, hi with
    | 0, _, hi => cases hi; exact hsw
    | 1, _, hi => cases hi; exact hvl
    | 2, _, hi => cases hi; exact (hB 32 (by decide)).1
    | 3, _, hi => cases hi; exact (hB 0 (by decide)).1
    | 4, _, hi => cases hi; exact (hB 34 (by decide)).1
    | 5, _, hi => cases hi; exact (hB 24 (by decide)).1
    | 6, _, hi => cases hi; exact hc1
    | 7, _, hi => cases hi; exact hfm
  · rw [hKD] at hk
    obtain rfl : a = vl := by
      rcases kset a with ⟨q, -⟩ | ⟨q, q2⟩ | ⟨q, -⟩ | ⟨q, -⟩ | ⟨q, -⟩ | q <;> first | omega | exact q2
    refine ⟨cellV, hv1, by rw [lvl]; exact hv2, ?_, by rw [hoA]; exact hA0 _ (Array.getElem?_eq_some_iff.mp hv1).1⟩
    have h75 : (D.2.2.1 75, kty 75) ∈ tysL D := List.mem_map.mpr ⟨75, by decide, rfl⟩
    obtain ⟨i, hi⟩ := List.getElem?_of_mem h75
    obtain ⟨-, kA, comp, -, -, -, g4⟩ := hGK.1.2 i _ hi
    have e : "[" ++ (FieldType.object "BuildHouse$Verb").toString = "[LBuildHouse$Verb;" := by decide
    rw [e, hv3] at g4
    exact Option.some.inj g4
  · refine ⟨fun i hi => ⟨aK i, aV i, hG i hi, kK i hi, (fK i hi).1, (fK i hi).2, kV i hi, (hV i hi).1, fun j hj => ?_⟩, fun t ht => ⟨aB t, ?_, kB t ht, ?_, ?_, ?_, ?_⟩, ⟨sw, ?_, ksw, w1, fun j hj => ?_⟩, ⟨vl, ?_, kvl, lvl, fun j hj => ?_⟩, ⟨kb, b1, b2⟩, fun j => i32_in _, fun a => ?_, fun a hk => ?_, rfl⟩
    · rw [(hV i hi).2.1 j hj]
      have h0 := all_range txt_c hi
      simp only [Bool.and_eq_true, decide_eq_true_eq] at h0
      have h1 := List.all_eq_true.mp h0.2 ((txt i).getD j 0) (by rw [List.getD_eq_getElem?_getD, List.getElem?_eq_getElem hj]; exact List.getElem_mem hj)
      rw [decide_eq_true_eq] at h1
      exact ofNat_i (by omega)
    · unfold gS; rw [if_pos ht]
    · rw [(fB t ht).1]; exact ofNat_i (by omega)
    · rw [(fB t ht).2.1]
      have h0 := all_range vrb_c ht
      simp only [Bool.and_eq_true, decide_eq_true_eq] at h0
      exact ofNat_i (by omega)
    · rw [(fB t ht).2.2.1]
      have : ∀ t, t < 35 → vbW.getD t 0 < 89 := by decide
      rw [hG _ (this t ht)]
    · rw [(fB t ht).2.2.2]
      have : ∀ t, t < 35 → vbF.getD t 0 < 89 := by decide
      rw [hG _ (this t ht)]
    · rfl
    · rw [w2 j hj]
      have : ∀ t, t < 35 → swB.getD t 0 < 1000 := by decide
      exact ofNat_i (this j hj)
    · rfl
    · rw [avl j hj]
      unfold gS
      rw [if_pos hj]
    · rw [hKD]
      rcases kset a with ⟨q, -⟩ | ⟨q, -⟩ | ⟨q, -⟩ | ⟨q, -⟩ | ⟨q, -⟩ | q <;> omega
    · rw [hKD] at hk
      show a < s.heap.size
      have ay : ∀ {ty : FieldType} {x : Nat}, Ay s ty x → x < s.heap.size := fun h => by obtain ⟨cell, h1, -⟩ := h; exact (Array.getElem?_eq_some_iff.mp h1).1
      have ob : ∀ {C : String} {x : Nat}, Ob s C x → x < s.heap.size := fun h => by obtain ⟨cell, h1, -⟩ := h; exact (Array.getElem?_eq_some_iff.mp h1).1
      rcases kset a with ⟨q, q2⟩ | ⟨q, q2⟩ | ⟨q, i, hi, q2⟩ | ⟨q, i, hi, q2⟩ | ⟨q, i, hi, q2⟩ | q
      · rcases q2 with rfl | rfl
        · exact ay yb
        · exact ay ysw
      · rw [q2]; exact ay yvl
      · rw [q2]; exact ob (oK i hi)
      · rw [q2]; exact ay (yV i hi)
      · rw [q2]; exact ob (oB i hi)
      · exact absurd q hk
  · have k0 : ∀ x, s.heap.size ≤ x → kd x = 0 := fun x hx => by
      have ay : ∀ {ty : FieldType} {x : Nat}, Ay s ty x → x < s.heap.size := fun h => by obtain ⟨cell, h1, -⟩ := h; exact (Array.getElem?_eq_some_iff.mp h1).1
      have ob : ∀ {C : String} {x : Nat}, Ob s C x → x < s.heap.size := fun h => by obtain ⟨cell, h1, -⟩ := h; exact (Array.getElem?_eq_some_iff.mp h1).1
      rcases kset x with ⟨q, q2⟩ | ⟨q, q2⟩ | ⟨q, i, hi, q2⟩ | ⟨q, i, hi, q2⟩ | ⟨q, i, hi, q2⟩ | q
      · rcases q2 with rfl | rfl
        · have := ay yb; omega
        · have := ay ysw; omega
      · rw [q2] at hx; have := ay yvl; omega
      · rw [q2] at hx; have := ob (oK i hi); omega
      · rw [q2] at hx; have := ay (yV i hi); omega
      · rw [q2] at hx; have := ob (oB i hi); omega
      · exact q
    exact hS_cn hL (fun x hx => k0 x hx) (fun a => by
      have e0 : kd a < 80 → LN (hS s kd) a = 0 := fun q => if_pos q
      rcases kset a with ⟨q, q2⟩ | ⟨q, q2⟩ | ⟨q, -⟩ | ⟨q, i, hi, q2⟩ | ⟨q, -⟩ | q
      · rcases q2 with rfl | rfl <;> omega
      · rw [q2, lvl]; omega
      · rw [e0 (by omega)]; omega
      · have h0 := all_range txt_c hi
        simp only [Bool.and_eq_true, decide_eq_true_eq] at h0
        rw [q2, (hV i hi).1]; omega
      · rw [e0 (by omega)]; omega
      · rw [e0 (by omega)]; omega) (fun x hx => by
      rcases kset x with ⟨q, q2⟩ | ⟨q, q2⟩ | ⟨q, -⟩ | ⟨q, -⟩ | ⟨q, -⟩ | q
      · omega
      · rw [q2]; rfl
      all_goals omega)
end BEGINB
/-- what is left: the small machine's run of the law -/
def LawRuns2 : Prop := ∀ (G : Nat → Option Nat) (h : Hp) (b L : Nat) (xs : Nat → Int), Ws G h b L xs → Cn0 G h → L ≤ 384 → ∃ (n : Nat) (h' : Hp), rn G n 2048 342 0 [some (vR (some b)), none, none, none] [] h = some (some (vI 1), h') ∧ NX h' - NX h ≤ 600000 ∧ SL h' - SL h ≤ 7302250
/-- from the entry, for every script of at most 384 ints, the law comes to its end with true -/
theorem whole_start2 (HL : LawRuns2) {p : Program} {e : Env} {s : State} {m : MethodId} {below : List Frame} {meth : Method} {c : Code} (l : Launch) (hflags : l.flags = flags0) {b L : Nat} {xs : Nat → Int32} (hL : L ≤ 384) (C0 : lw_At p s m meth c b L xs) : W p l e room_1 s m #[Value.ref b] below meth c s.heap [] 0 0 (lw_Z below #[Value.ref b] s) (entryFrame m ([Value.ref b] : List Value).toArray 4) := by
  obtain ⟨hx, hb, hr, hml, hown, hts, hX, hbl, hlk, hgv, hF⟩ := C0
  obtain ⟨D, G, h, hD, hGK, hR, hNX, hW, hCn⟩ := begin_ok2 hts hgv hF hX hL
  obtain ⟨n, h', hrun, hn1, hn2⟩ := HL G h b L _ hW hCn hL
  have F : FrK D G p s m #[Value.ref b] meth c 342 := ⟨hx, hb, hml, hown, fun w hw => hts w (mw_in w hw).1, hGK, (fun q => by cases q), by decide, Nat.le_refl _⟩
  have hl := lv_entry ([Value.ref b] : List Value) (n := 4) (by show 1 ≤ 4; omega)
  rw [lg_entry_eq]
  generalize (lg_sl ([Value.ref b] : List Value) ++ List.replicate (4 - (lg_sl ([Value.ref b] : List Value)).length) Slot.unset).toArray = ls at hl ⊢
  have hlr : LR ls (lay 4 [vR (some b)]) := LR_entry (by show 1 ≤ 4; omega) hl
  have hP : Pr D G s s.heap [] ls [some (vR (some b)), none, none, none] [] h := ⟨hlr, fun v hv2 => by
    simp at hv2
    subst hv2
    trivial, (fun v hv2 => by cases hv2), hR, (fun q hq => by cases hq)⟩
  have k := run_ok G n hrun (l := l) (e := e) (R := room_1) (below := below) (cells := 0) (slots := 0) F hP rfl ⟨by show 0 + _ ≤ 600000; omega, by show 0 + _ ≤ 7302250; omega⟩ ⟨by decide, by decide⟩ (end_met F (by rw [hr]; rfl) hlk)
  intro T hT X
  obtain ⟨t, a1, b1⟩ := k T hT X
  exact ⟨t, a1, mq_z (by omega) (by omega) hD b1⟩
set_option maxHeartbeats 4000000 in
theorem lw_walk2 (HL : LawRuns2) (l : Launch) (hflags : l.flags = flags0) (b : Addr) (xs : List Int32) : MetFree l x (headSpec (Jvm.Cond.code x code maxLocals ret :: tables_1) room_1) (lw_P b xs) (fun _ _ _ _ _ => True) lw_Q := by
  refine MetFree.of_bodyS (code := code) (maxLocals := maxLocals) (ret := ret) (by decide) ?_ ?_
  · intro args s m h hn
    obtain ⟨meth, c, h1, h2, h3, h4, h5, h6, -, -⟩ := Cond.code_spec hn (atoms_spec (ws := Jvm.Cond.code x code maxLocals ret :: tables_1) h _ List.mem_cons_self)
    exact ⟨meth, c, h1, h2, h3, h4, h5, h6⟩
  · intro p e s m args below meth c s₁ B hml0 hP _
    obtain ⟨rfl, hx, hbd, hgv, hfit⟩ := hP
    obtain ⟨scr, harrAt, hlist, hof, hsmall⟩ := hx
    obtain ⟨hcb, hkn, -, -⟩ := State.arrayAt?_spec harrAt
    have hown : s.vm.findClass R_law = some m.cls := findClass_of_methodNamed B.named
    have hts0 : ∀ c ∈ (Jvm.Cond.code x code maxLocals ret :: tables_1), c.before #[Value.ref b] s = true := atoms_spec (ws := Jvm.Cond.code x code maxLocals ret :: tables_1) B.pre
    have hts : ∀ w ∈ lw_tbl, w.before #[Value.ref b] s = true := k2_hts_sels lw_privs (fun w hw => hts0 w (List.mem_cons_of_mem _ hw)) lw_privs_ok
    have hml : c.maxLocals = 4 := B.maxLocals_eq (hts0 _ List.mem_cons_self)
    have X₀ : Stand p l e room_1 s m #[Value.ref b] below meth c s₁ [] 0 0 := Stand.of_body B
    have hh0 : s₁.heap = s.heap := by rw [B.state]; rfl
    have hsz : scr.slots.size = xs.length := by rw [← Array.length_toList, hlist, List.length_map]
    have hval : ∀ j : Nat, j < xs.length → scr.slots[j]? = some (.int (xs.getD j 0)) := fun j hj => by
      rw [← Array.getElem?_toList, hlist]
      simp [hj]
    have hbl : b < s.heap.size := (Array.getElem?_eq_some_iff.mp hcb).1
    have hX : va_X b xs.length (fun j => xs.getD j 0) s s.heap := ⟨scr, hcb, hof, hkn, hsz, hval⟩
    have K : W p l e room_1 s m #[Value.ref b] below meth c s₁.heap [] 0 0 (lw_Z below #[Value.ref b] s) (entryFrame m ([Value.ref b] : List Value).toArray 4) := by
      rw [hh0]
      exact whole_start2 HL l hflags hbd ⟨B.exec, B.bytes, B.returns, hml, hown, hts, hX, hbl, B.notSynchronized, hgv, hfit⟩
    obtain ⟨t, a1, o, b1, b2, b3⟩ := K s₁ rfl X₀
    exact ⟨t, o, a1, b1, b2, b3⟩
theorem lw_comes2 (HL : LawRuns2) (l : Launch) (hflags : l.flags = flags0) : Comes l x (Jvm.Cond.code x code maxLocals ret :: tables_1) room_1 (fun tb e args s => Calls_1 tb e args s ∧ rest_1 tb e args s ∧ Pre_1 tb e args s)
    (fun _ _ args s o t => lw_Q args s o t) := by
  intro p e ha hc hk s m args below hf hfit hheap happ hpre
  obtain ⟨b, xs, hP⟩ := lw_pre_spec hpre.2.2 hpre.2.1 hheap
  obtain ⟨k, o, h1, h2, h3, hQ⟩ := lw_walk2 HL l hflags b xs p e ha hc hk s m args below hf ((Spec.applies_iff_loose hf).mp happ).1 hP trivial
  exact ⟨k, o, h1, h2, h3, hQ⟩
theorem lw_limb2 (HL : LawRuns2) (L : Cond) (hL : ∀ (args : Array Value) (s t : State), L.after args s (.returned (some (.int 1))) t = true) :
    ArmFor flags0 classFile x code maxLocals ret World_1 tables_1 room_1 Calls_1 rest_1 Pre_1
      (fun tb e a s o t => postC L tb e a s o t ∧ Framed s o t (fieldLocs frame_1_writes a s ++ arrayLocs frame_1_arrays a s ++ staticLocs frame_1_statics s) 600000 7302250) := by
  intro l hflags _ _ p e ha hc hk s m args below hf hfit hheap happ hpre
  obtain ⟨k, o, h1, h2, h3, rfl, hF⟩ := lw_comes2 HL l hflags p e ha hc hk s m args below hf hfit hheap happ hpre
  exact ⟨k, _, h1, h2, h3, hL args s _, lw_frame hF⟩
theorem whole_of2 (HL : LawRuns2) : Claimed_1_1 ∧ Claimed_1_2 := ⟨lw_limb2 HL limb_1_1 (fun args s t => by simp [limb_1_1, Cond.after, Cond.holds, Cond.value]), lw_limb2 HL limb_1_2 (fun args s t => Cond.after_iff.mpr (by
  first | (rw [show limb_1_2 = Cond.eq .result (.int 1) from rfl, Cond.eq_ints (x := 1) (y := 1) rfl rfl]; simp; done) | (simp [limb_1_2, Cond.value, Term.eval]; done)))⟩
