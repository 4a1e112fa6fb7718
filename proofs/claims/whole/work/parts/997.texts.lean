/-! a definition's text -/
theorem dec4 {n : Nat} (hn : n < 10000) : dec n = if n < 10 then [48 + n] else if n < 100 then [48 + n / 10, 48 + n % 10] else if n < 1000 then [48 + n / 100, 48 + n / 10 % 10, 48 + n % 10] else [48 + n / 1000, 48 + n / 100 % 10, 48 + n / 10 % 10, 48 + n % 10] := by
  have k0 : n < 10 → kdF n 9 0 = 0 := fun h => by rw [kdF, if_neg (by simp; omega)]
  have k1 : 10 ≤ n → n < 100 → kdF n 9 0 = 1 := fun a b => by rw [kdF, if_pos (by simp; omega), kdF, if_neg (by simp; omega)]
  have k2 : 100 ≤ n → n < 1000 → kdF n 9 0 = 2 := fun a b => by rw [kdF, if_pos (by simp; omega), kdF, if_pos (by simp; omega), kdF, if_neg (by simp; omega)]
  have k3 : 1000 ≤ n → kdF n 9 0 = 3 := fun a => by rw [kdF, if_pos (by simp; omega), kdF, if_pos (by simp; omega), kdF, if_pos (by simp; omega), kdF, if_neg (by simp; omega)]
  unfold dec
  split
  · rename_i h
    rw [k0 h]
    simp [dgs, List.range_succ]
    omega
  · split
    · rename_i h1 h
      rw [k1 (by omega) h]
      simp [dgs, List.range_succ]
      omega
    · split
      · rename_i h1 h2 h
        rw [k2 (by omega) h]
        simp [dgs, List.range_succ]
        omega
      · rename_i h1 h2 h
        rw [k3 (by omega)]
        simp [dgs, List.range_succ]
        omega
theorem sl_cat {l : List Nat} {a b c : Nat} (h1 : a ≤ b) (h2 : b ≤ c) : sl l a c = sl l a b ++ sl l b c := by
  unfold sl
  have e : c - a = (b - a) + (c - b) := by omega
  rw [e, List.take_add, List.drop_drop]
  congr 3
  omega
theorem sl_one {l : List Nat} {a c : Nat} (h : pSign l c a = true) : sl l a (a + 1) = [c] := by
  have h := of_decide_eq_true h
  rw [sl_snoc (Nat.le_refl a) h.1, sl_nil, h.2]
  rfl
theorem sl_ne {l : List Nat} {a b : Nat} (h : a < b) (hb : b ≤ l.length) : sl l a b ≠ [] := fun z => by
  have := sl_len (l := l) (f := a) (e := b) ⟨by omega, hb⟩
  rw [z] at this
  simp at this
  omega
theorem dec_dig : ∀ (s : List Nat), s ≠ [] → s.length ≤ 4 → (∀ c ∈ s, isDig c = true) → (1 < s.length → s.getD 0 0 ≠ 48) → dec (numV s) = s
  | [], h, _, _, _ => absurd rfl h
  | [a], _, _, hd, _ => by
    have ha := isDig_t.mp (hd a (by simp))
    have e : numV [a] = a - 48 := by simp [numV]
    rw [e, dec4 (by omega), if_pos (by omega)]
    congr 1
    omega
  | [a, b], _, _, hd, h0 => by
    have ha := isDig_t.mp (hd a (by simp))
    have hb := isDig_t.mp (hd b (by simp))
    have h0 : a ≠ 48 := h0 (by simp)
    have e : numV [a, b] = (a - 48) * 10 + (b - 48) := by simp [numV]
    rw [e, dec4 (by omega), if_neg (by omega), if_pos (by omega)]
    have e1 : 48 + ((a - 48) * 10 + (b - 48)) / 10 = a := by omega
    have e2 : 48 + ((a - 48) * 10 + (b - 48)) % 10 = b := by omega
    rw [e1, e2]
  | [a, b, c], _, _, hd, h0 => by
    have ha := isDig_t.mp (hd a (by simp))
    have hb := isDig_t.mp (hd b (by simp))
    have hc := isDig_t.mp (hd c (by simp))
    have h0 : a ≠ 48 := h0 (by simp)
    have e : numV [a, b, c] = ((a - 48) * 10 + (b - 48)) * 10 + (c - 48) := by simp [numV]
    rw [e, dec4 (by omega), if_neg (by omega), if_neg (by omega), if_pos (by omega)]
    have e1 : 48 + (((a - 48) * 10 + (b - 48)) * 10 + (c - 48)) / 100 = a := by omega
    have e2 : 48 + (((a - 48) * 10 + (b - 48)) * 10 + (c - 48)) / 10 % 10 = b := by omega
    have e3 : 48 + (((a - 48) * 10 + (b - 48)) * 10 + (c - 48)) % 10 = c := by omega
    rw [e1, e2, e3]
  | [a, b, c, d], _, _, hd, h0 => by
    have ha := isDig_t.mp (hd a (by simp))
    have hb := isDig_t.mp (hd b (by simp))
    have hc := isDig_t.mp (hd c (by simp))
    have hdd := isDig_t.mp (hd d (by simp))
    have h0 : a ≠ 48 := h0 (by simp)
    have e : numV [a, b, c, d] = (((a - 48) * 10 + (b - 48)) * 10 + (c - 48)) * 10 + (d - 48) := by simp [numV]
    rw [e, dec4 (by omega), if_neg (by omega), if_neg (by omega), if_neg (by omega)]
    have e1 : 48 + ((((a - 48) * 10 + (b - 48)) * 10 + (c - 48)) * 10 + (d - 48)) / 1000 = a := by omega
    have e2 : 48 + ((((a - 48) * 10 + (b - 48)) * 10 + (c - 48)) * 10 + (d - 48)) / 100 % 10 = b := by omega
    have e3 : 48 + ((((a - 48) * 10 + (b - 48)) * 10 + (c - 48)) * 10 + (d - 48)) / 10 % 10 = c := by omega
    have e4 : 48 + ((((a - 48) * 10 + (b - 48)) * 10 + (c - 48)) * 10 + (d - 48)) % 10 = d := by omega
    rw [e1, e2, e3, e4]
  | _ :: _ :: _ :: _ :: _ :: _, _, h, _, _ => by simp at h
section TXT
variable {l : List Nat} {a : Nat}
theorem pNum_lt (h : pNum l a = true) : a < numE l a := by
  have q := of_decide_eq_true h
  have : a ≤ numE l a := by unfold numE; exact scan_ge _ _ _ _
  omega
theorem pNum_in (h : pNum l a = true) : a < l.length := (scan_all (l := l) (p := isDig) (Nat.le_refl a) (by have := pNum_lt h; unfold numE at this; exact this)).2
theorem dec_num (h : pNum l a = true) : dec (numV (sl l a (numE l a))) = sl l a (numE l a) := by
  have hl := pNum_lt h
  have hi := pNum_in h
  have r := numE_rg (l := l) (a := a) (by omega)
  refine dec_dig _ (sl_ne hl r.2.1) ?_ (fun c hc => ?_) (fun h1 => ?_)
  · rw [sl_len ⟨by omega, r.2.1⟩]; omega
  · obtain ⟨j, j1, j2, j3⟩ := sl_mem hc
    rw [← j3]
    exact numE_all j1 j2
  · rw [sl_len ⟨by omega, r.2.1⟩] at h1
    rw [sl_gd (by omega)]
    intro z
    have z' : l.getD a 0 = 48 := z
    have : numE l a ≤ a + 1 := by
      unfold numE
      rw [if_pos ⟨hi, z'⟩]
      exact (scan_le (by omega)).2
    omega
theorem pWord_lt {m lo : Nat} (ha : a ≤ l.length) (h : pWord l m lo a = true) : a < wordE l a m lo := by
  have q := of_decide_eq_true h
  have := (wordE_rg (m := m) (lo := lo) ha).1
  omega
/-- a part of a definition: what it tells is the bytes read -/
theorem pIn_txt (ha : a ≤ l.length) (h : (pIn l a).1 = true) : sl l a (pIn l a).2.1 = inTxt (pIn l a).2.2 ∧ a < (pIn l a).2.1 ∧ (pIn l a).2.1 ≤ l.length := by
  unfold pIn at h ⊢
  by_cases q : pSign l 58 a = true
  · rw [if_pos q] at h ⊢
    have hs := pSign_lt q
    have w := pWord_lt (by omega) h
    have r := wordE_rg (l := l) (a := a + 1) (m := 8) (lo := 48) (by omega)
    refine ⟨?_, by show a < wordE l (a + 1) 8 48; omega, r.2.1⟩
    show sl l a (wordE l (a + 1) 8 48) = 58 :: sl l (a + 1) (wordE l (a + 1) 8 48)
    rw [sl_cat (b := a + 1) (by omega) (by omega), sl_one q]
    rfl
  · rw [if_neg q] at h ⊢
    have w := pWord_lt (by omega) h
    have r := wordE_rg (l := l) (a := a) (m := 12) (lo := 46) (by omega)
    exact ⟨rfl, w, r.2.1⟩
theorem pIns_txt : ∀ {f a : Nat}, a ≤ l.length → (pIns l f a).1 = true → sl l a (pIns l f a).2.1 = insTxt (pIns l f a).2.2 ∧ a ≤ (pIns l f a).2.1 ∧ (pIns l f a).2.1 ≤ l.length ∧ (f ≠ 0 → (pIns l f a).2.2 ≠ [])
  | 0, a, ha, h => ⟨by show sl l a a = []; exact sl_nil l a, Nat.le_refl a, ha, fun z => absurd rfl z⟩
  | f + 1, a, ha, h => by
    rw [pIns] at h ⊢
    by_cases q : (pIn l a).1 = true
    · rw [if_pos q] at h ⊢
      obtain ⟨i1, i2, i3⟩ := pIn_txt ha q
      by_cases q2 : f ≠ 0 ∧ pSign l 44 (pIn l a).2.1 = true
      · rw [if_pos q2] at h ⊢
        have hs := pSign_lt q2.2
        obtain ⟨r1, r2, r3, r4⟩ := pIns_txt (f := f) (a := (pIn l a).2.1 + 1) (by omega) h
        refine ⟨?_, by show a ≤ (pIns l f ((pIn l a).2.1 + 1)).2.1; omega, r3, fun _ => List.cons_ne_nil _ _⟩
        show sl l a (pIns l f ((pIn l a).2.1 + 1)).2.1 = insTxt ((pIn l a).2.2 :: (pIns l f ((pIn l a).2.1 + 1)).2.2)
        rw [sl_cat (b := (pIn l a).2.1) (by omega) (by omega), sl_cat (a := (pIn l a).2.1) (b := (pIn l a).2.1 + 1) (by omega) (by omega), sl_one q2.2, i1, r1]
        have ne := r4 q2.1
        generalize (pIns l f ((pIn l a).2.1 + 1)).2.2 = z at ne
        cases z with
        | nil => exact absurd rfl ne
        | cons w z => rw [insTxt]; rfl
      · rw [if_neg q2] at h ⊢
        refine ⟨?_, by show a ≤ (pIn l a).2.1; omega, i3, fun _ => List.cons_ne_nil _ _⟩
        show sl l a (pIn l a).2.1 = insTxt [(pIn l a).2.2]
        rw [i1]
        rfl
    · rw [if_neg q] at h
      exact absurd h Bool.false_ne_true
theorem pRule_txt (ha : a ≤ l.length) (h : (pRule l a).1 = true) : sl l a (pRule l a).2.1 = (pRule l a).2.2.1 ++ (if (pRule l a).2.2.2 = [] then [] else 46 :: (pRule l a).2.2.2) := by
  unfold pRule at h ⊢
  by_cases q : pWord l 8 48 a = true
  · rw [if_pos q] at h ⊢
    have w := pWord_lt ha q
    have r := wordE_rg (l := l) (a := a) (m := 8) (lo := 48) ha
    by_cases q2 : pSign l 46 (wordE l a 8 48) = true
    · rw [if_pos q2] at h ⊢
      have hs := pSign_lt q2
      have w2 := pWord_lt (by omega) h
      have r2 := wordE_rg (l := l) (a := wordE l a 8 48 + 1) (m := 8) (lo := 48) (by omega)
      show sl l a (wordE l (wordE l a 8 48 + 1) 8 48) = sl l a (wordE l a 8 48) ++ (if sl l (wordE l a 8 48 + 1) (wordE l (wordE l a 8 48 + 1) 8 48) = [] then [] else 46 :: sl l (wordE l a 8 48 + 1) (wordE l (wordE l a 8 48 + 1) 8 48))
      rw [if_neg (sl_ne w2 r2.2.1), sl_cat (b := wordE l a 8 48) (by omega) (by omega), sl_cat (a := wordE l a 8 48) (b := wordE l a 8 48 + 1) (by omega) (by omega), sl_one q2]
      rfl
    · rw [if_neg q2] at h ⊢
      show sl l a (wordE l a 8 48) = sl l a (wordE l a 8 48) ++ (if ([] : List Nat) = [] then [] else _)
      rw [if_pos rfl, List.append_nil]
  · rw [if_neg q] at h
    exact absurd h Bool.false_ne_true
theorem pCond_txt (ha : a ≤ l.length) (h : (pCond l a).1 = true) : sl l a (pCond l a).2.1 = (pCond l a).2.2.1 ++ 61 :: dec (pCond l a).2.2.2 ∧ (pCond l a).2.2.1 ≠ [] ∧ a ≤ (pCond l a).2.1 ∧ (pCond l a).2.1 ≤ l.length := by
  unfold pCond at h ⊢
  by_cases q : pWord l 8 48 a = true
  · rw [if_pos q] at h ⊢
    have w := pWord_lt ha q
    have r := wordE_rg (l := l) (a := a) (m := 8) (lo := 48) ha
    by_cases q2 : pSign l 61 (wordE l a 8 48) = true
    · rw [if_pos q2] at h ⊢
      have hs := pSign_lt q2
      have n := pNum_lt h
      have r2 := numE_rg (l := l) (a := wordE l a 8 48 + 1) (by omega)
      refine ⟨?_, sl_ne w r.2.1, by show a ≤ numE l (wordE l a 8 48 + 1); omega, r2.2.1⟩
      show sl l a (numE l (wordE l a 8 48 + 1)) = sl l a (wordE l a 8 48) ++ 61 :: dec (numV (sl l (wordE l a 8 48 + 1) (numE l (wordE l a 8 48 + 1))))
      rw [dec_num h, sl_cat (b := wordE l a 8 48) (by omega) (by omega), sl_cat (a := wordE l a 8 48) (b := wordE l a 8 48 + 1) (by omega) (by omega), sl_one q2]
      rfl
    · rw [if_neg q2] at h
      exact absurd h Bool.false_ne_true
  · rw [if_neg q] at h
    exact absurd h Bool.false_ne_true
theorem pDef3_txt {n r w : List Nat} {s : Bool × Nat × List InV} (hs : s.2.1 ≤ l.length) (h : (pDef3 l n r w s).1 = true) : sl l s.2.1 (pDef3 l n r w s).2.1 = 41 :: (if tgC (pDef3 l n r w s).2.2 = [] then [] else 63 :: tgC (pDef3 l n r w s).2.2 ++ 61 :: dec (tgK (pDef3 l n r w s).2.2)) ∧ (tgN (pDef3 l n r w s).2.2 = n ∧ tgR (pDef3 l n r w s).2.2 = r ∧ tgW (pDef3 l n r w s).2.2 = w ∧ tgI (pDef3 l n r w s).2.2 = s.2.2) ∧ s.1 = true ∧ s.2.1 ≤ (pDef3 l n r w s).2.1 ∧ (pDef3 l n r w s).2.1 ≤ l.length := by
  unfold pDef3 at h ⊢
  by_cases q : s.1 = true ∧ pSign l 41 s.2.1 = true
  · rw [if_pos q] at h ⊢
    have h1 := pSign_lt q.2
    by_cases q2 : pSign l 63 (s.2.1 + 1) = true
    · rw [if_pos q2] at h ⊢
      have h2 := pSign_lt q2
      obtain ⟨c1, c2, c3, c4⟩ := pCond_txt (by omega) h
      refine ⟨?_, ⟨rfl, rfl, rfl, rfl⟩, q.1, by show s.2.1 ≤ (pCond l (s.2.1 + 2)).2.1; omega, c4⟩
      show sl l s.2.1 (pCond l (s.2.1 + 2)).2.1 = 41 :: (if (pCond l (s.2.1 + 2)).2.2.1 = [] then [] else 63 :: (pCond l (s.2.1 + 2)).2.2.1 ++ 61 :: dec (pCond l (s.2.1 + 2)).2.2.2)
      rw [if_neg c2, sl_cat (b := s.2.1 + 1) (by omega) (by omega), sl_one q.2, sl_cat (a := s.2.1 + 1) (b := s.2.1 + 2) (by omega) (by omega), sl_one q2, c1]
      rfl
    · rw [if_neg q2] at h ⊢
      refine ⟨?_, ⟨rfl, rfl, rfl, rfl⟩, q.1, by show s.2.1 ≤ s.2.1 + 1; omega, h1⟩
      show sl l s.2.1 (s.2.1 + 1) = 41 :: (if ([] : List Nat) = [] then [] else _)
      rw [if_pos rfl, sl_one q.2]
  · rw [if_neg q] at h
    exact absurd h Bool.false_ne_true
/-- what a definition tells of itself is the bytes that were read -/
theorem pDef_txt (ha : a ≤ l.length) (h : (pDef l a).1 = true) : sl l a (pDef l a).2.1 = tgTxt (pDef l a).2.2 ∧ tgN (pDef l a).2.2 ≠ [] := by
  unfold pDef at h ⊢
  by_cases q : pWord l 8 48 a = true ∧ pSign l 61 (wordE l a 8 48) = true
  · rw [if_pos q] at h ⊢
    have w := pWord_lt ha q.1
    have r := wordE_rg (l := l) (a := a) (m := 8) (lo := 48) ha
    have hs := pSign_lt q.2
    unfold pDef2 at h ⊢
    by_cases q2 : (pRule l (wordE l a 8 48 + 1)).1 = true ∧ pSign l 40 (pRule l (wordE l a 8 48 + 1)).2.1 = true
    · rw [if_pos q2] at h ⊢
      have hs2 := pSign_lt q2.2
      have rr := pRule_rg (l := l) (a := wordE l a 8 48 + 1) (by omega)
      have rt := pRule_txt (by omega) q2.1
      have si : (pIns l 6 ((pRule l (wordE l a 8 48 + 1)).2.1 + 1)).1 = true := by
        unfold pDef3 at h
        split at h
        · rename_i z; exact z.1
        · exact absurd h Bool.false_ne_true
      obtain ⟨n1, n2, n3, n4⟩ := pIns_txt (by omega) si
      obtain ⟨d1, ⟨d2, d3, d4, d5⟩, d6, d7, d8⟩ := pDef3_txt n3 h
      refine ⟨?_, by rw [d2]; exact sl_ne w r.2.1⟩
      unfold tgTxt
      rw [d2, d3, d4, d5, sl_cat (b := wordE l a 8 48) (by omega) (by omega), sl_cat (a := wordE l a 8 48) (b := wordE l a 8 48 + 1) (by omega) (by omega), sl_one q.2, sl_cat (a := wordE l a 8 48 + 1) (b := (pRule l (wordE l a 8 48 + 1)).2.1) (by omega) (by omega), rt, sl_cat (a := (pRule l (wordE l a 8 48 + 1)).2.1) (b := (pRule l (wordE l a 8 48 + 1)).2.1 + 1) (by omega) (by omega), sl_one q2.2, sl_cat (a := (pRule l (wordE l a 8 48 + 1)).2.1 + 1) (b := (pIns l 6 ((pRule l (wordE l a 8 48 + 1)).2.1 + 1)).2.1) (by omega) (by omega), n1, d1]
      simp [List.append_assoc]
    · rw [if_neg q2] at h
      exact absurd h Bool.false_ne_true
  · rw [if_neg q] at h
    exact absurd h Bool.false_ne_true
end TXT
