/-! the reference: words of requests are clean; what stays so -/
def wkS (n : List Nat) (m : Nat) : Prop := n.length ≤ m ∧ ∀ c ∈ n, 46 ≤ c ∧ c ≤ 122
theorem wkS.ok {n : List Nat} {m : Nat} (h : wkS n m) : okS n m := ⟨h.1, fun c hc => by have := h.2 c hc; omega⟩
theorem wkS.cl {n : List Nat} {m : Nat} (h : wkS n m) : cln n := fun c hc => by have := h.2 c hc; omega
theorem wkS.up {n : List Nat} {m k : Nat} (h : wkS n m) (hk : m ≤ k) : wkS n k := ⟨Nat.le_trans h.1 hk, h.2⟩
theorem wkS_nil {m : Nat} : wkS [] m := ⟨Nat.zero_le _, fun _ h => absurd h List.not_mem_nil⟩
theorem wk_word {l : List Nat} {a m lo : Nat} (ha : a ≤ l.length) (hlo : 46 ≤ lo) : wkS (sl l a (wordE l a m lo)) m := by
  have r := wordE_rg (m := m) (lo := lo) ha
  refine ⟨by rw [sl_len ⟨r.1, r.2.1⟩]; omega, fun c hc => ?_⟩
  obtain ⟨j, j1, j2, rfl⟩ := sl_mem hc
  unfold wordE at j2
  split at j2
  · rename_i q
    by_cases z : j = a
    · subst z
      have := isLet_t.mp q.2.2
      omega
    · have := isLater_t.mp (scan_all (by omega) j2).1
      omega
  · omega
/-- a definition that is read -/
def tokD (D : TgV) : Prop := wkS (tgN D) 8 ∧ wkS (tgW D) 8 ∧ wkS (tgC D) 8 ∧ (∀ k, wkS (inN (tgI D) k) 12) ∧ tgK D ≤ 9999
theorem pIn_wk {l : List Nat} {a : Nat} (ha : a ≤ l.length) : wkS (pIn l a).2.2.2 12 := by
  unfold pIn
  by_cases q : pSign l 58 a = true
  · rw [if_pos q]
    have := pSign_lt q
    exact (wk_word (by omega) (by decide)).up (by decide)
  · rw [if_neg q]
    exact wk_word ha (by decide)
theorem inN_nil (k : Nat) : inN [] k = [] := by unfold inN; simp
theorem inN_cons {x : InV} {xs : List InV} {k : Nat} : inN (x :: xs) (k + 1) = inN xs k := by unfold inN; simp
theorem pIns_wk {l : List Nat} : ∀ {f a : Nat}, a ≤ l.length → ∀ k, wkS (inN (pIns l f a).2.2 k) 12
  | 0, a, ha, k => by rw [pIns, inN_nil]; exact wkS_nil
  | f + 1, a, ha, k => by
    rw [pIns]
    by_cases q : (pIn l a).1 = true
    · rw [if_pos q]
      by_cases q2 : f ≠ 0 ∧ pSign l 44 (pIn l a).2.1 = true
      · rw [if_pos q2]
        cases k with
        | zero => exact pIn_wk ha
        | succ k =>
          show wkS (inN ((pIn l a).2.2 :: (pIns l f ((pIn l a).2.1 + 1)).2.2) (k + 1)) 12
          rw [inN_cons]
          exact pIns_wk (by have := pSign_lt q2.2; omega) k
      · rw [if_neg q2]
        cases k with
        | zero => exact pIn_wk ha
        | succ k =>
          show wkS (inN [(pIn l a).2.2] (k + 1)) 12
          rw [inN_cons, inN_nil]
          exact wkS_nil
    · rw [if_neg q, inN_nil]; exact wkS_nil
theorem pRule_wk {l : List Nat} {a : Nat} (ha : a ≤ l.length) : wkS (pRule l a).2.2.2 8 := by
  unfold pRule
  by_cases q : pWord l 8 48 a = true
  · rw [if_pos q]
    by_cases q2 : pSign l 46 (wordE l a 8 48) = true
    · rw [if_pos q2]
      have := pSign_lt q2
      exact wk_word (by omega) (by decide)
    · rw [if_neg q2]; exact wkS_nil
  · rw [if_neg q]; exact wkS_nil
theorem pCond_wk {l : List Nat} {a : Nat} (ha : a ≤ l.length) : wkS (pCond l a).2.2.1 8 ∧ (pCond l a).2.2.2 ≤ 9999 := by
  unfold pCond
  by_cases q : pWord l 8 48 a = true
  · rw [if_pos q]
    by_cases q2 : pSign l 61 (wordE l a 8 48) = true
    · rw [if_pos q2]
      have := pSign_lt q2
      exact ⟨wk_word ha (by decide), num_ok (by omega)⟩
    · rw [if_neg q2]; exact ⟨wkS_nil, Nat.zero_le _⟩
  · rw [if_neg q]; exact ⟨wkS_nil, Nat.zero_le _⟩
theorem pDef_tok {l : List Nat} {a : Nat} (ha : a ≤ l.length) : tokD (pDef l a).2.2 := by
  unfold pDef
  by_cases q : pWord l 8 48 a = true ∧ pSign l 61 (wordE l a 8 48) = true
  · rw [if_pos q]
    have hs := pSign_lt q.2
    have hn : wkS (sl l a (wordE l a 8 48)) 8 := wk_word ha (by decide)
    have hw := pRule_wk (l := l) (a := wordE l a 8 48 + 1) (by omega)
    unfold pDef2
    by_cases q2 : (pRule l (wordE l a 8 48 + 1)).1 = true ∧ pSign l 40 (pRule l (wordE l a 8 48 + 1)).2.1 = true
    · rw [if_pos q2]
      have hs2 := pSign_lt q2.2
      have hi := pIns_wk (l := l) (f := 6) (a := (pRule l (wordE l a 8 48 + 1)).2.1 + 1) (by omega)
      generalize pIns l 6 ((pRule l (wordE l a 8 48 + 1)).2.1 + 1) = s at hi
      unfold pDef3
      by_cases q3 : s.1 = true ∧ pSign l 41 s.2.1 = true
      · rw [if_pos q3]
        have hs3 := pSign_lt q3.2
        by_cases q4 : pSign l 63 (s.2.1 + 1) = true
        · rw [if_pos q4]
          have hs4 := pSign_lt q4
          have hc := pCond_wk (l := l) (a := s.2.1 + 2) (by omega)
          exact ⟨hn, hw, hc.1, hi, hc.2⟩
        · rw [if_neg q4]; exact ⟨hn, hw, wkS_nil, hi, Nat.zero_le _⟩
      · rw [if_neg q3]; exact ⟨hn, hw, wkS_nil, hi, Nat.zero_le _⟩
    · rw [if_neg q2]; exact ⟨hn, hw, wkS_nil, fun k => by show wkS (inN [] k) 12; rw [inN_nil]; exact wkS_nil, Nat.zero_le _⟩
  · rw [if_neg q]; exact ⟨wkS_nil, wkS_nil, wkS_nil, fun k => by show wkS (inN [] k) 12; rw [inN_nil]; exact wkS_nil, Nat.zero_le _⟩
/-- numbers that are read -/
theorem pNs_le {l : List Nat} {c a : Nat} {ns : List Nat} (ha : a ≤ l.length) (h : ∀ x ∈ ns, x ≤ 9999) : ∀ x ∈ pNs l c a ns, x ≤ 9999 := by
  unfold pNs
  intro x hx
  split at hx
  · split at hx
    · rcases List.mem_append.mp hx with y | y
      · exact h x y
      · rw [List.mem_singleton.mp y]; exact num_ok ha
    · exact h x hx
  · split at hx
    · rcases List.mem_append.mp hx with y | y
      · exact h x y
      · have := pVer_le _ _ x y; omega
    · exact h x hx
theorem pFo_n9 {l : List Nat} {a : Nat} (ha : a ≤ l.length) (f : List Nat) : ∀ x ∈ (pFo l f a).2.2.2, x ≤ 9999 := by
  have g : ∀ (f : List Nat) (s : Bool × Nat × List (List Nat) × List Nat), s.2.1 ≤ l.length → (∀ x ∈ s.2.2.2, x ≤ 9999) → ∀ x ∈ (f.foldl (pStep l) s).2.2.2, x ≤ 9999 := fun f => by
    induction f with
    | nil => exact fun s _ h => h
    | cons c f ih =>
      intro s h1 h2
      rw [List.foldl_cons]
      unfold pStep
      by_cases q : s.1 = true
      · rw [if_pos q]; exact ih _ (pEnd_le h1) (pNs_le h1 h2)
      · rw [if_neg q]; exact ih _ h1 h2
  exact g f _ ha (fun x hx => absurd hx List.not_mem_nil)
theorem qrN_9 (l : List Nat) (i : Nat) : 0 ≤ qrN l i ∧ qrN l i ≤ 9999 := by
  unfold qrN
  refine ⟨by omega, ?_⟩
  have g : ∀ xs : List Nat, (∀ x ∈ xs, x ≤ 9999) → xs.getD i 0 ≤ 9999 := fun xs h => by
    rw [List.getD_eq_getElem?_getD]
    rcases Nat.lt_or_ge i xs.length with q | q
    · rw [List.getElem?_eq_getElem q]; exact h _ (List.getElem_mem q)
    · rw [List.getElem?_eq_none q]; exact Nat.zero_le _
  have := g _ (pFo_n9 (l := l) qrB_le (vf (qrT l)))
  unfold qrP
  omega
theorem qr_ok {l : List Nat} (e : qrR l = true) : (qrP l).1 = true ∧ qrT l < 35 := by
  unfold qrR at e
  simp only [Bool.and_eq_true] at e
  refine ⟨e.2.1, ?_⟩
  obtain ⟨t, ht⟩ := Option.isSome_iff_exists.mp e.1
  have := (vbR_le (l := l) 35 0 0 (Nat.zero_le _)).2 t ht
  unfold qrT
  rw [ht]
  show t < 35
  omega
/-- the name of a request -/
theorem qr_name {l : List Nat} (e : qrR l = true) (nu : Nat → Int) : (qrT l ∈ [5, 6, 9, 16, 17, 18, 21, 22, 24, 25, 27, 3] → wkS (qrA l nu).1 8) ∧ (qrT l ∈ [1, 2, 14, 23] → wkS (qrA l nu).1 12) := by
  obtain ⟨p1, t35⟩ := qr_ok e
  have v := vf_1 ⟨qrT l, t35⟩
  refine ⟨fun h => ?_, fun h => ?_⟩
  · have v := v.1 (by simp only [List.mem_cons, List.not_mem_nil, or_false] at h ⊢; omega)
    unfold qrP at p1
    have v : vf (qrT l) = 97 :: (vf (qrT l)).tail := v
    rw [v] at p1
    have a := (pFo_a (Or.inl rfl) p1).1
    show wkS ((pFo l (vf (qrT l)) (qrB l)).2.2.1.getD 0 []) 8
    rw [v, a, if_pos rfl]
    exact wk_word qrB_le (by decide)
  · have v := v.2 (by simp only [List.mem_cons, List.not_mem_nil, or_false] at h ⊢; omega)
    unfold qrP at p1
    have v : vf (qrT l) = 112 :: (vf (qrT l)).tail := v
    rw [v] at p1
    have a := (pFo_a (Or.inr rfl) p1).1
    show wkS ((pFo l (vf (qrT l)) (qrB l)).2.2.1.getD 0 []) 12
    rw [v, a, if_neg (by decide)]
    exact wk_word qrB_le (by decide)
theorem qr_arg {l : List Nat} (e : qrR l = true) : argP l := by
  refine ⟨fun h => ⟨((qr_name e _).2 (by rw [h]; decide)).1, ?_⟩, fun h => ⟨((qr_name e _).1 (by rw [h]; decide)).1, (qrN_9 l 0).2⟩, fun h => ?_⟩
  · obtain ⟨p1, t35⟩ := qr_ok e
    unfold qrP at p1
    rw [h, vf_x.1] at p1
    have s := (pFo_step (l := l) (f := [112, 32]) (c := 116) p1).2.1
    have s : (if pSign l 60 (qrX l) = true then pSign l 62 (txE l (qrX l)) else false) = true := s
    have q : pSign l 60 (qrX l) = true := by
      rcases Bool.eq_false_or_eq_true (pSign l 60 (qrX l)) with z | z
      · exact z
      · rw [z] at s; exact absurd s Bool.false_ne_true
    have hl := pSign_lt q
    have g := scan_ge l isTx (qrX l + 1) 160
    have b := scan_le (l := l) (p := isTx) (i := qrX l + 1) (n := 160) (by omega)
    unfold txE
    omega
  · have d := pDef_tok (l := l) (a := qrB l) qrB_le
    exact ⟨d.1.1, d.2.1.1, fun k _ => (d.2.2.2.1 k).1, d.2.2.1.1, d.2.2.2.2⟩
