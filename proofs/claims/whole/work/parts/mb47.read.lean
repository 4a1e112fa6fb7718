/-! the reference: a request is read -/
theorem cpl_at : ∀ {w l : List Nat} {j : Nat}, j < cpl w l → w.getD j 0 = l.getD j 0
  | [], l, j, h => by unfold cpl at h; exact absurd h (Nat.not_lt_zero _)
  | c :: w, [], j, h => by unfold cpl at h; exact absurd h (Nat.not_lt_zero _)
  | c :: w, d :: l, j, h => by
    unfold cpl at h
    by_cases q : c = d
    · rw [if_pos q] at h
      cases j with
      | zero => exact q
      | succ j => exact cpl_at (w := w) (l := l) (by omega)
    · rw [if_neg q] at h; exact absurd h (Nat.not_lt_zero _)
theorem cpl_full : ∀ {w l : List Nat}, (∀ j, j < w.length → j < l.length ∧ w.getD j 0 = l.getD j 0) → cpl w l = w.length
  | [], l, h => by unfold cpl; rfl
  | c :: w, [], h => absurd (h 0 (by simp)).1 (Nat.not_lt_zero _)
  | c :: w, d :: l, h => by
    have e : c = d := (h 0 (by simp)).2
    unfold cpl
    rw [if_pos e, cpl_full (w := w) (l := l) (fun j hj => by
      have := h (j + 1) (by simp; omega)
      exact ⟨by have := this.1; simp at this; omega, this.2⟩)]
    rfl
theorem cpl_snoc : ∀ {w l : List Nat} {c : Nat}, cpl (w ++ [c]) l = if cpl w l = w.length ∧ pSign l c w.length = true then w.length + 1 else cpl w l
  | [], [], c => by
    rw [if_neg (fun z => by have := pSign_lt z.2; exact absurd this (Nat.not_lt_zero _))]
    rfl
  | [], d :: l, c => by
    show (if c = d then cpl [] l + 1 else 0) = _
    by_cases q : c = d
    · rw [if_pos q, if_pos ⟨rfl, decide_eq_true ⟨by simp, q.symm⟩⟩]
      cases l <;> rfl
    · rw [if_neg q, if_neg (fun z => q (of_decide_eq_true z.2).2.symm)]
      rfl
  | x :: w, [], c => by
    rw [if_neg (fun z => by have := pSign_lt z.2; exact absurd this (Nat.not_lt_zero _))]
    rfl
  | x :: w, d :: l, c => by
    have ih := @cpl_snoc w l c
    show (if x = d then cpl (w ++ [c]) l + 1 else 0) = if (if x = d then cpl w l + 1 else 0) = w.length + 1 ∧ pSign (d :: l) c (w.length + 1) = true then w.length + 1 + 1 else (if x = d then cpl w l + 1 else 0)
    have es : pSign (d :: l) c (w.length + 1) = pSign l c w.length := by
      unfold pSign
      simp
    rw [es]
    by_cases q : x = d
    · rw [if_pos q, if_pos q, ih]
      by_cases z : cpl w l = w.length ∧ pSign l c w.length = true
      · rw [if_pos z, if_pos ⟨by omega, z.2⟩]
      · rw [if_neg z, if_neg (fun y => z ⟨by omega, y.2⟩)]
    · rw [if_neg q, if_neg q, if_neg (fun z => by omega)]
def mwT : List (List Nat) := [[104, 111, 117, 115, 101], [112, 117, 116], [103, 111, 110, 101], [102, 108, 97, 103], [116, 97, 114, 103, 101, 116], [100, 114, 111, 112], [98, 117, 105, 108, 100], [103, 111], [115, 116, 111, 112], [114, 101, 108, 101, 97, 115, 101], [119, 105, 115, 104], [110, 101, 101, 100], [117, 110, 119, 105, 115, 104], [102, 105, 108, 101, 115], [115, 104, 111, 119], [116, 97, 114, 103, 101, 116, 115], [111, 117, 116, 112, 117, 116], [102, 97, 99, 101], [119, 104, 121], [114, 117, 110, 115], [119, 111, 114, 107], [97, 110, 101, 119], [110, 101, 101, 100, 115], [117, 115, 101, 114, 115], [119, 97, 121], [108, 111, 110, 103, 101, 115, 116], [107, 101, 112, 116], [101, 100, 105, 116, 105, 111, 110], [114, 117, 108, 101, 115], [115, 111, 108, 118, 101], [109, 101, 101, 116, 115], [114, 101, 102, 117, 116, 101], [100, 105, 115, 112, 114, 111, 118, 101], [99, 117, 116], [109, 101, 110, 100]]
theorem mwT_eq : ∀ w : Fin 35, mwd w.val = mwT.getD w.val [] := by decide +kernel
def vwT (v : Nat) : List Nat := mwT.getD v [] ++ (if baB v = true then [] else [32])
theorem vwT_eq : ∀ w : Fin 35, vw w.val = vwT w.val := by decide +kernel
theorem mwT_p : ∀ u v : Fin 35, (baB v.val = true → cpl (mwT.getD v.val []) (mwT.getD u.val []) = (mwT.getD v.val []).length → u = v) ∧ (mwT.getD u.val [] = mwT.getD v.val [] → u = v) := by decide +kernel
theorem vwT_p : ∀ u v : Fin 35, cpl (vwT v.val) (vwT u.val) = (vwT v.val).length → u = v := by decide +kernel
theorem mwT_b : ∀ u : Fin 35, 32 ∉ mwT.getD u.val [] ∧ 0 < (mwT.getD u.val []).length := by decide +kernel
theorem vw_m {v : Nat} (hv : v < 35) : vw v = mwd v ++ (if baB v = true then [] else [32]) := by
  rw [show vw v = vwT v from vwT_eq ⟨v, hv⟩, show mwd v = mwT.getD v [] from mwT_eq ⟨v, hv⟩]
  rfl
/-- two words that are beginnings of the same bytes, the shorter one first -/
theorem cpl_cpl {w u l : List Nat} (h : cpl w l = w.length) (hu : w.length ≤ cpl u l) : cpl w u = w.length := cpl_full (fun j hj => by
  have a := cpl_at (w := w) (l := l) (j := j) (by omega)
  have b := cpl_at (w := u) (l := l) (j := j) (by omega)
  have := cpl_le u l
  exact ⟨by omega, a.trans b.symm⟩)
theorem vw_1 {l : List Nat} {u v : Nat} (hu : u < 35) (hv : v < 35) (h1 : cpl (vw u) l = (vw u).length) (h2 : cpl (vw v) l = (vw v).length) : u = v := by
  have key : ∀ u v, u < 35 → v < 35 → cpl (vw u) l = (vw u).length → cpl (vw v) l = (vw v).length → (vw v).length ≤ (vw u).length → u = v := fun u v hu hv h1 h2 hl => by
    have := cpl_cpl h2 (show (vw v).length ≤ cpl (vw u) l by omega)
    rw [show vw v = vwT v from vwT_eq ⟨v, hv⟩, show vw u = vwT u from vwT_eq ⟨u, hu⟩] at this
    exact congrArg Fin.val (vwT_p ⟨u, hu⟩ ⟨v, hv⟩ this)
  rcases Nat.le_total (vw v).length (vw u).length with z | z
  · exact key u v hu hv h1 h2 z
  · exact (key v u hv hu h2 h1 z).symm
/-- a whole word that is the class's too: no other one goes further -/
theorem mw_max {l : List Nat} {u v : Nat} (hu : u < 35) (hv : v < 35) (h1 : cpl (vw v) l = (vw v).length) : cpl (mwd u) l ≤ (mwd v).length ∧ cpl (mwd v) l = (mwd v).length := by
  rw [vw_m hv] at h1
  have b := mwT_b ⟨u, hu⟩
  have mu : mwd u = mwT.getD u [] := mwT_eq ⟨u, hu⟩
  have mv : mwd v = mwT.getD v [] := mwT_eq ⟨v, hv⟩
  by_cases hb : baB v = true
  · rw [if_pos hb, List.append_nil] at h1
    refine ⟨?_, h1⟩
    rcases Nat.lt_or_ge (mwd v).length (cpl (mwd u) l) with z | z
    · have := cpl_cpl h1 (show (mwd v).length ≤ cpl (mwd u) l by omega)
      rw [mu, mv] at this
      have e := congrArg Fin.val ((mwT_p ⟨u, hu⟩ ⟨v, hv⟩).1 hb this)
      have e : u = v := e
      subst e
      omega
    · exact z
  · rw [if_neg hb, cpl_snoc, List.length_append] at h1
    by_cases q : cpl (mwd v) l = (mwd v).length ∧ pSign l 32 (mwd v).length = true
    · refine ⟨?_, q.1⟩
      rcases Nat.lt_or_ge (mwd v).length (cpl (mwd u) l) with z | z
      · exfalso
        have a := cpl_at (w := mwd u) (l := l) z
        have c := of_decide_eq_true q.2
        have le := cpl_le (mwd u) l
        rw [c.2, List.getD_eq_getElem?_getD, List.getElem?_eq_getElem (by omega)] at a
        refine b.1 ?_
        rw [← mu]
        have a : (mwd u)[(mwd v).length] = 32 := a
        rw [← a]
        exact List.getElem_mem _
      · exact z
    · rw [if_neg q] at h1
      have := cpl_le (mwd v) l
      have h1 : cpl (mwd v) l = (mwd v).length + 1 := h1
      omega
theorem fwS_sp {l : List Nat} : ∀ {w : Nat}, (∀ v, v < w → cpl (mwd v) l ≤ (fwS l w).2) ∧ ((fwS l w).2 = 0 ∨ ∃ v, v < w ∧ cpl (mwd v) l = (fwS l w).2) ∧
    (((fwS l w).1 = -1 ∧ ∀ v, v < w → cpl (mwd v) l = (mwd v).length → cpl (mwd v) l < (fwS l w).2) ∨ ∃ k : Nat, k < w ∧ (fwS l w).1 = (k : Int) ∧ cpl (mwd k) l = (mwd k).length ∧ (mwd k).length = (fwS l w).2)
  | 0 => ⟨fun v h => absurd h (Nat.not_lt_zero _), Or.inl rfl, Or.inl ⟨rfl, fun v h => absurd h (Nat.not_lt_zero _)⟩⟩
  | w + 1 => by
    obtain ⟨s1, s2, s3⟩ := @fwS_sp l w
    have lt : ∀ {p : Nat → Prop}, (∀ v, v < w → p v) → p w → ∀ v, v < w + 1 → p v := fun {p} h h2 v hv => by
      rcases Nat.lt_or_ge v w with z | z
      · exact h v z
      · rw [show v = w by omega]; exact h2
    rw [fwS]
    by_cases q : (fwS l w).2 < cpl (mwd w) l
    · rw [if_pos q, if_pos (Or.inl q)]
      dsimp only
      refine ⟨lt (fun v hv => by have := s1 v hv; omega) (Nat.le_refl _), Or.inr ⟨w, by omega, rfl⟩, ?_⟩
      by_cases z : cpl (mwd w) l = (mwd w).length
      · exact Or.inr ⟨w, by omega, if_pos z, z, z.symm⟩
      · exact Or.inl ⟨if_neg z, lt (fun v hv _ => by have := s1 v hv; omega) (fun y => absurd y z)⟩
    · rw [if_neg q]
      dsimp only
      refine ⟨lt s1 (by omega), s2.imp id (fun ⟨v, a, b⟩ => ⟨v, by omega, b⟩), ?_⟩
      by_cases z : cpl (mwd w) l = (mwd w).length ∧ cpl (mwd w) l = (fwS l w).2
      · rw [if_pos (Or.inr z), if_pos z.1]
        exact Or.inr ⟨w, by omega, rfl, z.1, by omega⟩
      · rw [if_neg (fun y => y.elim q z)]
        rcases s3 with ⟨a, b⟩ | ⟨k, a, b, c, e⟩
        · exact Or.inl ⟨a, lt b (fun y => by omega)⟩
        · exact Or.inr ⟨k, by omega, b, c, e⟩
theorem vbR_no {l : List Nat} : ∀ {f v a : Nat}, (∀ u, v ≤ u → u < v + f → cpl (vw u) l ≠ (vw u).length) → (vbR l f v a).1 = none ∧ a ≤ (vbR l f v a).2 ∧ (∀ u, v ≤ u → u < v + f → cpl (vw u) l ≤ (vbR l f v a).2) ∧ ((vbR l f v a).2 = a ∨ ∃ u, v ≤ u ∧ u < v + f ∧ cpl (vw u) l = (vbR l f v a).2)
  | 0, v, a, h => ⟨rfl, Nat.le_refl _, fun u h1 h2 => by omega, Or.inl rfl⟩
  | f + 1, v, a, h => by
    obtain ⟨i1, i2, i3, i4⟩ := vbR_no (l := l) (f := f) (v := v + 1) (a := max a (cpl (vw v) l)) (fun u h1 h2 => h u (by omega) (by omega))
    rw [vbR, if_neg (h v (Nat.le_refl _) (by omega))]
    refine ⟨i1, by omega, fun u h1 h2 => ?_, ?_⟩
    · by_cases z : u = v
      · rw [z]; omega
      · exact i3 u (by omega) (by omega)
    · rcases i4 with z | ⟨u, u1, u2, u3⟩
      · rcases Nat.le_total a (cpl (vw v) l) with y | y
        · exact Or.inr ⟨v, Nat.le_refl _, by omega, by omega⟩
        · exact Or.inl (by omega)
      · exact Or.inr ⟨u, by omega, by omega, u3⟩
theorem vbR_yes {l : List Nat} {k : Nat} (hk : k < 35) (h : cpl (vw k) l = (vw k).length) : vbR l 35 0 0 = (some k, (vw k).length) := by
  have g : ∀ {f v a : Nat}, v ≤ k → k < v + f → (vbR l f v a).1 ≠ none := fun {f} => by
    induction f with
    | zero => intro v a h1 h2; omega
    | succ f ih =>
      intro v a h1 h2
      rw [vbR]
      by_cases z : cpl (vw v) l = (vw v).length
      · rw [if_pos z]; exact fun y => by cases y
      · rw [if_neg z]
        exact ih (by rcases Nat.lt_or_ge v k with y | y; exact y; rw [show v = k by omega] at z; exact absurd h z) (by omega)
  have n := g (f := 35) (v := 0) (a := 0) (Nat.zero_le _) (by omega)
  have r := (vbR_le 35 0 0 (Nat.zero_le l.length)).2
  cases hz : (vbR l 35 0 0).1 with
  | none => exact absurd hz n
  | some t =>
    obtain ⟨r1, r2, r3, r4⟩ := r t hz
    have e := vw_1 (by omega) hk r4 h
    subst e
    rw [← r3]
    exact Prod.ext hz rfl
theorem fw_gen (l : List Nat) (h : ∀ v, v < 35 → cpl (vw v) l ≠ (vw v).length) : (vbR l 35 0 0).1 = none ∧ (vbR l 35 0 0).2 = (fwS l 35).2 := by
  obtain ⟨s1, s2, s3⟩ := @fwS_sp l 35
  obtain ⟨i1, i2, i3, i4⟩ := vbR_no (l := l) (f := 35) (v := 0) (a := 0) (fun u _ hu => h u (by omega))
  have ev : ∀ v, v < 35 → cpl (vw v) l = cpl (mwd v) l := fun v hv => by
    have n := h v hv
    rw [vw_m hv] at n ⊢
    by_cases hb : baB v = true
    · rw [if_pos hb, List.append_nil]
    · rw [if_neg hb, cpl_snoc, List.length_append] at n
      rw [if_neg hb, cpl_snoc]
      by_cases q : cpl (mwd v) l = (mwd v).length ∧ pSign l 32 (mwd v).length = true
      · rw [if_pos q] at n; exact absurd rfl n
      · rw [if_neg q]
  refine ⟨i1, Nat.le_antisymm ?_ ?_⟩
  · rcases i4 with z | ⟨u, -, u2, u3⟩
    · omega
    · rw [← u3, ev u (by omega)]; exact s1 u (by omega)
  · rcases s2 with z | ⟨u, u2, u3⟩
    · omega
    · rw [← u3, ← ev u u2]; exact i3 u (Nat.zero_le _) (by omega)
/-- the first word, as the reference finds it, is the class's -/
theorem fw_none {l : List Nat} (h : (fwS l 35).1 = -1) : (vbR l 35 0 0).1 = none ∧ (vbR l 35 0 0).2 = (fwS l 35).2 := by
  obtain ⟨s1, s2, s3⟩ := @fwS_sp l 35
  obtain ⟨a, b⟩ := s3.resolve_right (fun ⟨k, _, y, _⟩ => by omega)
  exact fw_gen l (fun v hv z => by
    obtain ⟨m1, m2⟩ := mw_max hv hv z
    have := b v hv m2
    rcases s2 with y | ⟨u, u1, u2⟩
    · omega
    · have := (mw_max u1 hv z).1
      omega)
theorem fw_some {l : List Nat} {k : Nat} (h : (fwS l 35).1 = (k : Int)) : k < 35 ∧ (fwS l 35).2 ≤ l.length ∧ (baB k = true → vbR l 35 0 0 = (some k, (fwS l 35).2)) ∧ (baB k = false → pSign l 32 (fwS l 35).2 = true → vbR l 35 0 0 = (some k, (fwS l 35).2 + 1)) ∧ (baB k = false → pSign l 32 (fwS l 35).2 = false → (vbR l 35 0 0).1 = none ∧ (vbR l 35 0 0).2 = (fwS l 35).2) := by
  obtain ⟨s1, s2, s3⟩ := @fwS_sp l 35
  obtain ⟨k', a, b, c, e⟩ := s3.resolve_left (fun y => by omega)
  have ek : k' = k := by omega
  subst ek
  refine ⟨a, fwS_rg.2.2, fun hb => ?_, fun hb hs => ?_, fun hb hs => ?_⟩
  · have ew : vw k' = mwd k' := by rw [vw_m a, if_pos hb, List.append_nil]
    rw [vbR_yes a (by rw [ew]; exact c), ew, e]
  · have ew : vw k' = mwd k' ++ [32] := by rw [vw_m a, if_neg (by rw [hb]; decide)]
    rw [vbR_yes a (by rw [ew, cpl_snoc, if_pos ⟨c, by rw [e]; exact hs⟩, List.length_append]; rfl), ew, List.length_append, e]
    rfl
  · refine fw_gen l (fun v hv z => ?_)
    obtain ⟨m1, m2⟩ := mw_max a hv z
    have h1 := s1 v hv
    have h2 := mw_max hv hv z
    have el : (mwd v).length = (mwd k').length := by omega
    have p := cpl_cpl (w := mwd v) (u := mwd k') (l := l) m2 (by omega)
    have ev : mwd v = mwd k' := by
      refine List.ext_getElem el (fun j j1 j2 => ?_)
      have y := cpl_at (w := mwd v) (l := mwd k') (j := j) (by omega)
      rw [List.getD_eq_getElem?_getD, List.getD_eq_getElem?_getD, List.getElem?_eq_getElem j1, List.getElem?_eq_getElem j2] at y
      exact y
    have ee : v = k' := by
      rw [show mwd v = mwT.getD v [] from mwT_eq ⟨v, hv⟩, show mwd k' = mwT.getD k' [] from mwT_eq ⟨k', a⟩] at ev
      exact congrArg Fin.val ((mwT_p ⟨v, hv⟩ ⟨k', a⟩).2 ev)
    subst ee
    rw [vw_m a, if_neg (by rw [hb]; decide), cpl_snoc, if_neg (fun y => by rw [e, hs] at y; exact absurd y.2 (by decide)), List.length_append] at z
    have z : cpl (mwd v) l = (mwd v).length + 1 := z
    omega
theorem pDef_le {l : List Nat} {a : Nat} (ha : a ≤ l.length) : (pDef l a).2.1 ≤ l.length := by
  have w := wordE_rg (m := 8) (lo := 48) ha
  unfold pDef
  split
  · rename_i h
    have s := pSign_lt h.2
    have r := pRule_rg (l := l) (a := wordE l a 8 48 + 1) (by omega)
    unfold pDef2
    split
    · rename_i h2
      have s2 := pSign_lt h2.2
      have i := pIns_rg (l := l) (f := 6) (a := (pRule l (wordE l a 8 48 + 1)).2.1 + 1) (by omega)
      unfold pDef3
      split
      · rename_i h3
        have s3 := pSign_lt h3.2
        split
        · rename_i h4
          have s4 := pSign_lt h4
          exact (pCond_rg (l := l) (by omega)).2.1
        · exact s3
      · exact i.2.1
    · exact r.2.1
  · exact w.2.1
theorem pVer_lt {l : List Nat} : ∀ {f a : Nat}, a ≤ l.length → (pVer l f a).2.1 ≤ l.length
  | 0, a, h => h
  | f + 1, a, h => by
    rw [pVer]
    split
    · rename_i q
      split
      · rename_i z
        have := pSign_lt z
        exact pVer_lt (f := f) (by omega)
      · exact q.1
    · exact h
theorem pTr_le {l : List Nat} : ∀ {f o a : Nat}, a ≤ l.length → (pTr l f o a).2 ≤ l.length
  | 0, o, a, h => h
  | f + 1, o, a, h => by
    rw [pTr]
    split
    · exact h
    · split
      · rename_i z
        have := pSign_lt z
        split
        · rename_i y
          have := pDig_lt y
          exact pTr_le (f := f) (by omega)
        · exact this
      · split
        · rename_i z
          have := pSign_lt z
          split
          · rename_i y
            have := pDig_lt y
            split
            · rename_i x
              have := pDig_lt x
              exact pTr_le (f := f) (by omega)
            · show a + 2 ≤ l.length; omega
          · exact this
        · exact h
theorem pEnd_le {l : List Nat} {c a : Nat} (ha : a ≤ l.length) : pEnd l c a ≤ l.length := by
  unfold pEnd
  split
  · exact (wordE_rg ha).2.1
  · split
    · exact (wordE_rg ha).2.1
    · split
      · exact (numE_rg ha).2.1
      · split
        · split
          · rename_i z
            have := pSign_lt z
            have t : txE l a ≤ l.length := (scan_le (by omega)).1
            split
            · rename_i y; exact pSign_lt y
            · exact t
          · exact ha
        · split
          · exact pDef_le ha
          · split
            · exact pVer_lt ha
            · split
              · exact pTr_le ha
              · split
                · rename_i y; exact pSign_lt y
                · exact ha
theorem pFo_le {l : List Nat} {a : Nat} (ha : a ≤ l.length) (f : List Nat) : (pFo l f a).2.1 ≤ l.length := by
  have g : ∀ (f : List Nat) (s : Bool × Nat × List (List Nat) × List Nat), s.2.1 ≤ l.length → (f.foldl (pStep l) s).2.1 ≤ l.length := fun f => by
    induction f with
    | nil => exact fun s h => h
    | cons c f ih =>
      intro s h
      refine ih _ ?_
      unfold pStep
      split
      · exact pEnd_le h
      · exact h
  exact g f _ ha
theorem ba_no : ∀ k : Fin 35, baB k.val = true → nmQ k.val = false ∧ k.val ≠ 1 ∧ k.val ≠ 4 ∧ k.val ≠ 24 ∧ nmK k.val = 0 ∧ k.val ≠ 32 ∧ k.val ≠ 30 := by decide +kernel
/-- a request is read up to its last part -/
def RdZ (S : Shp) (h : Hp) (m : Nat) (l : List Nat) (k p : Nat) (w : Int) : Prop := (w = -1 ∧ vbR l 35 0 0 = (some k, qrB l) ∧ (qrP l).1 = true ∧ (qrP l).2.1 = p ∧ p ≤ l.length ∧ RdF S h m l (qrB l) k) ∨ badJ (fun p => qrR l = false ∧ qrE l = p) p w
theorem qr_of {l : List Nat} {k a : Nat} (e : vbR l 35 0 0 = (some k, a)) : qrT l = k ∧ qrB l = a ∧ qrP l = pFo l (vf k) a ∧ a ≤ l.length := by
  have e1 : qrT l = k := by unfold qrT; rw [e]; rfl
  have e2 : qrB l = a := by unfold qrB; rw [e]
  exact ⟨e1, e2, by unfold qrP; rw [e1, e2], by rw [← e2]; exact qrB_le⟩
theorem rz_no {S : Shp} {h : Hp} {m k p : Nat} {l : List Nat} (e : (vbR l 35 0 0).1 = none ∧ (vbR l 35 0 0).2 = p) : qrR l = false ∧ qrE l = p := by
  unfold qrR qrE qrB
  rw [e.1, if_pos rfl, e.2]
  exact ⟨rfl, rfl⟩
theorem rz_rest {S : Shp} {h : Hp} {m k p a : Nat} {l : List Nat} {w : Int} (e : vbR l 35 0 0 = (some k, a)) (J : RdJ S h m l a k p w) : RdZ S h m l k p w := by
  obtain ⟨e1, e2, e3, e4⟩ := qr_of e
  unfold RdZ
  rw [e3, e2]
  rcases J with ⟨j1, j2, j3, j4⟩ | ⟨j1, j2, j3⟩
  · exact Or.inl ⟨j1, e, j2, j3, by rw [← j3]; exact pFo_le e4 _, j4⟩
  · refine Or.inr ⟨j1, ?_, ?_⟩
    · unfold qrR
      rw [e3, j2, e]
      rfl
    · unfold qrE
      rw [e3, e, if_neg (fun z => by cases z)]
      exact j3
theorem rz_bare {S : Shp} {h : Hp} {m k p : Nat} {l : List Nat} (hk : k < 35) (hb : baB k = true) (e : vbR l 35 0 0 = (some k, p)) : RdZ S h m l k p (-1) := by
  obtain ⟨n1, n2, n3, n4, n5, n6, n7⟩ := ba_no ⟨k, hk⟩ hb
  have ev : vf k = [] := (vf_k2 ⟨k, hk⟩).1 hb
  refine rz_rest e (fin_j JF.nil ev (fun _ _ => ⟨fun z => ?_, fun z => absurd z n2, fun z => absurd z n3, fun z => absurd z n4, fun i hi => ?_, fun z => absurd z n6, fun z => absurd z n7⟩))
  · have n1 : nmQ k = false := n1
    rw [n1] at z; exact absurd z (by decide)
  · have n5 : nmK k = 0 := n5
    omega
theorem rz_ver {S : Shp} {h : Hp} {m p : Nat} {l : List Nat} (f1 : pSign l 32 p = true → vbR l 35 0 0 = (some 30, p + 1)) (f2 : pSign l 32 p = false → (vbR l 35 0 0).1 = none ∧ (vbR l 35 0 0).2 = p) (VS : (vrA l 4096 p).1 = true → FI h 1760 m = (((vrA l 4096 p).2.2.length : Nat) : Int) ∧ LsA S h m 1759 (vrA l 4096 p).2.2) : RdZ S h m l 30 (vrA l 4096 p).2.1 (wOf (vrA l 4096 p).1 (vrA l 4096 p).2.1) := by
  cases hz : pSign l 32 p with
  | false =>
    rw [vrA_no hz]
    exact Or.inr ⟨rfl, rz_no (S := S) (h := h) (m := m) (k := 30) (f2 hz)⟩
  | true =>
    have e : vrA l 4096 p = pVer l 4096 (p + 1) := if_pos hz
    rw [e] at VS ⊢
    have ev : vf 30 = [118] := vf_x.2.2.2.1
    have J : JF l (p + 1) [118] (pVer l 4096 (p + 1)).2.1 (wOf (pVer l 4096 (p + 1)).1 (pVer l 4096 (p + 1)).2.1) [] (pVer l 4096 (p + 1)).2.2 := by
      have o : pOk l 118 (p + 1) = (pVer l 4096 (p + 1)).1 := rfl
      cases hy : (pVer l 4096 (p + 1)).1 with
      | true =>
        refine Or.inl ⟨rfl, ?_⟩
        rw [show [118] = ([] : List Nat) ++ [118] from rfl, JF_ok (f := []) (ws := []) (ns := []) rfl (by rw [o]; exact hy)]
        rfl
      | false => exact Or.inr ⟨rfl, Bf_bad (f := []) (ws := []) (ns := []) rfl (by rw [o]; exact hy) rfl⟩
    refine rz_rest (f1 hz) (fin_j J ev (fun z e3 => ⟨fun z => absurd z (by decide), fun z => absurd z (by decide), fun z => absurd z (by decide), fun z => absurd z (by decide), fun i hi => absurd (nmK_0 hi) (by decide), fun z => absurd z (by decide), fun _ => ?_⟩))
    rw [e3]
    refine VS ?_
    cases hy : (pVer l 4096 (p + 1)).1 with
    | true => rfl
    | false =>
      rw [hy] at z
      exact absurd (show (((pVer l 4096 (p + 1)).2.1 : Nat) : Int) = -1 from z) (by omega)
theorem d197_0 : dc 197 0 = some (.aload_n 0, 1) := by decide +kernel
theorem d197_1 : dc 197 1 = some (.iconst (-1), 2) := by decide +kernel
theorem d197_2 : dc 197 2 = some (.putfield 1738, 5) := by decide +kernel
theorem d197_5 : dc 197 5 = some (.aload_n 0, 6) := by decide +kernel
theorem d197_6 : dc 197 6 = some (.invokevirtual 198, 9) := by decide +kernel
theorem d197_9 : dc 197 9 = some (.aload_n 0, 10) := by decide +kernel
theorem d197_10 : dc 197 10 = some (.getfield 1739, 13) := by decide +kernel
theorem d197_13 : dc 197 13 = some (.ifCond .ge ((25 : Nat) : Int), 16) := by decide +kernel
theorem d197_16 : dc 197 16 = some (.aload_n 0, 17) := by decide +kernel
theorem d197_17 : dc 197 17 = some (.aload_n 0, 18) := by decide +kernel
theorem d197_18 : dc 197 18 = some (.getfield 1740, 21) := by decide +kernel
theorem d197_21 : dc 197 21 = some (.putfield 1738, 24) := by decide +kernel
theorem d197_24 : dc 197 24 = some (.return_, 25) := by decide +kernel
theorem d197_25 : dc 197 25 = some (.aload_n 0, 26) := by decide +kernel
theorem d197_26 : dc 197 26 = some (.getfield 1739, 29) := by decide +kernel
theorem d197_29 : dc 197 29 = some (.ifCond .eq ((131 : Nat) : Int), 32) := by decide +kernel
theorem d197_32 : dc 197 32 = some (.aload_n 0, 33) := by decide +kernel
theorem d197_33 : dc 197 33 = some (.getfield 1739, 36) := by decide +kernel
theorem d197_36 : dc 197 36 = some (.bipush 8, 38) := by decide +kernel
theorem d197_38 : dc 197 38 = some (.if_icmp .eq ((131 : Nat) : Int), 41) := by decide +kernel
theorem d197_41 : dc 197 41 = some (.aload_n 0, 42) := by decide +kernel
theorem d197_42 : dc 197 42 = some (.getfield 1739, 45) := by decide +kernel
theorem d197_45 : dc 197 45 = some (.bipush 12, 47) := by decide +kernel
theorem d197_47 : dc 197 47 = some (.if_icmp .eq ((131 : Nat) : Int), 50) := by decide +kernel
theorem d197_50 : dc 197 50 = some (.aload_n 0, 51) := by decide +kernel
theorem d197_51 : dc 197 51 = some (.getfield 1739, 54) := by decide +kernel
theorem d197_54 : dc 197 54 = some (.bipush 13, 56) := by decide +kernel
theorem d197_56 : dc 197 56 = some (.if_icmp .eq ((131 : Nat) : Int), 59) := by decide +kernel
theorem d197_59 : dc 197 59 = some (.aload_n 0, 60) := by decide +kernel
theorem d197_60 : dc 197 60 = some (.getfield 1739, 63) := by decide +kernel
theorem d197_63 : dc 197 63 = some (.bipush 15, 65) := by decide +kernel
theorem d197_65 : dc 197 65 = some (.if_icmp .eq ((131 : Nat) : Int), 68) := by decide +kernel
theorem d197_68 : dc 197 68 = some (.aload_n 0, 69) := by decide +kernel
theorem d197_69 : dc 197 69 = some (.getfield 1739, 72) := by decide +kernel
theorem d197_72 : dc 197 72 = some (.bipush 19, 74) := by decide +kernel
theorem d197_74 : dc 197 74 = some (.if_icmp .eq ((131 : Nat) : Int), 77) := by decide +kernel
theorem d197_77 : dc 197 77 = some (.aload_n 0, 78) := by decide +kernel
theorem d197_78 : dc 197 78 = some (.getfield 1739, 81) := by decide +kernel
theorem d197_81 : dc 197 81 = some (.bipush 20, 83) := by decide +kernel
theorem d197_83 : dc 197 83 = some (.if_icmp .eq ((131 : Nat) : Int), 86) := by decide +kernel
theorem d197_86 : dc 197 86 = some (.aload_n 0, 87) := by decide +kernel
theorem d197_87 : dc 197 87 = some (.getfield 1739, 90) := by decide +kernel
theorem d197_90 : dc 197 90 = some (.bipush 26, 92) := by decide +kernel
theorem d197_92 : dc 197 92 = some (.if_icmp .eq ((131 : Nat) : Int), 95) := by decide +kernel
theorem d197_95 : dc 197 95 = some (.aload_n 0, 96) := by decide +kernel
theorem d197_96 : dc 197 96 = some (.getfield 1739, 99) := by decide +kernel
theorem d197_99 : dc 197 99 = some (.bipush 28, 101) := by decide +kernel
theorem d197_101 : dc 197 101 = some (.if_icmp .eq ((131 : Nat) : Int), 104) := by decide +kernel
theorem d197_104 : dc 197 104 = some (.aload_n 0, 105) := by decide +kernel
theorem d197_105 : dc 197 105 = some (.getfield 1739, 108) := by decide +kernel
theorem d197_108 : dc 197 108 = some (.bipush 29, 110) := by decide +kernel
theorem d197_110 : dc 197 110 = some (.if_icmp .eq ((131 : Nat) : Int), 113) := by decide +kernel
theorem d197_113 : dc 197 113 = some (.aload_n 0, 114) := by decide +kernel
theorem d197_114 : dc 197 114 = some (.getfield 1739, 117) := by decide +kernel
theorem d197_117 : dc 197 117 = some (.bipush 31, 119) := by decide +kernel
theorem d197_119 : dc 197 119 = some (.if_icmp .eq ((131 : Nat) : Int), 122) := by decide +kernel
theorem d197_122 : dc 197 122 = some (.aload_n 0, 123) := by decide +kernel
theorem d197_123 : dc 197 123 = some (.getfield 1739, 126) := by decide +kernel
theorem d197_126 : dc 197 126 = some (.bipush 34, 128) := by decide +kernel
theorem d197_128 : dc 197 128 = some (.if_icmp .ne ((135 : Nat) : Int), 131) := by decide +kernel
theorem d197_131 : dc 197 131 = some (.iconst 1, 132) := by decide +kernel
theorem d197_132 : dc 197 132 = some (.goto ((136 : Nat) : Int), 135) := by decide +kernel
theorem d197_135 : dc 197 135 = some (.iconst 0, 136) := by decide +kernel
theorem d197_136 : dc 197 136 = some (.istore_n 1, 137) := by decide +kernel
theorem d197_137 : dc 197 137 = some (.aload_n 0, 138) := by decide +kernel
theorem d197_138 : dc 197 138 = some (.getfield 1739, 141) := by decide +kernel
theorem d197_141 : dc 197 141 = some (.bipush 30, 143) := by decide +kernel
theorem d197_143 : dc 197 143 = some (.if_icmp .ne ((153 : Nat) : Int), 146) := by decide +kernel
theorem d197_146 : dc 197 146 = some (.aload_n 0, 147) := by decide +kernel
theorem d197_147 : dc 197 147 = some (.invokevirtual 203, 150) := by decide +kernel
theorem d197_150 : dc 197 150 = some (.goto ((174 : Nat) : Int), 153) := by decide +kernel
theorem d197_153 : dc 197 153 = some (.iload_n 1, 154) := by decide +kernel
theorem d197_154 : dc 197 154 = some (.ifCond .ne ((174 : Nat) : Int), 157) := by decide +kernel
theorem d197_157 : dc 197 157 = some (.aload_n 0, 158) := by decide +kernel
theorem d197_158 : dc 197 158 = some (.bipush 32, 160) := by decide +kernel
theorem d197_160 : dc 197 160 = some (.invokevirtual 204, 163) := by decide +kernel
theorem d197_163 : dc 197 163 = some (.aload_n 0, 164) := by decide +kernel
theorem d197_164 : dc 197 164 = some (.getfield 1738, 167) := by decide +kernel
theorem d197_167 : dc 197 167 = some (.ifCond .ge ((174 : Nat) : Int), 170) := by decide +kernel
theorem d197_170 : dc 197 170 = some (.aload_n 0, 171) := by decide +kernel
theorem d197_171 : dc 197 171 = some (.invokevirtual 207, 174) := by decide +kernel
theorem d197_174 : dc 197 174 = some (.aload_n 0, 175) := by decide +kernel
theorem d197_175 : dc 197 175 = some (.getfield 1738, 178) := by decide +kernel
theorem d197_178 : dc 197 178 = some (.ifCond .ge ((200 : Nat) : Int), 181) := by decide +kernel
theorem d197_181 : dc 197 181 = some (.aload_n 0, 182) := by decide +kernel
theorem d197_182 : dc 197 182 = some (.getfield 1740, 185) := by decide +kernel
theorem d197_185 : dc 197 185 = some (.aload_n 0, 186) := by decide +kernel
theorem d197_186 : dc 197 186 = some (.getfield 1731, 189) := by decide +kernel
theorem d197_189 : dc 197 189 = some (.if_icmp .ge ((200 : Nat) : Int), 192) := by decide +kernel
theorem d197_192 : dc 197 192 = some (.aload_n 0, 193) := by decide +kernel
theorem d197_193 : dc 197 193 = some (.aload_n 0, 194) := by decide +kernel
theorem d197_194 : dc 197 194 = some (.getfield 1740, 197) := by decide +kernel
theorem d197_197 : dc 197 197 = some (.putfield 1738, 200) := by decide +kernel
theorem d197_200 : dc 197 200 = some (.return_, 201) := by decide +kernel
theorem k_M_read {S : Shp} {G : Nat → Option Nat} {d : Nat} {h : Hp} {Q : Option MV → Hp → Prop} {m : Nat} {l : List Nat} (ok : Ok S h) (h1 : 9 ≤ d) (hm : sK S m = 14) (RQ : RqR S h m l) (NI : NmI h m) (tg : Tg S G) (h4 : l.length ≤ 4096)
    (kk : ∀ h', Fr S m [1738, 1739, 1740, 1741, 1742, 1743, 1744, 1745, 1746, 1747, 1748, 1749, 1750, 1751, 1752, 1753, 1754, 1755, 1756, 1757, 1758, 1759, 1760, 1761] h h' → RqR S h' m l → NmI h' m → (qrR l = false → FI h' 1738 m = ((qrE l : Nat) : Int)) → (qrR l = true → FI h' 1738 m = -1 ∧ FI h' 1739 m = ((qrT l : Nat) : Int) ∧ qrT l < 35 ∧ RdF S h' m l (qrB l) (qrT l)) → Q none h') : Cl G d 197 [vR (some m)] h Q := by
  show Wp G d 197 0 [some (vR (some m)), none] [] h Q
  have RQ_0 := RQ
  have NI_0 := NI
  refine w_aload_n d197_0 rfl ?_
  refine w_iconst d197_1 (by decide) ?_
  refine wf1738 d197_2 ok hm (by omega) (fun h2 e2 m2 => ?_)
  have f2 : Fr S m [1738] _ _ := Fr.wF ok m2 (FK.pI e2)
  have ok2 := f2.ok
  have FR2 := Fr.le (F := [1738, 1739, 1740, 1741, 1742, 1743, 1744, 1745, 1746, 1747, 1748, 1749, 1750, 1751, 1752, 1753, 1754, 1755, 1756, 1757, 1758, 1759, 1760, 1761]) f2 (by decide)
  have RQ := RQ.r f2 hm
  have NI := NI.r f2 hm
  obtain ⟨a0, ha0⟩ : ∃ a0 : Nat, FI h2 1740 m = (a0 : Int) := ⟨(FI h2 1740 m).toNat, by have := rg1740 ok2 hm; omega⟩
  have PW : PwR h2 m a0 (-1) := ⟨ha0, by rw [e2, FI_sFI, if_pos ⟨rfl, rfl⟩]⟩
  refine w_aload_n d197_5 rfl ?_
  refine w_callv1 d197_6 (by omega) rfl (ok2.kd hm) (by simp) (Nat.le_of_ble_eq_true rfl) ?_
  refine k_M_findWord ok2 (by omega) hm RQ PW tg (fun h6 f6 RQ PW KI => ?_)
  have ok6 := f6.ok
  have FR6 := Fr.tr (F := [1738, 1739, 1740, 1741, 1742, 1743, 1744, 1745, 1746, 1747, 1748, 1749, 1750, 1751, 1752, 1753, 1754, 1755, 1756, 1757, 1758, 1759, 1760, 1761]) FR2 f6 (by decide) (by decide)
  have NI := NI.r f6 hm
  obtain ⟨p0, ep0⟩ : ∃ x, (fwS l 35).2 = x := ⟨_, rfl⟩
  obtain ⟨kd, ekd⟩ : ∃ x, (fwS l 35).1 = x := ⟨_, rfl⟩
  have fr := @fwS_rg l 35
  rw [ep0] at PW
  rw [ekd] at KI
  rw [ekd] at fr
  have NK := KI
  refine w_aload_n d197_9 rfl ?_
  refine w_getI (x := kd) d197_10 (ok6.kd hm) NK ?_
  refine w_ifge d197_13 (fun c13 => ?_) (fun c13 => ?_)
  · obtain ⟨k, hkd⟩ : ∃ k : Nat, kd = (k : Int) := ⟨kd.toNat, by omega⟩
    obtain ⟨hk, p0l, f1, f2, f3⟩ := fw_some (ekd.trans hkd)
    rw [ep0] at p0l f1 f2 f3
    rw [hkd] at NK
    have L137 : ∀ (m137 : Nat) (b : Bool), 0 = m137 → (b = baB k) → Wp G d 197 137 [some (vR (some m)), some (vI (b2i b))] [] h6 Q := by
      intro m137
      induction m137 using Nat.strongRecOn with | ind m137 IH137 => ?_
      intro b hm137 eb
      have L174 : ∀ (m174 : Nat) (b_ : Hp) (p : Nat) (w : Int), 0 = m174 → Fr S m [1738, 1739, 1740, 1741, 1742, 1743, 1744, 1745, 1746, 1747, 1748, 1749, 1750, 1751, 1752, 1753, 1754, 1755, 1756, 1757, 1758, 1759, 1760, 1761] h b_ → (PwR b_ m p w) → (RdZ S b_ m l k p w) → (NmI b_ m) → (FI b_ 1739 m = ((k : Nat) : Int)) → (RqR S b_ m l) → Wp G d 197 174 [some (vR (some m)), none] [] b_ Q := by
        intro m174
        induction m174 using Nat.strongRecOn with | ind m174 IH174 => ?_
        intro b_ p w hm174 FRb_ PW RZ NI NK RQ
        have okb_ := FRb_.ok
        refine w_aload_n d197_174 rfl ?_
        refine w_getI (x := w) d197_175 (okb_.kd hm) PW.2 ?_
        refine w_ifge d197_178 (fun c178 => ?_) (fun c178 => ?_)
        · refine w_return d197_200 ?_
          obtain ⟨z1, z2, z3⟩ := jb RZ (by omega)
          exact kk _ FRb_ RQ NI (fun _ => by rw [z3, PW.2, z1]) (fun z => by rw [z2] at z; exact absurd z (by decide))
        · obtain ⟨z0, z1, z2, z3, z4, z5⟩ := jw RZ (by omega)
          obtain ⟨y1, y2, y3, y4⟩ := qr_of z1
          refine w_aload_n d197_181 rfl ?_
          refine w_getI (x := ((p : Nat) : Int)) d197_182 (okb_.kd hm) PW.1 ?_
          refine w_aload_n d197_185 rfl ?_
          refine w_getI (x := ((l.length : Nat) : Int)) d197_186 (okb_.kd hm) RQ.1 ?_
          refine w_icmpge d197_189 (fun c189 => ?_) (fun c189 => ?_)
          · refine w_return d197_200 ?_
            have pe : p = l.length := by omega
            have rr : qrR l = true := by
              unfold qrR
              rw [z1, z2, decide_eq_true (z3.trans pe)]
              rfl
            exact kk _ FRb_ RQ NI (fun z => by rw [rr] at z; exact absurd z (by decide)) (fun _ => ⟨PW.2.trans z0, by rw [y1]; exact NK, by rw [y1]; exact hk, by rw [y1]; exact z5⟩)
          · refine w_aload_n d197_192 rfl ?_
            refine w_aload_n d197_193 rfl ?_
            refine w_getI (x := ((p : Nat) : Int)) d197_194 (okb_.kd hm) PW.1 ?_
            refine wf1738 d197_197 okb_ hm (by omega) (fun h197 e197 m197 => ?_)
            have f197 : Fr S m [1738] _ _ := Fr.wF okb_ m197 (FK.pI e197)
            have ok197 := f197.ok
            have FR197 := Fr.tr (F := [1738, 1739, 1740, 1741, 1742, 1743, 1744, 1745, 1746, 1747, 1748, 1749, 1750, 1751, 1752, 1753, 1754, 1755, 1756, 1757, 1758, 1759, 1760, 1761]) FRb_ f197 (by decide) (by decide)
            have NI := NI.r f197 hm
            have NK := (f197.i 1739).trans NK
            have RQ := RQ.r f197 hm
            refine w_return d197_200 ?_
            have rr : qrR l = false := by
              unfold qrR
              rw [z1, z2, decide_eq_false (show ¬ (qrP l).2.1 = l.length by omega)]
              rfl
            have re : qrE l = p := by
              unfold qrE
              rw [z1, if_neg (fun z => by cases z)]
              exact z3
            exact kk h197 FR197 RQ NI (fun _ => by rw [re, e197, FI_sFI, if_pos ⟨rfl, rfl⟩]) (fun z => by rw [rr] at z; exact absurd z (by decide))
      refine w_aload_n d197_137 rfl ?_
      refine w_getI (x := ((k : Nat) : Int)) d197_138 (ok6.kd hm) NK ?_
      refine w_bipush d197_141 (by decide) ?_
      refine w_icmpne d197_143 (fun c143 => ?_) (fun c143 => ?_)
      · refine w_iload_n d197_153 rfl ?_
        refine w_ifne d197_154 (fun c154 => ?_) (fun c154 => ?_)
        · have bt : b = true := by
            cases b with
            | true => rfl
            | false => exact absurd rfl c154
          have RZ : RdZ S h6 m l k p0 (-1) := rz_bare hk (eb.symm.trans bt) (f1 (eb.symm.trans bt))
          refine w_less ?_ (L174 _ h6 _ _ rfl FR6 PW RZ NI NK RQ)
          exact ⟨Or.inr rfl, Or.inl rfl, trivial⟩
        · have bf : b = false := by
            cases b with
            | true => exact absurd c154 (by decide)
            | false => rfl
          have hnb := eb.symm.trans bf
          refine w_aload_n d197_157 rfl ?_
          refine w_bipush d197_158 (by decide) ?_
          refine w_callv2 d197_160 (by omega) rfl (ok6.kd hm) (by simp) (Nat.le_of_ble_eq_true rfl) ?_
          refine k_M_expect (c := ((32 : Nat) : Int)) ok6 (by omega) hm RQ PW (by decide) (fun h160 f160 RQ PW => ?_)
          have ok160 := f160.ok
          have FR160 := Fr.tr (F := [1738, 1739, 1740, 1741, 1742, 1743, 1744, 1745, 1746, 1747, 1748, 1749, 1750, 1751, 1752, 1753, 1754, 1755, 1756, 1757, 1758, 1759, 1760, 1761]) FR6 f160 (by decide) (by decide)
          have NI := NI.r f160 hm
          have NK := (f160.i 1739).trans NK
          refine w_aload_n d197_163 rfl ?_
          refine w_getI (x := (rxp l ((32 : Nat) : Int) p0 (-1)).2) d197_164 (ok160.kd hm) PW.2 ?_
          refine w_ifge d197_167 (fun c167 => ?_) (fun c167 => ?_)
          · have sg : pSign l 32 p0 = false := by
              cases hz : pSign l 32 p0 with
              | false => rfl
              | true => rw [rxp_y hz] at c167; exact absurd c167 (show ¬ (0 : Int) ≤ -1 by decide)
            rw [show (rxp l ((32 : Nat) : Int) p0 (-1)).1 = p0 by rw [rxp_n sg], show (rxp l ((32 : Nat) : Int) p0 (-1)).2 = (p0 : Int) by rw [rxp_n sg]] at PW
            have RZ : RdZ S h160 m l k p0 (p0 : Int) := Or.inr ⟨rfl, rz_no (S := S) (h := h160) (m := m) (k := k) (f3 hnb sg)⟩
            refine w_less ?_ (L174 _ h160 _ _ rfl FR160 PW RZ NI NK RQ)
            exact ⟨Or.inr rfl, Or.inl rfl, trivial⟩
          · have sg : pSign l 32 p0 = true := by
              cases hz : pSign l 32 p0 with
              | true => rfl
              | false => rw [rxp_n hz] at c167; exact absurd c167 (by show ¬ ((p0 : Int) < 0); omega)
            rw [show (rxp l ((32 : Nat) : Int) p0 (-1)).1 = p0 + 1 by rw [rxp_y sg], show (rxp l ((32 : Nat) : Int) p0 (-1)).2 = -1 by rw [rxp_y sg]] at PW
            refine w_aload_n d197_170 rfl ?_
            refine w_callv1 d197_171 (by omega) rfl (ok160.kd hm) (by simp) (Nat.le_of_ble_eq_true rfl) ?_
            refine k_M_readRest (k := k) ok160 (by omega) hm RQ PW NK NI (pSign_lt sg) h4 hk hnb (by omega) (fun h171 p3 w3 f171 RQ PW NI RJ => ?_)
            have ok171 := f171.ok
            have FR171 := Fr.tr (F := [1738, 1739, 1740, 1741, 1742, 1743, 1744, 1745, 1746, 1747, 1748, 1749, 1750, 1751, 1752, 1753, 1754, 1755, 1756, 1757, 1758, 1759, 1760, 1761]) FR160 f171 (by decide) (by decide)
            have NK := (f171.i 1739).trans NK
            have RZ : RdZ S h171 m l k p3 w3 := rz_rest (f2 hnb sg) RJ
            refine w_less ?_ (L174 _ h171 _ _ rfl FR171 PW RZ NI NK RQ)
            exact ⟨Or.inr rfl, Or.inl rfl, trivial⟩
      · refine w_aload_n d197_146 rfl ?_
        refine w_callv1 d197_147 (by omega) rfl (ok6.kd hm) (by simp) (Nat.le_of_ble_eq_true rfl) ?_
        refine k_M_readVersions ok6 (by omega) hm RQ PW p0l h4 (fun h147 f147 RQ PW VS => ?_)
        have ok147 := f147.ok
        have FR147 := Fr.tr (F := [1738, 1739, 1740, 1741, 1742, 1743, 1744, 1745, 1746, 1747, 1748, 1749, 1750, 1751, 1752, 1753, 1754, 1755, 1756, 1757, 1758, 1759, 1760, 1761]) FR6 f147 (by decide) (by decide)
        have NI := NI.r f147 hm
        have NK := (f147.i 1739).trans NK
        have k30 : k = 30 := by omega
        rw [k30] at f2 f3
        have RZ : RdZ S h147 m l k (vrA l 4096 p0).2.1 (wOf (vrA l 4096 p0).1 (vrA l 4096 p0).2.1) := by rw [k30]; exact rz_ver (f2 rfl) (f3 rfl) VS
        refine w_goto d197_150 ?_
        refine w_less ?_ (L174 _ h147 _ _ rfl FR147 PW RZ NI NK RQ)
        exact ⟨Or.inr rfl, Or.inl rfl, trivial⟩
    refine w_aload_n d197_25 rfl ?_
    refine w_getI (x := ((k : Nat) : Int)) d197_26 (ok6.kd hm) NK ?_
    refine w_ifeq d197_29 (fun c29 => ?_) (fun c29 => ?_)
    · have eb : true = baB k := by rw [show k = 0 by omega]; rfl
      refine w_iconst d197_131 (by decide) ?_
      refine w_goto d197_132 ?_
      refine w_istore1 d197_136 rfl ?_
      rw [show (1 : Int) = b2i true from rfl]
      refine w_less ?_ (L137 _ _ rfl eb)
      exact ⟨Or.inr rfl, Or.inr rfl, trivial⟩
    · refine w_aload_n d197_32 rfl ?_
      refine w_getI (x := ((k : Nat) : Int)) d197_33 (ok6.kd hm) NK ?_
      refine w_bipush d197_36 (by decide) ?_
      refine w_icmpeq d197_38 (fun c38 => ?_) (fun c38 => ?_)
      · have eb : true = baB k := by rw [show k = 8 by omega]; rfl
        refine w_iconst d197_131 (by decide) ?_
        refine w_goto d197_132 ?_
        refine w_istore1 d197_136 rfl ?_
        rw [show (1 : Int) = b2i true from rfl]
        refine w_less ?_ (L137 _ _ rfl eb)
        exact ⟨Or.inr rfl, Or.inr rfl, trivial⟩
      · refine w_aload_n d197_41 rfl ?_
        refine w_getI (x := ((k : Nat) : Int)) d197_42 (ok6.kd hm) NK ?_
        refine w_bipush d197_45 (by decide) ?_
        refine w_icmpeq d197_47 (fun c47 => ?_) (fun c47 => ?_)
        · have eb : true = baB k := by rw [show k = 12 by omega]; rfl
          refine w_iconst d197_131 (by decide) ?_
          refine w_goto d197_132 ?_
          refine w_istore1 d197_136 rfl ?_
          rw [show (1 : Int) = b2i true from rfl]
          refine w_less ?_ (L137 _ _ rfl eb)
          exact ⟨Or.inr rfl, Or.inr rfl, trivial⟩
        · refine w_aload_n d197_50 rfl ?_
          refine w_getI (x := ((k : Nat) : Int)) d197_51 (ok6.kd hm) NK ?_
          refine w_bipush d197_54 (by decide) ?_
          refine w_icmpeq d197_56 (fun c56 => ?_) (fun c56 => ?_)
          · have eb : true = baB k := by rw [show k = 13 by omega]; rfl
            refine w_iconst d197_131 (by decide) ?_
            refine w_goto d197_132 ?_
            refine w_istore1 d197_136 rfl ?_
            rw [show (1 : Int) = b2i true from rfl]
            refine w_less ?_ (L137 _ _ rfl eb)
            exact ⟨Or.inr rfl, Or.inr rfl, trivial⟩
          · refine w_aload_n d197_59 rfl ?_
            refine w_getI (x := ((k : Nat) : Int)) d197_60 (ok6.kd hm) NK ?_
            refine w_bipush d197_63 (by decide) ?_
            refine w_icmpeq d197_65 (fun c65 => ?_) (fun c65 => ?_)
            · have eb : true = baB k := by rw [show k = 15 by omega]; rfl
              refine w_iconst d197_131 (by decide) ?_
              refine w_goto d197_132 ?_
              refine w_istore1 d197_136 rfl ?_
              rw [show (1 : Int) = b2i true from rfl]
              refine w_less ?_ (L137 _ _ rfl eb)
              exact ⟨Or.inr rfl, Or.inr rfl, trivial⟩
            · refine w_aload_n d197_68 rfl ?_
              refine w_getI (x := ((k : Nat) : Int)) d197_69 (ok6.kd hm) NK ?_
              refine w_bipush d197_72 (by decide) ?_
              refine w_icmpeq d197_74 (fun c74 => ?_) (fun c74 => ?_)
              · have eb : true = baB k := by rw [show k = 19 by omega]; rfl
                refine w_iconst d197_131 (by decide) ?_
                refine w_goto d197_132 ?_
                refine w_istore1 d197_136 rfl ?_
                rw [show (1 : Int) = b2i true from rfl]
                refine w_less ?_ (L137 _ _ rfl eb)
                exact ⟨Or.inr rfl, Or.inr rfl, trivial⟩
              · refine w_aload_n d197_77 rfl ?_
                refine w_getI (x := ((k : Nat) : Int)) d197_78 (ok6.kd hm) NK ?_
                refine w_bipush d197_81 (by decide) ?_
                refine w_icmpeq d197_83 (fun c83 => ?_) (fun c83 => ?_)
                · have eb : true = baB k := by rw [show k = 20 by omega]; rfl
                  refine w_iconst d197_131 (by decide) ?_
                  refine w_goto d197_132 ?_
                  refine w_istore1 d197_136 rfl ?_
                  rw [show (1 : Int) = b2i true from rfl]
                  refine w_less ?_ (L137 _ _ rfl eb)
                  exact ⟨Or.inr rfl, Or.inr rfl, trivial⟩
                · refine w_aload_n d197_86 rfl ?_
                  refine w_getI (x := ((k : Nat) : Int)) d197_87 (ok6.kd hm) NK ?_
                  refine w_bipush d197_90 (by decide) ?_
                  refine w_icmpeq d197_92 (fun c92 => ?_) (fun c92 => ?_)
                  · have eb : true = baB k := by rw [show k = 26 by omega]; rfl
                    refine w_iconst d197_131 (by decide) ?_
                    refine w_goto d197_132 ?_
                    refine w_istore1 d197_136 rfl ?_
                    rw [show (1 : Int) = b2i true from rfl]
                    refine w_less ?_ (L137 _ _ rfl eb)
                    exact ⟨Or.inr rfl, Or.inr rfl, trivial⟩
                  · refine w_aload_n d197_95 rfl ?_
                    refine w_getI (x := ((k : Nat) : Int)) d197_96 (ok6.kd hm) NK ?_
                    refine w_bipush d197_99 (by decide) ?_
                    refine w_icmpeq d197_101 (fun c101 => ?_) (fun c101 => ?_)
                    · have eb : true = baB k := by rw [show k = 28 by omega]; rfl
                      refine w_iconst d197_131 (by decide) ?_
                      refine w_goto d197_132 ?_
                      refine w_istore1 d197_136 rfl ?_
                      rw [show (1 : Int) = b2i true from rfl]
                      refine w_less ?_ (L137 _ _ rfl eb)
                      exact ⟨Or.inr rfl, Or.inr rfl, trivial⟩
                    · refine w_aload_n d197_104 rfl ?_
                      refine w_getI (x := ((k : Nat) : Int)) d197_105 (ok6.kd hm) NK ?_
                      refine w_bipush d197_108 (by decide) ?_
                      refine w_icmpeq d197_110 (fun c110 => ?_) (fun c110 => ?_)
                      · have eb : true = baB k := by rw [show k = 29 by omega]; rfl
                        refine w_iconst d197_131 (by decide) ?_
                        refine w_goto d197_132 ?_
                        refine w_istore1 d197_136 rfl ?_
                        rw [show (1 : Int) = b2i true from rfl]
                        refine w_less ?_ (L137 _ _ rfl eb)
                        exact ⟨Or.inr rfl, Or.inr rfl, trivial⟩
                      · refine w_aload_n d197_113 rfl ?_
                        refine w_getI (x := ((k : Nat) : Int)) d197_114 (ok6.kd hm) NK ?_
                        refine w_bipush d197_117 (by decide) ?_
                        refine w_icmpeq d197_119 (fun c119 => ?_) (fun c119 => ?_)
                        · have eb : true = baB k := by rw [show k = 31 by omega]; rfl
                          refine w_iconst d197_131 (by decide) ?_
                          refine w_goto d197_132 ?_
                          refine w_istore1 d197_136 rfl ?_
                          rw [show (1 : Int) = b2i true from rfl]
                          refine w_less ?_ (L137 _ _ rfl eb)
                          exact ⟨Or.inr rfl, Or.inr rfl, trivial⟩
                        · refine w_aload_n d197_122 rfl ?_
                          refine w_getI (x := ((k : Nat) : Int)) d197_123 (ok6.kd hm) NK ?_
                          refine w_bipush d197_126 (by decide) ?_
                          refine w_icmpne d197_128 (fun c128 => ?_) (fun c128 => ?_)
                          · have eb : false = baB k := (decide_eq_false (by simp only [List.mem_cons, List.not_mem_nil, or_false]; omega)).symm
                            refine w_iconst d197_135 (by decide) ?_
                            refine w_istore1 d197_136 rfl ?_
                            rw [show (0 : Int) = b2i false from rfl]
                            refine w_less ?_ (L137 _ _ rfl eb)
                            exact ⟨Or.inr rfl, Or.inr rfl, trivial⟩
                          · have eb : true = baB k := by rw [show k = 34 by omega]; rfl
                            refine w_iconst d197_131 (by decide) ?_
                            refine w_goto d197_132 ?_
                            refine w_istore1 d197_136 rfl ?_
                            rw [show (1 : Int) = b2i true from rfl]
                            refine w_less ?_ (L137 _ _ rfl eb)
                            exact ⟨Or.inr rfl, Or.inr rfl, trivial⟩
  · have FN := fw_none (ekd.trans (show kd = -1 by omega))
    rw [ep0] at FN
    refine w_aload_n d197_16 rfl ?_
    refine w_aload_n d197_17 rfl ?_
    refine w_getI (x := ((p0 : Nat) : Int)) d197_18 (ok6.kd hm) PW.1 ?_
    refine wf1738 d197_21 ok6 hm (by omega) (fun h21 e21 m21 => ?_)
    have f21 : Fr S m [1738] _ _ := Fr.wF ok6 m21 (FK.pI e21)
    have ok21 := f21.ok
    have FR21 := Fr.tr (F := [1738, 1739, 1740, 1741, 1742, 1743, 1744, 1745, 1746, 1747, 1748, 1749, 1750, 1751, 1752, 1753, 1754, 1755, 1756, 1757, 1758, 1759, 1760, 1761]) FR6 f21 (by decide) (by decide)
    have RQ := RQ.r f21 hm
    have NI := NI.r f21 hm
    have NK := (f21.i 1739).trans NK
    refine w_return d197_24 ?_
    have rn := rz_no (S := S) (h := h21) (m := m) (k := 0) FN
    exact kk h21 FR21 RQ NI (fun _ => by rw [rn.2, e21, FI_sFI, if_pos ⟨rfl, rfl⟩]) (fun z => by rw [rn.1] at z; exact absurd z (by decide))
