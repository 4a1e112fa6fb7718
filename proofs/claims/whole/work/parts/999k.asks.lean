/-! a request and its answer, as words -/
def nmK (t : Nat) : Nat := if t = 3 ∨ t = 7 ∨ t = 33 then 1 else if t = 10 then 3 else if t = 11 then 5 else 0
theorem fold_ns {l : List Nat} : ∀ (f : List Nat) (s : Bool × Nat × List (List Nat) × List Nat), (f.foldl (pStep l) s).1 = true → 118 ∉ f → (f.foldl (pStep l) s).2.2.2.length = s.2.2.2.length + f.count 110
  | [], s, _, _ => rfl
  | c :: f, s, h, h8 => by
    have hs : s.1 = true := by
      rcases Bool.eq_false_or_eq_true s.1 with q | q
      · exact q
      · rw [fold_bad (c :: f) s q] at h; exact absurd h (by decide)
    have c8 : c ≠ 118 := fun z => h8 (by rw [z]; simp)
    have r := fold_ns f (pStep l s c) h (fun z => h8 (List.mem_cons_of_mem _ z))
    have e : pStep l s c = (pOk l c s.2.1, pEnd l c s.2.1, pWs l c s.2.1 s.2.2.1, pNs l c s.2.1 s.2.2.2) := by unfold pStep; rw [if_pos hs]
    have ok : pOk l c s.2.1 = true := by
      rcases Bool.eq_false_or_eq_true (pOk l c s.2.1) with q | q
      · exact q
      · have h' : (f.foldl (pStep l) (pStep l s c)).1 = true := h
        rw [fold_bad f (pStep l s c) (by rw [e]; exact q)] at h'; exact absurd h' (by decide)
    have r' : (f.foldl (pStep l) (pStep l s c)).2.2.2.length = _ := r
    show (f.foldl (pStep l) (pStep l s c)).2.2.2.length = _
    rw [r', e, List.count_cons]
    show (pNs l c s.2.1 s.2.2.2).length + _ = _
    unfold pNs
    unfold pOk at ok
    by_cases q : c = 110
    · subst q
      rw [if_neg (by decide), if_neg (by decide), if_pos rfl] at ok
      rw [if_pos rfl, if_pos ok, List.length_append]
      simp
      omega
    · rw [if_neg q, if_neg c8]
      simp [q]
theorem pFo_ns {l : List Nat} {a : Nat} (f : List Nat) (h : (pFo l f a).1 = true) (h8 : 118 ∉ f) : (pFo l f a).2.2.2.length = f.count 110 := by
  have := fold_ns (l := l) f (true, a, [], []) h h8
  unfold pFo
  rw [this]
  simp
theorem vf_k : ∀ t : Fin 35, t.val ≠ 30 → 118 ∉ vf t.val ∧ (vf t.val).count 110 = nmK t.val := by decide +kernel
theorem qrK_eq {l : List Nat} (e : qrR l = true) (ht : qrT l < 35) (h30 : qrT l ≠ 30) : qrK l = nmK (qrT l) := by
  have p1 : (qrP l).1 = true := by
    unfold qrR at e
    simp only [Bool.and_eq_true] at e
    exact e.2.1
  obtain ⟨v1, v2⟩ := vf_k ⟨qrT l, ht⟩ h30
  have := pFo_ns (l := l) (a := qrB l) (vf (qrT l)) p1 v1
  unfold qrK
  rw [← v2]
  exact this
theorem refN_nu {t : Nat} {P : PlV} {rs : List RuV} {pu : Nat → OutV} {g : Bool} {n : List Nat} {D : TgV} {nu nu' : Nat → Int} {ci : Bool} (h : ∀ i, i < nmK t → nu i = nu' i) : refN t P rs pu g n D nu ci = refN t P rs pu g n D nu' ci := by
  unfold refN
  by_cases q : t = 10
  · have e : rfs nu 0 rs.length = rfs nu' 0 rs.length := by
      subst q
      unfold rfs
      rw [h 0 (by decide), h 1 (by decide), h 2 (by decide)]
    rw [e]
    subst q
    simp
  · by_cases q2 : t = 11
    · have e : rfs nu 2 rs.length = rfs nu' 2 rs.length := by
        subst q2
        unfold rfs
        rw [h 0 (by decide), h 1 (by decide), h 2 (by decide), h 3 (by decide), h 4 (by decide)]
      rw [e]
      subst q2
      simp
    · simp only [if_neg q, if_neg q2]
theorem caS_nu {L t : Nat} {n x : List Nat} {D : TgV} {nu nu' : Nat → Int} {v : HoS} (h : ∀ i, i < nmK t → nu i = nu' i) : caS L t (n, x, D, nu) v = caS L t (n, x, D, nu') v := by
  by_cases q : t = 3 ∨ t = 7
  · have e : nu 0 = nu' 0 := h 0 (by unfold nmK; rw [if_pos (by omega)]; decide)
    unfold caS
    simp only [e]
    rcases q with q | q <;> subst q <;> rfl
  · by_cases q10 : t = 10
    · subst q10
      have e : nuR nu 0 = nuR nu' 0 := by unfold nuR; rw [h 0 (by decide), h 1 (by decide), h 2 (by decide)]
      unfold caS
      simp [e]
    · by_cases q11 : t = 11
      · subst q11
        have e : nuR nu 2 = nuR nu' 2 := by unfold nuR; rw [h 0 (by decide), h 1 (by decide), h 2 (by decide), h 3 (by decide), h 4 (by decide)]
        unfold caS
        simp [e]
      · unfold caS
        have a3 : ¬ t = 3 := fun z => q (Or.inl z)
        have a7 : ¬ t = 7 := fun z => q (Or.inr z)
        simp only [if_neg a3, if_neg a7, if_neg q10, if_neg q11]
noncomputable def ciB (ts : List (Bool × TgV)) (D : TgV) : Bool := @decide (circV ts D) (Classical.propDecidable _)
noncomputable def rfQ (l : List Nat) (v : HoS) : Nat := refN (qrT l) v.1 v.2.1 (seGo v.2.2).1 (seOn v.2.2) (qrA l (qrN l)).1 (qrA l (qrN l)).2.2.1 (qrN l) (ciB v.1.2.2 (qrA l (qrN l)).2.2.1)
theorem refN_ci {t : Nat} {P : PlV} {rs : List RuV} {pu : Nat → OutV} {g : Bool} {n : List Nat} {D : TgV} {nu : Nat → Int} {ci : Bool} (h : t = 4 → (refN t P rs pu g n D nu ci = 32 → circV P.2.2 D) ∧ (refN t P rs pu g n D nu ci = 19 → ¬ circV P.2.2 D)) : refN t P rs pu g n D nu ci = refN t P rs pu g n D nu (ciB P.2.2 D) := by
  by_cases q : t = 4
  · obtain ⟨h1, h2⟩ := h q
    subst q
    unfold refN at h1 h2 ⊢
    simp only [show ¬ (4 : Nat) = 1 by decide, show ¬ (4 : Nat) = 2 by decide, show ¬ (4 : Nat) = 3 by decide, if_false, if_true] at h1 h2 ⊢
    by_cases c1 : rix (tgR D) < 0
    · simp only [if_pos c1]
    simp only [if_neg c1] at h1 h2 ⊢
    by_cases c2 : ¬ (rix (tgR D) = 4 ↔ tgW D ≠ [])
    · simp only [if_pos c2]
    simp only [if_neg c2] at h1 h2 ⊢
    by_cases c3 : tix P.2.2 (tgN D) < 0 ∧ 14 ≤ P.2.2.length
    · simp only [if_pos c3]
    simp only [if_neg c3] at h1 h2 ⊢
    have e : ci = ciB P.2.2 D := by
      unfold ciB
      cases ci
      · have := h2 (by simp)
        exact (@decide_eq_false _ (Classical.propDecidable _) this).symm
      · have := h1 (by simp)
        exact (@decide_eq_true _ (Classical.propDecidable _) this).symm
    rw [← e]
  · unfold refN
    simp only [if_neg q]
/-- the answer to a request: the house, the book and the text behind it -/
def ansR (L LZ : Nat) (l : List Nat) (v : HoS) (b : BkV) (v' : HoS) (b' : BkV) (T : List Nat) : Prop :=
  if qrR l = false then v' = v ∧ b' = b ∧ T = txt 27 ++ dec (qrE l)
  else if b.2.2.2 = true ∧ qrT l ≠ 0 then v' = v ∧ b' = b ∧ T = txt 37
  else if kd (qrT l) = 2 then v' = v ∧ b' = b ∧ chR (qrT l) v LZ (tat v.1.2.2 (qrA l (qrN l)).1) (if qrT l = 24 then tat v.1.2.2 (qr2 l) else tat v.1.2.2 (qrA l (qrN l)).1) T
  else if kd (qrT l) = 3 then v' = v ∧ b' = b ∧ T = ouT (qrT l) v.2.1 (qrN l) (qrK l) l
  else if kd (qrT l) = 1 then v' = v ∧ ∃ sel cu, (qrT l = 23 → usP v.1.2.2 (qrA l (qrN l)).1 sel) ∧ (qrT l = 33 → (cu = true ↔ 0 ≤ b.2.2.1 ∧ ((qrN l 0).toNat : Int) ≤ b.2.1 - b.2.2.1)) ∧ (b' = if qrT l = 33 ∧ cu = true then (clB b.1 (b.2.2.1.toNat + (qrN l 0).toNat) b.2.1, b.2.1, b.2.2.1, true) else b) ∧ T = shT (qrT l) v (qrA l (qrN l)).1 sel cu
  else if rfQ l v = 19 ∧ (0 < l.length ∧ l.length ≤ 200 ∧ (bk0 true (qrT l) b).2.1 + l.length + 2 ≤ 2048) then v' = (caS L (qrT l) (qrA l (qrN l)) v).1 ∧ b' = bkW (bk0 true (qrT l) b) l ∧ T = (if (caS L (qrT l) (qrA l (qrN l)) v).2 = [] then txt 36 else (caS L (qrT l) (qrA l (qrN l)) v).2)
  else v' = v ∧ b' = bk0 true (qrT l) b ∧ T = txt (if rfQ l v = 19 then 18 else rfQ l v)
theorem ouT_nu {t : Nat} {rs : List RuV} {nu nu' : Nat → Int} {k : Nat} {l : List Nat} (hr : ∀ k, k < rs.length → rOf rs k ≤ 4 ∧ rPa rs k ≤ 4) (h : t = 30 → ∀ i, i < 5 → i < k → nu i = nu' i) : ouT t rs nu k l = ouT t rs nu' k l := by
  by_cases q : t = 30
  · unfold ouT
    by_cases q5 : k ≠ 5
    · simp only [if_pos q5]
    · have q5 : k = 5 := by omega
      have e : lwb rs nu = lwb rs nu' := lwb_cg hr (fun i hi => h q i hi (by omega))
      rw [e]
  · simp only [ouT, if_neg q]
theorem ansR_of {L LZ : Nat} {l : List Nat} {v v' : HoS} {b b' : BkV} {nu : Nat → Int} {T : List Nat} (hr : ∀ k, k < v.2.1.length → rOf v.2.1 k ≤ 4 ∧ rPa v.2.1 k ≤ 4) (e : qrR l = true) (ht : qrT l < 35) (hn : ∀ i, i < 5 → i < qrK l → nu i = qrN l i) (R : rpR (qrT l) l (qrA l nu) (qr2 l) (qrK l) L LZ v b v' b' T) : ansR L LZ l v b v' b' T := by
  have hk : qrT l ≠ 30 → ∀ i, i < nmK (qrT l) → nu i = qrN l i := fun h30 i hi => by
    have k := qrK_eq e ht h30
    refine hn i ?_ (by omega)
    have : nmK (qrT l) ≤ 5 := by unfold nmK; (repeat' split) <;> omega
    omega
  unfold ansR
  rw [if_neg (by rw [e]; decide)]
  unfold rpR at R
  split
  · rename_i q; rw [if_pos q] at R; exact R
  rename_i q; rw [if_neg q] at R
  split
  · rename_i q; rw [if_pos q] at R; exact R
  rename_i q2; rw [if_neg q2] at R
  split
  · rename_i q; rw [if_pos q] at R
    exact ⟨R.1, R.2.1, R.2.2.trans (ouT_nu hr (fun _ i h5 hi => hn i h5 hi))⟩
  rename_i q3; rw [if_neg q3] at R
  split
  · rename_i q; rw [if_pos q] at R
    obtain ⟨r1, sel, cu, r2, r3, r4, r5⟩ := R
    by_cases z : qrT l = 33
    · have e0 : nu 0 = qrN l 0 := hk (by omega) 0 (by rw [z]; decide)
      refine ⟨r1, sel, cu, r2, fun w => ?_, ?_, r5⟩
      · rw [← e0]; exact r3 w
      · rw [← e0]; exact r4
    · exact ⟨r1, sel, cu, r2, fun w => absurd w z, by rw [r4, if_neg (fun y => z y.1), if_neg (fun y => z y.1)], r5⟩
  rename_i q1; rw [if_neg q1] at R
  have h30 : qrT l ≠ 30 := fun z => q3 (by rw [z]; decide)
  obtain ⟨ci, c1, c2⟩ := R
  have en : refN (qrT l) v.1 v.2.1 (seGo v.2.2).1 (seOn v.2.2) (qrA l nu).1 (qrA l nu).2.2.1 (qrA l nu).2.2.2 ci = rfQ l v := by
    rw [refN_ci c1]
    exact refN_nu (hk h30)
  have ec : caS L (qrT l) (qrA l nu) v = caS L (qrT l) (qrA l (qrN l)) v := caS_nu (hk h30)
  rw [en, ec] at c2
  unfold bkF at c2
  rcases c2 with ⟨d1, d2⟩ | ⟨d1, d2⟩
  · rw [if_pos d1]; exact d2
  · rw [if_neg d1]; exact d2
theorem rfQ_of {l : List Nat} {v : HoS} {nu : Nat → Int} {ci : Bool} (e : qrR l = true) (ht : qrT l < 35) (h30 : qrT l ≠ 30) (hn : ∀ i, i < 5 → i < qrK l → nu i = qrN l i) (c : qrT l = 4 → (refN (qrT l) v.1 v.2.1 (seGo v.2.2).1 (seOn v.2.2) (qrA l nu).1 (qrA l nu).2.2.1 (qrA l nu).2.2.2 ci = 32 → circV v.1.2.2 (qrA l nu).2.2.1) ∧ (refN (qrT l) v.1 v.2.1 (seGo v.2.2).1 (seOn v.2.2) (qrA l nu).1 (qrA l nu).2.2.1 (qrA l nu).2.2.2 ci = 19 → ¬ circV v.1.2.2 (qrA l nu).2.2.1)) : refN (qrT l) v.1 v.2.1 (seGo v.2.2).1 (seOn v.2.2) (qrA l nu).1 (qrA l nu).2.2.1 (qrA l nu).2.2.2 ci = rfQ l v ∧ ∀ L, caS L (qrT l) (qrA l nu) v = caS L (qrT l) (qrA l (qrN l)) v := by
  have hk : ∀ i, i < nmK (qrT l) → nu i = qrN l i := fun i hi => by
    have k := qrK_eq e ht h30
    refine hn i ?_ (by omega)
    have : nmK (qrT l) ≤ 5 := by unfold nmK; (repeat' split) <;> omega
    omega
  refine ⟨?_, fun L => caS_nu hk⟩
  rw [refN_ci c]
  exact refN_nu hk
/-- inputs that are read have names -/
theorem pIns_nm {l : List Nat} : ∀ {f a : Nat}, a ≤ l.length → (pIns l f a).1 = true → ∀ i, i < (pIns l f a).2.2.length → inN (pIns l f a).2.2 i ≠ []
  | 0, a, ha, h, i, hi => absurd hi (Nat.not_lt_zero _)
  | f + 1, a, ha, h, i, hi => by
    have one : (pIn l a).1 = true → (pIn l a).2.2.2 ≠ [] := fun h => by
      unfold pIn at h ⊢
      by_cases q : pSign l 58 a = true
      · rw [if_pos q] at h ⊢
        have hs := pSign_lt q
        have w := pWord_lt (by omega) h
        have r := wordE_rg (l := l) (a := a + 1) (m := 8) (lo := 48) (by omega)
        exact sl_ne w r.2.1
      · rw [if_neg q] at h ⊢
        have w := pWord_lt ha h
        have r := wordE_rg (l := l) (a := a) (m := 12) (lo := 46) ha
        exact sl_ne w r.2.1
    rw [pIns] at h hi ⊢
    by_cases q : (pIn l a).1 = true
    · rw [if_pos q] at h hi ⊢
      obtain ⟨i1, i2, i3⟩ := pIn_txt ha q
      by_cases q2 : f ≠ 0 ∧ pSign l 44 (pIn l a).2.1 = true
      · rw [if_pos q2] at h hi ⊢
        cases i with
        | zero => exact one q
        | succ i => exact pIns_nm (f := f) (a := (pIn l a).2.1 + 1) (by have := pSign_lt q2.2; omega) h i (by simpa using hi)
      · rw [if_neg q2] at h hi ⊢
        cases i with
        | zero => exact one q
        | succ i => exact absurd hi (by simp)
    · rw [if_neg q] at h
      exact absurd h Bool.false_ne_true
theorem pDef_nm {l : List Nat} {a : Nat} (ha : a ≤ l.length) (h : (pDef l a).1 = true) : nmsD (pDef l a).2.2 := by
  unfold pDef at h ⊢
  by_cases q : pWord l 8 48 a = true ∧ pSign l 61 (wordE l a 8 48) = true
  · rw [if_pos q] at h ⊢
    have hs := pSign_lt q.2
    unfold pDef2 at h ⊢
    by_cases q2 : (pRule l (wordE l a 8 48 + 1)).1 = true ∧ pSign l 40 (pRule l (wordE l a 8 48 + 1)).2.1 = true
    · rw [if_pos q2] at h ⊢
      have hs2 := pSign_lt q2.2
      have si : (pIns l 6 ((pRule l (wordE l a 8 48 + 1)).2.1 + 1)).1 = true := by
        unfold pDef3 at h
        split at h
        · rename_i z; exact z.1
        · exact absurd h Bool.false_ne_true
      have n := pIns_nm (f := 6) (by omega) si
      obtain ⟨n1, n2, n3, n4⟩ := pIns_txt (by omega) si
      obtain ⟨d1, ⟨d2, d3, d4, d5⟩, d6⟩ := pDef3_txt n3 h
      intro i hi
      rw [d5] at hi ⊢
      exact n i hi
    · rw [if_neg q2] at h
      exact absurd h Bool.false_ne_true
  · rw [if_neg q] at h
    exact absurd h Bool.false_ne_true
theorem qr_nm {l : List Nat} (e : qrR l = true) (t4 : qrT l = 4) (nu : Nat → Int) : nmsD (qrA l nu).2.2.1 := by
  have p1 : (qrP l).1 = true := by
    unfold qrR at e
    simp only [Bool.and_eq_true] at e
    exact e.2.1
  unfold qrP at p1
  rw [t4, vf_x.2.1] at p1
  obtain ⟨s1, s2, s3⟩ := pFo_step (l := l) (f := []) (c := 100) p1
  exact pDef_nm qrB_le s2
