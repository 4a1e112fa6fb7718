/-! a request that is read, as words of its bytes -/
def qrT (l : List Nat) : Nat := (vbR l 35 0 0).1.getD 35
def qrB (l : List Nat) : Nat := (vbR l 35 0 0).2
def qrP (l : List Nat) : Bool × Nat × List (List Nat) × List Nat := pFo l (vf (qrT l)) (qrB l)
def qrR (l : List Nat) : Bool := (vbR l 35 0 0).1.isSome && ((qrP l).1 && decide ((qrP l).2.1 = l.length))
def qrE (l : List Nat) : Nat := if (vbR l 35 0 0).1 = none then qrB l else (qrP l).2.1
def qrX (l : List Nat) : Nat := (pFo l [112, 32] (qrB l)).2.1
def qrA (l : List Nat) (nu : Nat → Int) : ArV := ((qrP l).2.2.1.getD 0 [], (sl l (qrX l + 1) (txE l (qrX l))).map untold, (pDef l (qrB l)).2.2, nu)
def qr2 (l : List Nat) : List Nat := (qrP l).2.2.1.getD 1 []
def qrK (l : List Nat) : Nat := (qrP l).2.2.2.length
def qrN (l : List Nat) (i : Nat) : Int := ((qrP l).2.2.2.getD i 0 : Nat)
theorem pFo_step {l f : List Nat} {c a : Nat} (h : (pFo l (f ++ [c]) a).1 = true) : (pFo l f a).1 = true ∧ pOk l c (pFo l f a).2.1 = true ∧ pFo l (f ++ [c]) a = (true, pEnd l c (pFo l f a).2.1, pWs l c (pFo l f a).2.1 (pFo l f a).2.2.1, pNs l c (pFo l f a).2.1 (pFo l f a).2.2.2) := by
  rw [pFo_snoc] at h ⊢
  unfold pStep at h ⊢
  by_cases q : (pFo l f a).1 = true
  · rw [if_pos q] at h ⊢
    have h' : pOk l c (pFo l f a).2.1 = true := h
    exact ⟨q, h', by rw [h']⟩
  · rw [if_neg q] at h
    exact absurd h q
theorem pFo_nil {l : List Nat} {a : Nat} : pFo l [] a = (true, a, [], []) := rfl
theorem wPush_0 {ws : List (List Nat)} {w : List Nat} (h : ws ≠ []) : (wPush ws w).getD 0 [] = ws.getD 0 [] ∧ wPush ws w ≠ [] := by
  unfold wPush
  split
  · cases ws with
    | nil => exact absurd rfl h
    | cons x ws => exact ⟨rfl, by simp⟩
  · exact ⟨rfl, h⟩
theorem pWs_0 {l : List Nat} {c a : Nat} {ws : List (List Nat)} (h : ws ≠ []) : (pWs l c a ws).getD 0 [] = ws.getD 0 [] ∧ pWs l c a ws ≠ [] := by
  unfold pWs
  split
  · split
    · exact wPush_0 h
    · exact ⟨rfl, h⟩
  · split
    · split
      · exact wPush_0 h
      · exact ⟨rfl, h⟩
    · exact ⟨rfl, h⟩
theorem fold_0 {l : List Nat} : ∀ (f : List Nat) (s : Bool × Nat × List (List Nat) × List Nat), s.2.2.1 ≠ [] → (f.foldl (pStep l) s).2.2.1.getD 0 [] = s.2.2.1.getD 0 [] ∧ (f.foldl (pStep l) s).2.2.1 ≠ []
  | [], s, h => ⟨rfl, h⟩
  | c :: f, s, h => by
    have q : (pStep l s c).2.2.1.getD 0 [] = s.2.2.1.getD 0 [] ∧ (pStep l s c).2.2.1 ≠ [] := by
      unfold pStep
      split
      · exact pWs_0 h
      · exact ⟨rfl, h⟩
    have r := fold_0 (l := l) f (pStep l s c) q.2
    exact ⟨r.1.trans q.1, r.2⟩
theorem fold_bad {l : List Nat} : ∀ (f : List Nat) (s : Bool × Nat × List (List Nat) × List Nat), s.1 = false → (f.foldl (pStep l) s).1 = false
  | [], s, h => h
  | c :: f, s, h => by
    rw [List.foldl_cons, show pStep l s c = s by unfold pStep; rw [if_neg (by rw [h]; decide)]]
    exact fold_bad f s h
/-- a form that begins with a name -/
theorem pFo_a {l f : List Nat} {c a : Nat} (hc : c = 97 ∨ c = 112) (h : (pFo l (c :: f) a).1 = true) : (pFo l (c :: f) a).2.2.1.getD 0 [] = (if c = 97 then sl l a (wordE l a 8 48) else sl l a (wordE l a 12 46)) ∧ 0 < (pFo l (c :: f) a).2.2.1.length ∧ pOk l c a = true := by
  have e : pFo l (c :: f) a = f.foldl (pStep l) (pOk l c a, pEnd l c a, pWs l c a [], pNs l c a []) := by
    unfold pFo
    rw [List.foldl_cons]
    rfl
  rw [e] at h ⊢
  have ok : pOk l c a = true := by
    rcases Bool.eq_false_or_eq_true (pOk l c a) with q | q
    · exact q
    · rw [fold_bad f _ q] at h; exact absurd h (by decide)
  have w : pWs l c a [] = [if c = 97 then sl l a (wordE l a 8 48) else sl l a (wordE l a 12 46)] := by
    unfold pWs
    unfold pOk at ok
    rcases hc with rfl | rfl
    · rw [if_pos rfl] at ok ⊢
      rw [if_pos ok, if_pos rfl]
      rfl
    · rw [if_neg (by decide), if_pos rfl] at ok ⊢
      rw [if_pos ok, if_neg (by decide)]
      rfl
  have r := fold_0 (l := l) f (pOk l c a, pEnd l c a, pWs l c a [], pNs l c a []) (by rw [w]; simp)
  refine ⟨r.1.trans (by rw [w]; rfl), List.length_pos_iff.mpr r.2, ok⟩
theorem vf_1 : ∀ t : Fin 35, (t.val = 5 ∨ t.val = 6 ∨ t.val = 9 ∨ t.val = 16 ∨ t.val = 17 ∨ t.val = 18 ∨ t.val = 21 ∨ t.val = 22 ∨ t.val = 24 ∨ t.val = 25 ∨ t.val = 27 ∨ t.val = 3 → vf t.val = 97 :: (vf t.val).tail) ∧ (t.val = 1 ∨ t.val = 2 ∨ t.val = 14 ∨ t.val = 23 → vf t.val = 112 :: (vf t.val).tail) := by decide +kernel
theorem vf_x : vf 1 = [112, 32, 116] ∧ vf 4 = [100] ∧ vf 24 = [97, 32, 97] ∧ vf 30 = [118] ∧ vf 33 = [110] ∧ vf 10 = [110, 32, 110, 32, 110] ∧ vf 11 = [110, 32, 110, 32, 110, 32, 110, 32, 110] ∧ vf 3 = [97, 32, 110] ∧ vf 7 = [110] := by decide +kernel
theorem vf_no : ∀ t : Fin 35, t.val ≠ 4 → 100 ∉ vf t.val := by decide +kernel
theorem vbR_le {l : List Nat} : ∀ (f v a : Nat), a ≤ l.length → (vbR l f v a).2 ≤ l.length ∧ ∀ t, (vbR l f v a).1 = some t → v ≤ t ∧ t < v + f ∧ (vbR l f v a).2 = (vw t).length ∧ cpl (vw t) l = (vw t).length
  | 0, v, a, h => ⟨h, fun t z => by cases z⟩
  | f + 1, v, a, h => by
    unfold vbR
    have c := cpl_le (vw v) l
    split
    · rename_i q
      exact ⟨c.2, fun t z => by injection z with z; subst z; exact ⟨Nat.le_refl _, by omega, q, q⟩⟩
    · obtain ⟨r1, r2⟩ := vbR_le (l := l) f (v + 1) (max a (cpl (vw v) l)) (by omega)
      exact ⟨r1, fun t z => by obtain ⟨q1, q2, q3⟩ := r2 t z; exact ⟨by omega, by omega, q3⟩⟩
theorem qrB_le {l : List Nat} : qrB l ≤ l.length := (vbR_le 35 0 0 (Nat.zero_le _)).1
theorem pVer_le {l : List Nat} : ∀ (f a : Nat), ∀ c ∈ (pVer l f a).2.2, c ≤ 3
  | 0, a => fun c h => by cases h
  | f + 1, a => fun c h => by
    have v : isV (l.getD a 0) = true → vVal (l.getD a 0) ≤ 3 := fun q => by
      have := isV_t.mp q
      unfold vVal
      split <;> omega
    unfold pVer at h
    by_cases q : a < l.length ∧ isV (l.getD a 0) = true
    · rw [if_pos q] at h
      by_cases q2 : pSign l 32 (a + 1) = true
      · rw [if_pos q2] at h
        rcases List.mem_cons.mp h with e | e
        · rw [e]; exact v q.2
        · exact pVer_le f (a + 2) c e
      · rw [if_neg q2] at h
        rcases List.mem_cons.mp h with e | e
        · rw [e]; exact v q.2
        · cases e
    · rw [if_neg q] at h
      cases h
/-- a wrong request -/
theorem rd_wrong {S : Shp} {G : Nat → Option Nat} {h : Hp} {q : Nat} {l : List Nat} {ws : List (List Nat)} {ns : List Nat} {vb : Option Nat} {w : Int} (R : rdPost S G h q l ws ns vb w) (e : qrR l = false) : w = (qrE l : Nat) := by
  unfold qrR at e
  rcases R with ⟨r1, r2⟩ | ⟨t, t1, t2, t3, t4, t5⟩
  · rw [r2]
    unfold qrE qrB
    rw [if_pos r1]
  · rw [t4]
    unfold qrE qrP qrT qrB at *
    rw [t1] at e ⊢
    rw [if_neg (by simp : ¬ (some t = none)), if_neg ?_]
    · rfl
    · intro z
      rw [show (some t).getD 35 = t from rfl, z.1, decide_eq_true z.2] at e
      simp at e
theorem rd_right {S : Shp} {G : Nat → Option Nat} {h : Hp} {q : Nat} {l : List Nat} {ws : List (List Nat)} {ns : List Nat} {vb : Option Nat} {w : Int} (R : rdPost S G h q l ws ns vb w) (e : qrR l = true) : w = -1 ∧ qrT l < 35 ∧ (vbR l 35 0 0).1 = some (qrT l) ∧ vb = G (qrT l) ∧ (qrP l).1 = true ∧ (100 ∉ vf (qrT l) → ws = (qrP l).2.2.1 ∧ ns = (qrP l).2.2.2) ∧ ∀ f c, vf (qrT l) = f ++ [c] → pMore S h q l c (pFo l f (qrB l)).2.1 := by
  unfold qrR at e
  rcases R with ⟨r1, r2⟩ | ⟨t, t1, t2, t3, t4, t5⟩
  · rw [r1] at e; exact absurd e (by simp)
  · unfold qrP qrT qrB at *
    rw [t1] at e ⊢
    simp only [Option.isSome_some, Bool.true_and, Bool.and_eq_true, decide_eq_true_eq] at e
    have e1 : (pFo l (vf t) (vbR l 35 0 0).2).1 = true := e.1
    have e2 : (pFo l (vf t) (vbR l 35 0 0).2).2.1 = l.length := e.2
    refine ⟨by rw [t4, if_pos ⟨e1, e2⟩], t2, rfl, t3, e1, t5 e1⟩
theorem wS {l : List Nat} {a m lo : Nat} (ha : a ≤ l.length) (hlo : 1 ≤ lo) : okS (sl l a (wordE l a m lo)) m := word_ok ha hlo
theorem ns_4 {l : List Nat} (t4 : qrT l = 4) : qrK l = 0 := by
  unfold qrK qrP
  rw [t4, vf_x.2.1]
  have e : ∀ a, pFo l [100] a = pStep l (pFo l [] a) 100 := fun a => pFo_snoc l [] a 100
  rw [e, pFo_nil]
  unfold pStep
  rw [if_pos rfl]
  unfold pNs
  rw [if_neg (by decide), if_neg (by decide)]
  rfl
/-- what the request says once it is read -/
theorem rgC_of {S : Shp} {G : Nat → Option Nat} {h : Hp} {l : List Nat} {ws : List (List Nat)} {ns : List Nat} {vb : Option Nat} {a' : Nat} (R : RqC S h (sT S 1282 (sX S)) l a' ws ns vb) (P : rdPost S G h (sT S 1282 (sX S)) l ws ns vb (FI h 515 (sT S 1282 (sX S)))) (e : qrR l = true) :
    qrT l < 35 ∧ FI h 515 (sT S 1282 (sX S)) = -1 ∧ RgC S h G (qrT l) l (qrA l (AI h (sT S 520 (sT S 1282 (sX S))))) (qr2 l) (qrK l) ∧ ∀ i, i < 5 → i < qrK l → AI h (sT S 520 (sT S 1282 (sX S))) i = qrN l i := by
  obtain ⟨p1, p2, p3, p4, p5, p6, p7⟩ := rd_right P e
  obtain ⟨r1, r2, r3, r4, r5, r6, r7, r8, r9, r10, r11⟩ := R
  have hB : qrB l ≤ l.length := qrB_le
  have n4 : qrT l ≠ 4 → ws = (qrP l).2.2.1 ∧ ns = (qrP l).2.2.2 := fun z => p6 (vf_no ⟨qrT l, p2⟩ z)
  have F := vf_1 ⟨qrT l, p2⟩
  -- the first name
  have A1 : vf (qrT l) = 97 :: (vf (qrT l)).tail → qrT l ≠ 4 → AL h (sT S 517 (sT S 1282 (sX S))) 0 = hd (qrA l (AI h (sT S 520 (sT S 1282 (sX S))))).1 ∧ AL h (sT S 518 (sT S 1282 (sX S))) 0 = tl (qrA l (AI h (sT S 520 (sT S 1282 (sX S))))).1 ∧ okP (qrA l (AI h (sT S 520 (sT S 1282 (sX S))))).1 ∧ okN (qrA l (AI h (sT S 520 (sT S 1282 (sX S))))).1 := fun z z4 => by
    have c := pFo_a (l := l) (f := (vf (qrT l)).tail) (c := 97) (a := qrB l) (Or.inl rfl) (by rw [← z]; exact p5)
    rw [← z] at c
    rw [(n4 z4).1] at r7
    obtain ⟨q1, q2, q3⟩ := r7 0 c.2.1
    refine ⟨q1, q2, q3, ?_⟩
    show okN ((qrP l).2.2.1.getD 0 [])
    unfold qrP
    rw [c.1, if_pos rfl]
    exact wS hB (by decide)
  have A2 : vf (qrT l) = 112 :: (vf (qrT l)).tail → qrT l ≠ 4 → AL h (sT S 517 (sT S 1282 (sX S))) 0 = hd (qrA l (AI h (sT S 520 (sT S 1282 (sX S))))).1 ∧ AL h (sT S 518 (sT S 1282 (sX S))) 0 = tl (qrA l (AI h (sT S 520 (sT S 1282 (sX S))))).1 ∧ okP (qrA l (AI h (sT S 520 (sT S 1282 (sX S))))).1 := fun z z4 => by
    have c := pFo_a (l := l) (f := (vf (qrT l)).tail) (c := 112) (a := qrB l) (Or.inr rfl) (by rw [← z]; exact p5)
    rw [← z] at c
    rw [(n4 z4).1] at r7
    exact r7 0 c.2.1
  refine ⟨p2, p1, ⟨by rw [r11, p4], r1, fun c => ?_, fun c => ?_, fun c => ?_, fun c => ?_, fun c => ?_, fun c => ?_, rfl, fun c => ?_⟩, ?_⟩
  · by_cases z : qrT l = 1 ∨ qrT l = 2
    · obtain ⟨q1, q2, q3⟩ := A2 (F.2 (by show qrT l = 1 ∨ qrT l = 2 ∨ qrT l = 14 ∨ qrT l = 23; omega)) (by omega)
      exact ⟨q1, q2, q3, fun y => by omega⟩
    · obtain ⟨q1, q2, q3, q4⟩ := A1 (F.1 (by show qrT l = 5 ∨ qrT l = 6 ∨ qrT l = 9 ∨ qrT l = 16 ∨ qrT l = 17 ∨ qrT l = 18 ∨ qrT l = 21 ∨ qrT l = 22 ∨ qrT l = 24 ∨ qrT l = 25 ∨ qrT l = 27 ∨ qrT l = 3; omega)) (by omega)
      exact ⟨q1, q2, q3, fun _ => q4⟩
  · by_cases z : qrT l = 14 ∨ qrT l = 23
    · obtain ⟨q1, q2, q3⟩ := A2 (F.2 (by show qrT l = 1 ∨ qrT l = 2 ∨ qrT l = 14 ∨ qrT l = 23; omega)) (by omega)
      exact ⟨q1, q2, q3, fun y => by omega⟩
    · obtain ⟨q1, q2, q3, q4⟩ := A1 (F.1 (by show qrT l = 5 ∨ qrT l = 6 ∨ qrT l = 9 ∨ qrT l = 16 ∨ qrT l = 17 ∨ qrT l = 18 ∨ qrT l = 21 ∨ qrT l = 22 ∨ qrT l = 24 ∨ qrT l = 25 ∨ qrT l = 27 ∨ qrT l = 3; omega)) (by omega)
      exact ⟨q1, q2, q3, fun _ => q4⟩
  · obtain ⟨q1, q2, q3, q4⟩ := A1 (F.1 (by show qrT l = 5 ∨ qrT l = 6 ∨ qrT l = 9 ∨ qrT l = 16 ∨ qrT l = 17 ∨ qrT l = 18 ∨ qrT l = 21 ∨ qrT l = 22 ∨ qrT l = 24 ∨ qrT l = 25 ∨ qrT l = 27 ∨ qrT l = 3; omega)) (by omega)
    exact ⟨q1, q4⟩
  · have z4 := n4 (by omega)
    have p5' := p5
    unfold qrP at p5'
    rw [c, vf_x.2.2.1] at p5'
    obtain ⟨s1, s2, s3⟩ := pFo_step (l := l) (f := [97, 32]) (c := 97) p5'
    obtain ⟨s4, s5, s6⟩ := pFo_step (l := l) (f := [97]) (c := 32) s1
    obtain ⟨s7, s8, s9⟩ := pFo_step (l := l) (f := []) (c := 97) s4
    have e1 : (pFo l [97] (qrB l)).2.2.1 = [sl l (qrB l) (wordE l (qrB l) 8 48)] := by
      have s9' : pFo l [97] (qrB l) = _ := s9
      rw [s9', pFo_nil]
      have s8' : pWord l 8 48 (qrB l) = true := s8
      show pWs l 97 (qrB l) [] = _
      unfold pWs
      rw [if_pos rfl, if_pos s8']
      rfl
    have e2 : (pFo l [97, 32] (qrB l)).2.2.1 = [sl l (qrB l) (wordE l (qrB l) 8 48)] := by
      have s6' : pFo l [97, 32] (qrB l) = _ := s6
      rw [s6', e1]
      rfl
    have hx : (pFo l [97, 32] (qrB l)).2.1 ≤ l.length := by
      have s5' : pSign l 32 (pFo l [97] (qrB l)).2.1 = true := s5
      have s6' : pFo l [97, 32] (qrB l) = _ := s6
      rw [s6']
      show pEnd l 32 (pFo l [97] (qrB l)).2.1 ≤ _
      have : pEnd l 32 (pFo l [97] (qrB l)).2.1 = (pFo l [97] (qrB l)).2.1 + 1 := by
        show (if pSign l 32 (pFo l [97] (qrB l)).2.1 = true then _ else _) = _
        rw [if_pos s5']
      rw [this]
      exact pSign_lt s5'
    have e3 : (qrP l).2.2.1 = [sl l (qrB l) (wordE l (qrB l) 8 48), sl l (pFo l [97, 32] (qrB l)).2.1 (wordE l (pFo l [97, 32] (qrB l)).2.1 8 48)] := by
      unfold qrP
      have s3' : pFo l [97, 32, 97] (qrB l) = _ := s3
      rw [c, vf_x.2.2.1, s3', e2]
      have s2' : pWord l 8 48 (pFo l [97, 32] (qrB l)).2.1 = true := s2
      show pWs l 97 (pFo l [97, 32] (qrB l)).2.1 _ = _
      unfold pWs
      rw [if_pos rfl, if_pos s2']
      rfl
    rw [z4.1] at r7
    obtain ⟨q1, q2, q3⟩ := r7 1 (by rw [e3]; simp)
    refine ⟨q1, ?_⟩
    show okN ((qrP l).2.2.1.getD 1 [])
    rw [e3]
    exact wS hx (by decide)
  · have pm := p7 [] 100 (by rw [c, vf_x.2.1]; rfl)
    have D := pm.2 rfl
    have p5' := p5
    unfold qrP at p5'
    rw [c, vf_x.2.1] at p5'
    obtain ⟨s1, s2, s3⟩ := pFo_step (l := l) (f := []) (c := 100) p5'
    have s2' : (pDef l (qrB l)).1 = true := s2
    obtain ⟨x1, x2⟩ := pDef_txt hB s2'
    rw [pFo_nil] at D
    have D' : DefC S h (sT S 524 (sT S 1282 (sX S))) (pDef l (qrB l)).2.2 (sl l (qrB l) (pDef l (qrB l)).2.1) := D
    rw [x1] at D'
    exact ⟨D', x2⟩
  · have pm := p7 [112, 32] 116 (by rw [c, vf_x.1]; rfl)
    obtain ⟨m1, m2⟩ := pm.1 rfl
    have p5' := p5
    unfold qrP at p5'
    rw [c, vf_x.1] at p5'
    obtain ⟨s1, s2, s3⟩ := pFo_step (l := l) (f := [112, 32]) (c := 116) p5'
    have s2' : (if pSign l 60 (pFo l [112, 32] (qrB l)).2.1 = true then pSign l 62 (txE l (pFo l [112, 32] (qrB l)).2.1) else false) = true := s2
    have q1 : pSign l 60 (pFo l [112, 32] (qrB l)).2.1 = true := by
      by_cases z : pSign l 60 (pFo l [112, 32] (qrB l)).2.1 = true
      · exact z
      · rw [if_neg z] at s2'; exact absurd s2' (by decide)
    have hx := pSign_lt q1
    have sg := scan_ge l isTx ((pFo l [112, 32] (qrB l)).2.1 + 1) 160
    have sle := scan_le (l := l) (p := isTx) (i := (pFo l [112, 32] (qrB l)).2.1 + 1) (n := 160) (by omega)
    exact ⟨_, _, m1, m2, ⟨sg, sle.1, by unfold txE; omega, by have := sle.1; unfold txE; omega⟩, rfl⟩
  · have z4 := n4 (by omega)
    refine ⟨by rw [r8, z4.2]; rfl, fun k5 i hi => ?_⟩
    have hk : i < ns.length := by rw [z4.2]; show i < qrK l; omega
    obtain ⟨q1, q2⟩ := r10 i hk hi
    show -1 ≤ AI h (sT S 520 (sT S 1282 (sX S))) i ∧ AI h (sT S 520 (sT S 1282 (sX S))) i ≤ 3
    rw [q1]
    have : ns.getD i 0 ≤ 3 := by
      have p5' := p5
      unfold qrP at p5'
      rw [c, vf_x.2.2.2.1] at p5'
      obtain ⟨s1, s2, s3⟩ := pFo_step (l := l) (f := []) (c := 118) p5'
      have en : ns = (pVer l 4096 (qrB l)).2.2 := by
        rw [z4.2]
        unfold qrP
        have s3' : pFo l [118] (qrB l) = _ := s3
        rw [c, vf_x.2.2.2.1, s3', pFo_nil]
        rfl
      have hm : ns.getD i 0 ∈ ns := by
        rw [List.getD_eq_getElem?_getD, List.getElem?_eq_getElem hk]
        exact List.getElem_mem hk
      generalize ns.getD i 0 = x at hm ⊢
      rw [en] at hm
      exact pVer_le 4096 (qrB l) x hm
    omega
  · intro i hi hk
    by_cases z : qrT l = 4
    · rw [ns_4 z] at hk; omega
    · have z4 := n4 z
      have := (r10 i (by rw [z4.2]; exact hk) hi).1
      rw [this, z4.2]
      rfl
