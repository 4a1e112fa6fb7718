/-! the tie of the two houses -/
/-- the class's house, the reference's -/
def tie (v w : HoS) : Prop := plE w.1 v.1 ∧ v.2.1 = w.2.1 ∧ v.2.2.2 = w.2.2.2 ∧ (plE (sePl w.2.2) (sePl v.2.2) ∨ (seOn w.2.2 = false ∧ rR (goR (seGo w.2.2)) = []))
theorem refN_e {P Q : PlV} (e : plE P Q) (t : Nat) (rs : List RuV) (pu : Nat → OutV) (g : Bool) (n : List Nat) (D : TgV) (nu : Nat → Int) (ci : Bool) : refN t P rs pu g n D nu ci = refN t Q rs pu g n D nu ci := by
  unfold refN
  rw [e.1, e.2.2.1]
  have f := (e.fx n).1
  by_cases q : fix P.1 n < 0
  · have q' := f.mp q
    simp only [q, q', true_and, if_true]
  · have q' : ¬ fix Q.1 n < 0 := fun z => q (f.mpr z)
    simp only [q, q', false_and, if_false]
theorem tie.rf {v w : HoS} (T : tie v w) (l : List Nat) : rfQ l w = rfQ l v := by
  unfold rfQ
  rw [refN_e T.1]
  obtain ⟨⟨vf, vg⟩, vr, vp, vz⟩ := v
  obtain ⟨⟨wf, wg⟩, wr, wp, wz⟩ := w
  obtain ⟨t1, t2, t3, t4⟩ := T
  have e1 : wg = vg := t1.1
  have e2 : vr = wr := t2
  have e3 : vz = wz := t3
  subst e1 e2 e3
  rfl
theorem plE_2 {P Q : PlV} (e : plE P Q) (x : List (List Nat × Nat) × List (Bool × TgV)) : plE (P.1, x) (Q.1, x) := ⟨rfl, e.2⟩
theorem plE_nil : plE ([], [], []) ([], [], []) := ⟨rfl, fun _ => Iff.rfl, rfl, List.nodup_nil, List.nodup_nil⟩
/-- a told request that is admitted -/
theorem tie.ca {v w : HoS} (T : tie v w) {t : Nat} {a : ArV} (h2 : t = 2 → 0 ≤ fix w.1.1 a.1) (h7 : t = 7 → seOn w.2.2 = true ∧ cln (rT (goR (gonP w.2.2 (a.2.2.2 0).toNat).1)) ∧ (0 ≤ rF (goR (gonP w.2.2 (a.2.2.2 0).toNat).1) → tgN (tD (sePl w.2.2).2.2 (rF (goR (gonP w.2.2 (a.2.2.2 0).toNat).1)).toNat) = tgN (tD v.1.2.2 (rF (goR (gonP w.2.2 (a.2.2.2 0).toNat).1)).toNat))) : tie (caS 24 t a v).1 (caM t a w).1 ∧ (caM t a w).2 = (caS 24 t a v).2 := by
  obtain ⟨⟨vf, vg⟩, vr, vp, vz⟩ := v
  obtain ⟨⟨wf, wg⟩, wr, wp, wz⟩ := w
  obtain ⟨t1, t2, t3, t4⟩ := T
  have e1 : wg = vg := t1.1
  have e2 : vr = wr := t2
  have e3 : vz = wz := t3
  subst e1 e2 e3
  have t4' := t4
  unfold caM caS
  by_cases q : t = 0
  · rw [if_pos q, if_pos q]
    exact ⟨⟨plE_nil, rfl, rfl, Or.inr ⟨rfl, rfl⟩⟩, rfl⟩
  rw [if_neg q, if_neg q]
  by_cases q : t = 1
  · rw [if_pos q, if_pos q]
    exact ⟨⟨t1.put a.1 a.2.1, rfl, rfl, t4⟩, rfl⟩
  rw [if_neg q, if_neg q]
  by_cases q : t = 2
  · rw [if_pos q, if_pos q]
    exact ⟨⟨t1.gone (h2 q), rfl, rfl, t4⟩, rfl⟩
  rw [if_neg q, if_neg q]
  by_cases q7 : t = 7
  · rw [if_pos q7, if_neg (by omega), if_neg (by omega), if_neg (by omega), if_neg (by omega), if_pos q7]
    obtain ⟨on, cl, nm⟩ := h7 q7
    have pe : plE wp vp := by
      rcases t4 with z | ⟨z, -⟩
      · exact z
      · exact absurd (z.symm.trans on) (by decide)
    have eg : goG vp (seNd (vp, vz)) 24 (a.2.2.2 0).toNat (seGo (vp, vz)) (seOn (vp, vz)) (seSt (vp, vz)) = gonP (wp, vz) (a.2.2.2 0).toNat := (pe.eG (seNd (vp, vz)) 24 _ _ _ _).symm
    refine ⟨⟨t1, rfl, ?_, Or.inl pe⟩, ?_⟩
    · show (vz.1, vz.2.1, vz.2.2.1, goG vp (seNd (vp, vz)) 24 (a.2.2.2 0).toNat (seGo (vp, vz)) (seOn (vp, vz)) (seSt (vp, vz))) = (vz.1, vz.2.1, vz.2.2.1, gonP (wp, vz) (a.2.2.2 0).toNat)
      rw [eg]
    · show endT wp.2.2 (gonP (wp, vz) (a.2.2.2 0).toNat).2.1 (rF (goR (gonP (wp, vz) (a.2.2.2 0).toNat).1)) ((rT (goR (gonP (wp, vz) (a.2.2.2 0).toNat).1)).map told) = endT wg.2 (goG vp (seNd (vp, vz)) 24 (a.2.2.2 0).toNat (seGo (vp, vz)) (seOn (vp, vz)) (seSt (vp, vz))).2.1 (rF (goR (goG vp (seNd (vp, vz)) 24 (a.2.2.2 0).toNat (seGo (vp, vz)) (seOn (vp, vz)) (seSt (vp, vz))).1)) (rT (goR (goG vp (seNd (vp, vz)) 24 (a.2.2.2 0).toNat (seGo (vp, vz)) (seOn (vp, vz)) (seSt (vp, vz))).1))
      rw [eg, cl.map]
      unfold endT
      split
      · rfl
      · split
        · rfl
        · rename_i y
          have y' : ¬ rF (goR (gonP (wp, vz) (a.2.2.2 0).toNat).1) < 0 := y
          have nm' : tgN (tD wp.2.2 (rF (goR (gonP (wp, vz) (a.2.2.2 0).toNat).1)).toNat) = tgN (tD wg.2 (rF (goR (gonP (wp, vz) (a.2.2.2 0).toNat).1)).toNat) := nm (by show 0 ≤ rF (goR (gonP (wp, vz) (a.2.2.2 0).toNat).1); omega)
          rw [nm']
  rw [if_neg q7, if_neg q7, if_neg q7]
  have n0 : ¬ t = 0 := by assumption
  have n1 : ¬ t = 1 := by assumption
  have n2 : ¬ t = 2 := by assumption
  rw [if_neg n0, if_neg n1, if_neg n2]
  by_cases q : t = 3
  · rw [if_pos q, if_pos q]
    exact ⟨⟨plE_2 t1 _, rfl, rfl, t4⟩, rfl⟩
  rw [if_neg q, if_neg q]
  by_cases q : t = 4
  · rw [if_pos q, if_pos q]
    exact ⟨⟨plE_2 t1 _, rfl, rfl, t4⟩, rfl⟩
  rw [if_neg q, if_neg q]
  by_cases q : t = 5
  · rw [if_pos q, if_pos q]
    exact ⟨⟨plE_2 t1 _, rfl, rfl, t4⟩, rfl⟩
  rw [if_neg q, if_neg q]
  by_cases q : t = 6
  · rw [if_pos q, if_pos q]
    exact ⟨⟨t1, rfl, rfl, Or.inl t1⟩, rfl⟩
  rw [if_neg q, if_neg q]
  by_cases q : t = 8
  · rw [if_pos q, if_pos q]
    exact ⟨⟨t1, rfl, rfl, t4.imp id (fun z => ⟨rfl, z.2⟩)⟩, rfl⟩
  rw [if_neg q, if_neg q]
  by_cases q : t = 9
  · rw [if_pos q, if_pos q]
    exact ⟨⟨t1, rfl, rfl, t4⟩, rfl⟩
  rw [if_neg q, if_neg q]
  by_cases q : t = 10
  · rw [if_pos q, if_pos q]
    exact ⟨⟨t1, rfl, rfl, t4⟩, rfl⟩
  rw [if_neg q, if_neg q]
  by_cases q : t = 11
  · rw [if_pos q, if_pos q]
    exact ⟨⟨t1, rfl, rfl, t4⟩, rfl⟩
  rw [if_neg q, if_neg q]
  exact ⟨⟨t1, rfl, rfl, t4⟩, rfl⟩
