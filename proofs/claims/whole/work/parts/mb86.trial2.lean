/-! the tie: a trial session, ended -/
theorem rdy_e {P : PlV} {E : Nat → Nat} {u v : Nat} (s6 : six P) (r : rdyB P.2.2 E u = true) (e : edge P.2.2 u v) : E v = 1 := by
  obtain ⟨k, hk⟩ := e
  have k6 : k < 6 := by
    by_cases q : u < P.2.2.length ∧ k < (tgI (tD P.2.2 u)).length ∧ tH P.2.2 u = true ∧ inB (tgI (tD P.2.2 u)) k = true
    · have := s6.2 u q.1; omega
    · unfold inT at hk; rw [if_neg q] at hk; omega
  have g := rdyB_t.mp r k k6
  rw [hk] at g
  exact g.elim (fun z => by omega) id
/-- the ending of target t with outcome exV -/
theorem fn_tr {P : PlV} {nd : Nat → Nat} {s s' : GoV} {w t : Nat} (s6 : six P) (hH : ∀ u, u < P.2.2.length → nd u = 1 → tH P.2.2 u = true) (hw : w < 2) (I : trI P nd s) (hT : rH (goR s) w = (t : Int))
    (e1 : s'.1 = if (exV P s.1 t).1 = true then upO s.1 t (exV P s.1 t) else s.1) (e2 : s'.2.2.2.1 = []) (e3 : rE (goR s') = upN (rE (goR s)) t (if (exV P s.1 t).1 = true then 1 else 2)) (e4 : rH (goR s') = up (rH (goR s)) w (-1)) (e5 : rW (goR s') = rW (goR s)) (e6 : ∀ j, j ≠ w → rB (goR s') j = rB (goR s) j)
    (e7 : (rF (goR s'), rT (goR s')) = if (exV P s.1 t).1 = true then (rF (goR s), rT (goR s)) else if rF (goR s) < 0 ∨ (t : Int) < rF (goR s) then ((t : Int), oW (exV P s.1 t)) else (rF (goR s), rT (goR s))) : trI P nd s' := by
  obtain ⟨i1, i2, i3, i4, i5, i6⟩ := I
  obtain ⟨t1, t2, t3, t4, -⟩ := i3 w hw t hT
  have E0 : ∀ u, u ≠ t → rE (goR s') u = rE (goR s) u := fun u hu => by rw [e3]; exact if_neg hu
  have Et : rE (goR s') t = if (exV P s.1 t).1 = true then 1 else 2 := by rw [e3]; exact if_pos rfl
  have p0 : ∀ u, u ≠ t → s'.1 u = s.1 u := fun u hu => by
    rw [e1]
    split
    · exact if_neg hu
    · rfl
  have rd : ∀ u, rdyB P.2.2 (rE (goR s)) u = true → rdyB P.2.2 (rE (goR s')) u = true := fun u r => by rw [e3]; exact rdy_up r t3
  have cg : ∀ u, u < P.2.2.length → nd u = 1 → rdyB P.2.2 (rE (goR s)) u = true → exV P s'.1 u = exV P s.1 u := fun u u1 u2 r => exV_cg u1 (hH u u1 u2) (fun v ev => by
    have := rdy_e s6 r ev
    exact p0 v (fun z => by rw [z] at this; omega))
  have ct := cg t t1 t2 t4
  have F : ∀ u, rE (goR s') u = 2 → u ≠ t → rE (goR s) u = 2 ∧ exV P s'.1 u = exV P s.1 u := fun u hu hn => by
    rw [E0 u hn] at hu
    obtain ⟨a, b, c⟩ := (i2 u).2.1 (by omega)
    exact ⟨hu, cg u a b c⟩
  refine ⟨e2, fun u => ?_, fun j hj u hu => ?_, fun h => ?_, fun h u hu => ?_, fun h => ?_⟩
  · by_cases q : u = t
    · subst q
      refine ⟨by rw [Et]; split <;> decide, fun _ => ⟨t1, t2, rd u t4⟩, fun h => ?_, fun h => ?_, fun h => ?_⟩
      · rw [Et] at h
        have y : (exV P s.1 u).1 = true := by
          by_cases z : (exV P s.1 u).1 = true
          · exact z
          · rw [if_neg z] at h; exact absurd h (by decide)
        rw [ct, e1, if_pos y]
        exact ⟨if_pos rfl, y⟩
      · rw [Et] at h
        rw [ct]
        by_cases z : (exV P s.1 u).1 = true
        · rw [if_pos z] at h; exact absurd h (by decide)
        · exact Bool.eq_false_iff.mpr z
      · rw [Et] at h
        by_cases z : (exV P s.1 u).1 = true
        · rw [if_pos z] at h; exact absurd rfl h
        · rw [e1, if_neg z]; exact (i2 u).2.2.2.2 (by omega)
    · obtain ⟨b1, b2, b3, b4, b5⟩ := i2 u
      unfold trE
      rw [E0 u q, p0 u q]
      refine ⟨b1, fun h => ⟨(b2 h).1, (b2 h).2.1, rd u (b2 h).2.2⟩, fun h => ?_, fun h => ?_, b5⟩
      · rw [cg u (b2 (by omega)).1 (b2 (by omega)).2.1 (b2 (by omega)).2.2]; exact b3 h
      · rw [cg u (b2 (by omega)).1 (b2 (by omega)).2.1 (b2 (by omega)).2.2]; exact b4 h
  · rw [e4] at hu
    unfold up at hu
    by_cases z : j = w
    · rw [if_pos z] at hu; omega
    · rw [if_neg z] at hu
      obtain ⟨d1, d2, d3, d4, d5⟩ := i3 j hj u hu
      have ut : u ≠ t := fun y => by
        subst y
        rcases (show (j = 0 ∧ w = 1) ∨ (j = 1 ∧ w = 0) by omega) with ⟨a, b⟩ | ⟨a, b⟩
        · subst a b; exact i4 (by omega) (by omega)
        · subst a b; exact i4 (by omega) (by omega)
      unfold trH
      rw [E0 u ut, e5, e6 j z]
      exact ⟨d1, d2, d3, rd u d4, d5⟩
  · rw [e4] at h ⊢
    unfold up at h ⊢
    rcases (show w = 0 ∨ w = 1 by omega) with z | z
    · rw [z, if_pos rfl] at h; omega
    · rw [z, if_pos rfl, if_neg (by decide)]
      rw [z, if_neg (by decide)] at h
      omega
  · by_cases y : (exV P s.1 t).1 = true
    · rw [if_pos y] at e7 Et
      have f1 := congrArg Prod.fst e7
      simp only at f1
      have ut : u ≠ t := fun z => by rw [z, Et] at hu; exact absurd hu (by decide)
      exact i5 (by omega) u (F u hu ut).1
    · rw [if_neg y] at e7
      by_cases c : rF (goR s) < 0 ∨ (t : Int) < rF (goR s)
      · rw [if_pos c] at e7
        have f1 := congrArg Prod.fst e7
        simp only at f1
        omega
      · rw [if_neg c] at e7
        have f1 := congrArg Prod.fst e7
        simp only at f1
        omega
  · by_cases y : (exV P s.1 t).1 = true
    · rw [if_pos y] at e7 Et
      have f1 := congrArg Prod.fst e7
      have f2 := congrArg Prod.snd e7
      simp only at f1 f2
      obtain ⟨f, g1, g2, g3, g4⟩ := i6 (by omega)
      have ft : f ≠ t := fun z => by rw [z] at g2; omega
      obtain ⟨a, b, c⟩ := (i2 f).2.1 (by omega)
      refine ⟨f, by rw [f1]; exact g1, by rw [E0 f ft]; exact g2, by rw [f2, cg f a b c]; exact g3, fun u hu => ?_⟩
      have ut : u ≠ t := fun z => by rw [z, Et] at hu; exact absurd hu (by decide)
      exact g4 u (F u hu ut).1
    · rw [if_neg y] at e7 Et
      by_cases c : rF (goR s) < 0 ∨ (t : Int) < rF (goR s)
      · rw [if_pos c] at e7
        have f1 := congrArg Prod.fst e7
        have f2 := congrArg Prod.snd e7
        simp only at f1 f2
        refine ⟨t, f1, Et, by rw [f2, ct], fun u hu => ?_⟩
        by_cases ut : u = t
        · omega
        · have g := (F u hu ut).1
          rcases c with c | c
          · exact absurd g (i5 c u)
          · obtain ⟨f, g1, g2, g3, g4⟩ := i6 (by omega)
            have := g4 u g
            omega
      · rw [if_neg c] at e7
        have f1 := congrArg Prod.fst e7
        have f2 := congrArg Prod.snd e7
        simp only at f1 f2
        obtain ⟨f, g1, g2, g3, g4⟩ := i6 (by omega)
        have ft : f ≠ t := fun z => by rw [z] at g2; omega
        obtain ⟨a, b, c'⟩ := (i2 f).2.1 (by omega)
        refine ⟨f, by rw [f1]; exact g1, by rw [E0 f ft]; exact g2, by rw [f2, cg f a b c']; exact g3, fun u hu => ?_⟩
        by_cases ut : u = t
        · omega
        · exact g4 u (F u hu ut).1
