/-! the tie: all worked anew is told the same -/
theorem srF_inj {p : Nat → Bool} {n u : Nat} (hu : u < n) (hp : p u = true) (h0 : ∀ i, i < u → p i = false) : srF p n 0 = (u : Int) := srF_hit hu hp h0
theorem anw_1 {P : PlV} {pu : Nat → OutV} {pp : Nat → List Int64} {f N : Nat} {r : RunV} {T' : List Nat} (s6 : six P) (fb : flB P.1) (ac : acy P.2.2) (pk : plnK P.2.2) (fl : f < P.2.2.length) (fH : tH P.2.2 f = true) (hN : 5837 < N) {sN D B : Nat} {bu bp : Nat → OmV} {lf : Nat → List Int64} {pb : Nat → Bool} (hs : ∀ z, bt sN z ↔ Rc P.2.2 f z) (A : AnI P sN D B bu) (cl : ∀ u, bt sN u → ¬ bt D u → ¬ ∀ v, edge P.2.2 u v → bt B v) (pt : PtI pu pp bp lf pb) (an : anT P sN D B bu bp pb T') (z : GoV × Bool × Nat) (ez : z = goG P (ndF P.2.2 f) 0 (N + 1) ((fun _ => (false, [], [], [])), (fun _ => []), (fun _ => 0), [], run0 r) true 0) :
    T' = if 0 ≤ rF (goR z.1) then endT P.2.2 z.2.1 (rF (goR z.1)) (rT (goR z.1)) else (if srF (unlB (rE (goR z.1)) z.1.1 pu) 14 0 < 0 then txt 38 else txt 39 ++ tgN (tD P.2.2 (srF (unlB (rE (goR z.1)) z.1.1 pu) 14 0).toNat)) := by
  have nd1 : ∀ u, ndF P.2.2 f u = 1 ↔ Rc P.2.2 f u := fun u => ⟨fun h => Classical.byContradiction (fun c => by rw [ndF_0 c] at h; exact absurd h (by decide)), ndF_1⟩
  have hH : ∀ u, u < P.2.2.length → ndF P.2.2 f u = 1 → tH P.2.2 u = true := fun u _ h => Rc_H fH ((nd1 u).mp h)
  have B0 : hbN (run0 r) := fun w _ h => absurd (show (0 : Int) ≤ -1 from h) (by decide)
  have c0 : phN P (run0 r) + 727 < (N : Int) := by
    have g := cnE_le (E := rE (run0 r)) P.2.2.length
    have := s6.1
    unfold phN
    rw [if_neg (show ¬ (0 : Int) ≤ rH (run0 r) 0 from (by decide : ¬ (0 : Int) ≤ -1)), if_neg (show ¬ (0 : Int) ≤ rH (run0 r) 1 from (by decide : ¬ (0 : Int) ≤ -1))]
    omega
  have I0 : trI P (ndF P.2.2 f) ((fun _ => (false, [], [], [])), (fun _ => []), (fun _ => 0), [], run0 r) := trI_0
  have I : trI P (ndF P.2.2 f) z.1 := by rw [ez]; exact goG_tr s6 hH I0
  have E : z.2.1 = false ∧ onB P (ndF P.2.2 f) z.1 = false := by rw [ez]; exact go_end0 s6 fb hH I0 B0 c0
  clear ez
  have rl : ∀ u, Rc P.2.2 f u → u < P.2.2.length := fun u h => Rc.ind (P := fun x => x < P.2.2.length) fl (fun _ _ _ _ e => (edge_lt e).2) h
  have hs2 : ∀ u, bt sN u → u < P.2.2.length ∧ tH P.2.2 u = true ∧ ndF P.2.2 f u = 1 ∧ ∀ v, edge P.2.2 u v → bt sN v := fun u h => by
    have g := (hs u).mp h
    exact ⟨rl u g, Rc_H fH g, ndF_1 g, fun v e => (hs v).mpr (g.step e)⟩
  have al := tr_all s6 ac I E.2 A cl hs2
  have sE : ∀ u, rE (goR z.1) u ≠ 0 → bt sN u := fun u h => (hs u).mpr ((nd1 u).mp ((I.2.1 u).2.1 h).2.1)
  have E2 : ∀ u, (bt D u ∧ ¬ bt B u) ↔ rE (goR z.1) u = 2 := fun u => by
    constructor
    · intro h
      obtain ⟨a1, a2, -⟩ := al u (A.2.2.2.1 u h.1)
      have b1 := a2.mp h.1
      have b2 : rE (goR z.1) u ≠ 1 := fun y => h.2 (a1.mpr y)
      have := (I.2.1 u).1
      omega
    · intro h
      obtain ⟨a1, a2, -⟩ := al u (sE u (by omega))
      exact ⟨a2.mpr (by omega), fun y => by have := a1.mp y; omega⟩
  have bu1 : ∀ u, rE (goR z.1) u ≠ 0 → oV (bu u) = exV P z.1.1 u := fun u h => by
    obtain ⟨-, a2, a3⟩ := al u (sE u h)
    rw [← a3 h]
    exact (A.2.2.2.2 u (a2.mpr h)).2.1
  rcases an with ⟨u, ⟨u1, u2, u3⟩, e⟩ | ⟨no, an⟩
  · have e2 := (E2 u).mp u2
    have F : 0 ≤ rF (goR z.1) := Int.not_lt.mp (fun y => I.2.2.2.2.1 y u e2)
    obtain ⟨f', g1, g2, g3, g4⟩ := I.2.2.2.2.2 F
    have fu : f' = u := by
      have l1 := g4 u e2
      rcases Nat.lt_or_ge f' u with y | y
      · exact absurd ((E2 f').mpr g2) (u3 f' y)
      · omega
    subst fu
    rw [if_pos F, E.1, g1]
    unfold endT
    rw [if_neg (by decide), if_neg (by omega), Int.toNat_natCast, e, g3, ← bu1 f' (by omega)]
    show _ = txt 7 ++ (tgN (tD P.2.2 f') ++ (txt 8 ++ (bu f').2.2))
    have rc : cln (bu f').2.2 := by
      have h : (bu f').2.2 = oW (exV P z.1.1 f') := by rw [← bu1 f' (by omega)]; rfl
      rw [h]
      unfold exV
      split
      · exact (reaC_ahd (pk f')).1
      · exact reaC_wrk.1
    rw [rc.map]
  · have F : ¬ 0 ≤ rF (goR z.1) := fun y => by
      obtain ⟨f', g1, g2, g3, g4⟩ := I.2.2.2.2.2 y
      exact no f' (rl f' ((hs f').mp (sE f' (by omega)))) ((E2 f').mpr g2)
    rw [if_neg F]
    have bB : ∀ (n u : Nat), (∀ x, ¬ stp P.2.2 n u x) → bt sN u → bt B u := fun n => by
      induction n with
      | zero => intro u h _; exact absurd rfl (h u)
      | succ n ih =>
        intro u h us
        obtain ⟨h1, h2, h3, h4⟩ := hs2 u us
        have d : bt D u := Classical.byContradiction (fun y => cl u us y (fun v ev => ih v (fun x hx => h x (stp_hd ev hx)) (h4 v ev)))
        exact Classical.byContradiction (fun y => no u h1 ⟨d, y⟩)
    have b1 : ∀ u, bt sN u → rE (goR z.1) u = 1 := fun u us => (al u us).1.mp (bB P.2.2.length u (fun x hx => by have := acy_len ac (hs2 u us).1 hx; omega) us)
    have un : ∀ u, u < 14 → (unlB (rE (goR z.1)) z.1.1 pu u = true ↔ (bt sN u ∧ ¬ (pb u = true ∧ (bp u).1 = (bu u).1 ∧ (bp u).2.1 = (bu u).2.1))) := fun u hu => by
      unfold unlB
      rw [decide_eq_true_iff]
      obtain ⟨t1, t2, -⟩ := pt u hu
      have eq1 : rE (goR z.1) u = 1 → oO (z.1.1 u) = (bu u).1 ∧ oF (z.1.1 u) = (bu u).2.1 := fun h => by
        have g := ((I.2.1 u).2.2.1 h).1
        rw [g, ← bu1 u (by omega)]
        exact ⟨rfl, rfl⟩
      have eq2 : pb u = true → oO (pu u) = (bp u).1 ∧ oF (pu u) = (bp u).2.1 := fun h => by
        rw [← (t2 h).1]
        exact ⟨rfl, rfl⟩
      constructor
      · rintro ⟨h, c⟩
        refine ⟨sE u (by omega), fun ⟨y1, y2, y3⟩ => ?_⟩
        obtain ⟨k1, k2⟩ := eq1 h
        obtain ⟨k3, k4⟩ := eq2 y1
        rcases c with c | c | c
        · rw [t1, y1] at c; exact absurd c (by decide)
        · exact c (by rw [k1, k3, y2])
        · exact c (by rw [k2, k4, y3])
      · rintro ⟨h, c⟩
        have h1 := b1 u h
        obtain ⟨k1, k2⟩ := eq1 h1
        refine ⟨h1, ?_⟩
        by_cases y1 : pb u = true
        · obtain ⟨k3, k4⟩ := eq2 y1
          rw [k1, k2, k3, k4]
          by_cases y2 : (bp u).1 = (bu u).1
          · exact Or.inr (Or.inr (fun y3 => c ⟨y1, y2, y3.symm⟩))
          · exact Or.inr (Or.inl (fun y3 => y2 y3.symm))
        · exact Or.inl (by rw [t1]; exact Bool.eq_false_iff.mpr y1)
    have l14 := s6.1
    rcases an with ⟨u, ⟨u1, u2, u3⟩, e⟩ | ⟨n2, e⟩
    · have h : srF (unlB (rE (goR z.1)) z.1.1 pu) 14 0 = (u : Int) := srF_hit (by omega) ((un u (by omega)).mpr u2) (fun i hi => Bool.eq_false_iff.mpr (fun y => u3 i hi ((un i (by omega)).mp y)))
      rw [h, if_neg (by omega), Int.toNat_natCast]
      exact e
    · have h : srF (unlB (rE (goR z.1)) z.1.1 pu) 14 0 = -1 := srF_none.mpr (fun j _ hj => Bool.eq_false_iff.mpr (fun y => by
        have g := (un j hj).mp y
        exact n2 j (hs2 j g.1).1 g))
      rw [h, if_pos (by decide)]
      exact e
theorem anw_of {k : Nat} {v w : HoS} {l : List Nat} (I : cInv k v w) (s6 : six w.1) (fb : flB w.1.1) : anwQ v w l 0 := by
  intro T T' t21 h0 N C
  obtain ⟨sN, D, B, bu, bp, lf, pb, hs, A, cl, pt, an⟩ := N
  have e12 : w.1.2 = v.1.2 := I.2.1.1.1
  have e3 : seGo v.2.2 = seGo w.2.2 := by unfold seGo; rw [I.2.1.2.2.1]
  unfold chR at C
  rw [← e12, if_neg (by omega), if_pos rfl] at C
  obtain ⟨r, eT⟩ := C
  have ez : trG v 0 (tat w.1.2.2 (qrA l (qrN l)).1).toNat r = goG w.1 (ndF w.1.2.2 (tat w.1.2.2 (qrA l (qrN l)).1).toNat) 0 (999999 + 1) ((fun _ => (false, [], [], [])), (fun _ => []), (fun _ => 0), [], run0 (run0 (rsC r (fun _ => 0)))) true 0 := by
    unfold trG
    rw [I.2.1.1.eG, ← e12]
  have g := tat_rg w.1.2.2 (qrA l (qrN l)).1
  have m := anw_1 (N := 999999) s6 fb I.2.2.1.1.2.1 I.2.2.1.1.2.2.1 (by omega) (tat_H h0) (by decide) hs A cl pt an _ ez
  rw [m, eT]
  unfold trT
  rw [← e12, e3]
