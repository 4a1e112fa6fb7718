/-! the house: what its runs keep, apart from the heap -/
theorem srF_hit {p : Nat → Bool} {n j : Nat} (hj : j < n) (hp : p j = true) (h0 : ∀ i, i < j → p i = false) : srF p n 0 = (j : Int) := by
  rcases srF_rg (p := p) (n := n) (i := 0) with q | ⟨i, -, i2, i3, i4⟩
  · have := srF_none.mp q j (Nat.zero_le _) hj
    rw [this] at hp; exact absurd hp (by decide)
  · rw [i3]
    rcases Nat.lt_trichotomy i j with a | a | a
    · rw [h0 i a] at i4; exact absurd i4 (by decide)
    · rw [a]
    · exfalso
      rcases Nat.lt_or_ge 0 n with z | z
      · have : ∀ k, k ≤ j → srF p n k = srF p n j := by
          intro k hk
          induction hd : j - k generalizing k with
          | zero => rw [show k = j by omega]
          | succ m ih => rw [srF_no (by omega) (h0 k (by omega)), ih (k + 1) (by omega) (by omega)]
        rw [this 0 (Nat.zero_le _), srF_yes hj hp] at i3
        omega
      · omega
theorem srF_first {p : Nat → Bool} {n : Nat} {j : Nat} (h : srF p n 0 = (j : Int)) : j < n ∧ p j = true ∧ ∀ i, i < j → p i = false := by
  rcases srF_rg (p := p) (n := n) (i := 0) with q | ⟨i, -, i2, i3, i4⟩
  · rw [h] at q; omega
  · have e : i = j := by rw [h] at i3; omega
    subst e
    refine ⟨i2, i4, fun k hk => ?_⟩
    rcases Bool.eq_false_or_eq_true (p k) with z | z
    · exfalso
      -- the least such place
      have H : ∀ m k, k ≤ m → m < i → p k = true → ∃ x, x ≤ m ∧ p x = true ∧ ∀ y, y < x → p y = false := by
        intro m
        induction m with
        | zero => intro k hk hm hp; exact ⟨k, hk, hp, fun y hy => by omega⟩
        | succ m ih =>
          intro k hk hm hp
          by_cases q : ∃ k, k ≤ m ∧ p k = true
          · obtain ⟨k2, q1, q2⟩ := q
            obtain ⟨x, x1, x2, x3⟩ := ih k2 q1 (by omega) q2
            exact ⟨x, by omega, x2, x3⟩
          · refine ⟨m + 1, Nat.le_refl _, ?_, fun y hy => ?_⟩
            · have : k = m + 1 := by
                rcases Nat.lt_or_ge k (m + 1) with a | a
                · exact absurd ⟨k, by omega, hp⟩ q
                · omega
              rw [← this]; exact hp
            · rcases Bool.eq_false_or_eq_true (p y) with a | a
              · exact absurd ⟨y, by omega, a⟩ q
              · exact a
      obtain ⟨x, x1, x2, x3⟩ := H k k (Nat.le_refl _) hk z
      have := srF_hit (n := n) (by omega) x2 x3
      rw [h] at this
      omega
    · exact z
section PUT
variable {ts : List (Bool × TgV)} {D : TgV}
/-- where the put lands -/
def putX (ts : List (Bool × TgV)) (D : TgV) : Nat := if tix ts (tgN D) < 0 then ts.length else (tix ts (tgN D)).toNat
theorem put_at (i : Nat) : (tsPut ts D).getD i (false, ([], [], [], [], [], 0)) = if i = putX ts D then (true, D) else ts.getD i (false, ([], [], [], [], [], 0)) := by
  unfold tsPut putX
  have r := tix_rg ts (tgN D)
  split
  · rw [getD_snoc]
  · rw [getD_set]
    rename_i q
    by_cases z : i = (tix ts (tgN D)).toNat
    · rw [if_pos ⟨z, by omega⟩, if_pos z]
    · rw [if_neg (fun y => z y.1), if_neg z]
theorem put_len : (tsPut ts D).length = (if tix ts (tgN D) < 0 then ts.length + 1 else ts.length) ∧ ts.length ≤ (tsPut ts D).length ∧ putX ts D < (tsPut ts D).length ∧ putX ts D ≤ ts.length := by
  have r := tix_rg ts (tgN D)
  unfold tsPut putX
  split <;> simp <;> omega
theorem put_D (i : Nat) : tD (tsPut ts D) i = if i = putX ts D then D else tD ts i := by
  unfold tD
  rw [put_at]
  split <;> rfl
theorem put_H (i : Nat) : tH (tsPut ts D) i = if i = putX ts D then true else tH ts i := by
  unfold tH
  rw [put_at]
  split <;> rfl
theorem put_N (i : Nat) (h : i < ts.length) : tgN (tD (tsPut ts D) i) = tgN (tD ts i) := by
  rw [put_D]
  split
  · rename_i q
    unfold putX at q
    split at q
    · omega
    · have r := srF_first (p := fun i => tgN (tD ts i) == tgN D) (n := ts.length) (j := (tix ts (tgN D)).toNat) (by show tix ts (tgN D) = _; omega)
      have := r.2.1
      rw [← q] at this
      exact (eq_of_beq this).symm
  · rfl
theorem put_tix {n : List Nat} (hn : n ≠ tgN D) : tix (tsPut ts D) n = tix ts n := by
  have pl := put_len (ts := ts) (D := D)
  rcases srF_rg (p := fun i => tgN (tD ts i) == n) (n := ts.length) (i := 0) with q | ⟨j, -, j2, j3, j4⟩
  · have e : tix ts n = -1 := q
    rw [e]
    refine srF_none.mpr (fun j _ hj => ?_)
    show (tgN (tD (tsPut ts D) j) == n) = false
    rw [put_D]
    split
    · exact beq_eq_false_iff_ne.mpr (fun z => hn z.symm)
    · rename_i w
      refine srF_none.mp q j (Nat.zero_le _) ?_
      unfold putX at w
      split at w
      · rename_i y; rw [if_pos y] at pl; omega
      · rename_i y; rw [if_neg y] at pl; omega
  · have e : tix ts n = (j : Int) := j3
    have f := srF_first e
    rw [e]
    refine srF_hit (by omega) ?_ (fun i hi => ?_)
    · show (tgN (tD (tsPut ts D) j) == n) = true
      rw [put_N j f.1]; exact f.2.1
    · show (tgN (tD (tsPut ts D) i) == n) = false
      rw [put_N i (by omega)]; exact f.2.2 i hi
theorem put_tixS : tix (tsPut ts D) (tgN D) = (putX ts D : Nat) := by
  have pl := put_len (ts := ts) (D := D)
  refine srF_hit pl.2.2.1 ?_ (fun i hi => ?_)
  · show (tgN (tD (tsPut ts D) (putX ts D)) == tgN D) = true
    rw [put_D, if_pos rfl]
    exact beq_self_eq_true _
  · show (tgN (tD (tsPut ts D) i) == tgN D) = false
    rw [put_N i (by omega)]
    have e : putX ts D = if tix ts (tgN D) < 0 then ts.length else (tix ts (tgN D)).toNat := rfl
    by_cases q : tix ts (tgN D) < 0
    · rw [if_pos q] at e
      have q' : tix ts (tgN D) = -1 := by have := tix_rg ts (tgN D); omega
      exact srF_none.mp q' i (Nat.zero_le _) (by omega)
    · rw [if_neg q] at e
      exact (srF_first (p := fun i => tgN (tD ts i) == tgN D) (n := ts.length) (j := (tix ts (tgN D)).toNat) (by show tix ts (tgN D) = _; omega)).2.2 i (by omega)
theorem put_tat {n : List Nat} (hn : n ≠ tgN D) (hx : tix ts n ≠ (putX ts D : Nat)) : tat (tsPut ts D) n = tat ts n := by
  unfold tat ifH
  rw [put_tix hn, put_H]
  by_cases q : 0 ≤ tix ts n
  · have e : ¬ (tix ts n).toNat = putX ts D := by omega
    rw [if_neg e]
  · rw [if_neg (fun z => q z.1), if_neg (fun z => q z.1)]
theorem tix_name {n : List Nat} {j : Nat} (h : tix ts n = (j : Nat)) : tgN (tD ts j) = n ∧ j < ts.length := by
  have f := srF_first (p := fun i => tgN (tD ts i) == n) h
  exact ⟨eq_of_beq f.2.1, f.1⟩
theorem put_ne {n : List Nat} (hn : n ≠ tgN D) : tix ts n ≠ (putX ts D : Nat) := fun z => by
  obtain ⟨z1, z2⟩ := tix_name z
  unfold putX at z z1 z2
  split at z
  · rename_i y; rw [if_pos y] at z2; omega
  · rename_i y
    rw [if_neg y] at z1 z2
    have := (tix_name (ts := ts) (n := tgN D) (j := (tix ts (tgN D)).toNat) (by omega)).1
    rw [this] at z1
    exact hn z1.symm
/-- the target of a name, behind a put -/
theorem put_tatE {n : List Nat} : tat (tsPut ts D) n = if n = tgN D then ((putX ts D : Nat) : Int) else tat ts n := by
  split
  · rename_i q
    rw [q]
    unfold tat ifH
    rw [put_tixS, put_H]
    simp
  · rename_i q
    exact put_tat q (put_ne q)
theorem put_edge {u v : Nat} (hu : u ≠ putX ts D) (hv : v ≠ putX ts D) (e : edge (tsPut ts D) u v) : edge ts u v := by
  obtain ⟨i, e⟩ := e
  refine ⟨i, ?_⟩
  unfold inT at e ⊢
  rw [put_D, if_neg hu, put_H, if_neg hu, put_tatE] at e
  by_cases q : u < ts.length ∧ i < (tgI (tD ts u)).length ∧ tH ts u = true ∧ inB (tgI (tD ts u)) i = true
  · rw [if_pos q]
    have pl := put_len (ts := ts) (D := D)
    rw [if_pos ⟨by omega, q.2⟩] at e
    split at e
    · omega
    · exact e
  · have pl := put_len (ts := ts) (D := D)
    split at e
    · rename_i z
      exfalso
      refine q ⟨?_, z.2⟩
      have : putX ts D = if tix ts (tgN D) < 0 then ts.length else (tix ts (tgN D)).toNat := rfl
      by_cases y : tix ts (tgN D) < 0
      · rw [if_pos y] at this; rw [if_pos y] at pl; omega
      · rw [if_neg y] at pl; omega
    · omega
/-- an edge to the put target -/
theorem put_toX {z : Nat} (hz : z ≠ putX ts D) (e : edge (tsPut ts D) z (putX ts D)) : z < ts.length ∧ tH ts z = true ∧ namesT (tgI (tD ts z)) (tgN D) = true := by
  have el := edge_lt e
  obtain ⟨i, e⟩ := e
  unfold inT at e
  rw [put_D, if_neg hz, put_H, if_neg hz, put_tatE] at e
  split at e
  · rename_i q
    have zl : z < ts.length := by
      rcases Nat.lt_or_ge z ts.length with a | a
      · exact a
      · exfalso
        have : (tgI (tD ts z)).length = 0 := by
          unfold tD
          rw [List.getD_eq_getElem?_getD, List.getElem?_eq_none (by omega)]
          rfl
        omega
    refine ⟨zl, q.2.2.1, anyF_iff.mpr ⟨i, Nat.zero_le _, q.2.1, ?_⟩⟩
    show isTg (tgI (tD ts z)) (tgN D) i = true
    split at e
    · rename_i y
      unfold isTg
      rw [q.2.2.2, y]
      simp
    · exfalso
      rename_i y
      have r : tat ts (inN (tgI (tD ts z)) i) = tix ts (inN (tgI (tD ts z)) i) := by
        unfold tat ifH at e ⊢
        split
        · rfl
        · rename_i w; rw [if_neg w] at e; omega
      rw [r] at e
      exact put_ne y e
  · omega
/-- an edge from the put target to another one -/
theorem put_ofX {v : Nat} (e : edge (tsPut ts D) (putX ts D) v) : ∃ i, i < (tgI D).length ∧ inB (tgI D) i = true ∧ ((v = putX ts D ∧ inN (tgI D) i = tgN D) ∨ (v ≠ putX ts D ∧ tat ts (inN (tgI D) i) = (v : Nat))) := by
  obtain ⟨i, e⟩ := e
  unfold inT at e
  rw [put_D, if_pos rfl, put_H, if_pos rfl, put_tatE] at e
  split at e
  · rename_i q
    refine ⟨i, q.2.1, q.2.2.2, ?_⟩
    split at e
    · rename_i y
      exact Or.inl ⟨by omega, y⟩
    · rename_i y
      refine Or.inr ⟨fun z => ?_, e⟩
      have r : tat ts (inN (tgI D) i) = tix ts (inN (tgI D) i) := by
        unfold tat ifH at e ⊢
        split
        · rfl
        · rename_i w; rw [if_neg w] at e; omega
      rw [r, z] at e
      exact put_ne y e
  · omega
theorem put_walk : ∀ {m v w : Nat}, v ≠ putX ts D → stp (tsPut ts D) m v w → (∃ z, Rc ts v z ∧ z ≠ putX ts D ∧ edge (tsPut ts D) z (putX ts D)) ∨ (stp ts m v w ∧ w ≠ putX ts D)
  | 0, v, w, hv, s => by
    have s : v = w := s
    subst s
    exact Or.inr ⟨rfl, hv⟩
  | m + 1, v, w, hv, s => by
    obtain ⟨y, s1, s2⟩ := s
    rcases put_walk hv s1 with q | ⟨q1, q2⟩
    · exact Or.inl q
    · by_cases z : w = putX ts D
      · subst z
        exact Or.inl ⟨y, ⟨m, q1⟩, q2, s2⟩
      · exact Or.inr ⟨⟨y, q1, put_edge q2 z s2⟩, z⟩
theorem put_acyX (a : acy ts) (hc : ¬ circV ts D) (k : Nat) : ¬ stp (tsPut ts D) (k + 1) (putX ts D) (putX ts D) := fun s => by
  obtain ⟨v, e, s⟩ := stp_front.mp s
  obtain ⟨i, i1, i2, i3⟩ := put_ofX e
  rcases i3 with ⟨j1, j2⟩ | ⟨j1, j2⟩
  · refine hc (Or.inl (anyF_iff.mpr ⟨i, Nat.zero_le _, i1, ?_⟩))
    show isTg (tgI D) (tgN D) i = true
    unfold isTg
    rw [i2, j2]
    simp
  · rcases put_walk j1 s with ⟨z, z1, z2, z3⟩ | ⟨q1, q2⟩
    · obtain ⟨t1, t2, t3⟩ := put_toX z2 z3
      refine hc (Or.inr ⟨i, i1, i2, by omega, z, t1, ⟨t2, t3⟩, ?_⟩)
      rw [j2]
      exact z1
    · exact q2 rfl
theorem put_through : ∀ {m v w : Nat}, v ≠ putX ts D → stp (tsPut ts D) m v w → (stp ts m v w ∧ w ≠ putX ts D) ∨ ∃ i j, i + j = m ∧ stp (tsPut ts D) i v (putX ts D) ∧ stp (tsPut ts D) j (putX ts D) w
  | 0, v, w, hv, s => by
    have s : v = w := s
    subst s
    exact Or.inl ⟨rfl, hv⟩
  | m + 1, v, w, hv, s => by
    obtain ⟨y, s1, s2⟩ := s
    rcases put_through hv s1 with ⟨q1, q2⟩ | ⟨i, j, ij, a, b⟩
    · by_cases z : w = putX ts D
      · subst z
        exact Or.inr ⟨m + 1, 0, by omega, ⟨y, s1, s2⟩, rfl⟩
      · exact Or.inl ⟨⟨y, q1, put_edge q2 z s2⟩, z⟩
    · exact Or.inr ⟨i, j + 1, by omega, a, ⟨y, b, s2⟩⟩
/-- no circle comes of a put that makes none -/
theorem acy_put (a : acy ts) (hc : ¬ circV ts D) : acy (tsPut ts D) := fun k u s => by
  by_cases z : u = putX ts D
  · subst z
    exact put_acyX a hc k s
  · rcases put_through z s with ⟨q1, q2⟩ | ⟨i, j, ij, p1, p2⟩
    · exact a k u q1
    · have e : j + i = k + 1 := by omega
      have := stp_app p2 p1
      rw [e] at this
      exact put_acyX a hc k this
end PUT
