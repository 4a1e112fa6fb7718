/-! the house: invariants of the pure state -/
theorem tdrop_at (ts : List (Bool × TgV)) (n : List Nat) (i : Nat) : tD (tsDrop ts n) i = tD ts i ∧ (tH (tsDrop ts n) i = true → tH ts i = true ∨ ((i : Nat) : Int) = tix ts n) ∧ (tsDrop ts n).length = ts.length ∧ (((i : Nat) : Int) = tix ts n → tH (tsDrop ts n) i = false) ∧ (((i : Nat) : Int) ≠ tix ts n → tH (tsDrop ts n) i = tH ts i) := by
  have r := tix_rg ts n
  unfold tsDrop
  split
  · exact ⟨rfl, fun h => Or.inl h, rfl, fun h => by omega, fun _ => rfl⟩
  · unfold tD tH
    rw [getD_set]
    by_cases q : i = (tix ts n).toNat ∧ (tix ts n).toNat < ts.length
    · rw [if_pos q]
      have qi := q.1
      subst qi
      refine ⟨rfl, fun h => by simp at h, by simp, fun _ => rfl, fun h => by omega⟩
    · rw [if_neg q]
      refine ⟨rfl, fun h => Or.inl h, by simp, fun h => by omega, fun _ => rfl⟩
theorem drop_tix (ts : List (Bool × TgV)) (n m : List Nat) : tix (tsDrop ts n) m = tix ts m := by
  unfold tix
  rw [(tdrop_at ts n 0).2.2.1]
  exact srF_congr (fun i hi => by rw [(tdrop_at ts n i).1])
theorem drop_edge {ts : List (Bool × TgV)} {n : List Nat} {u v : Nat} (e : edge (tsDrop ts n) u v) : edge ts u v := by
  obtain ⟨i, e⟩ := e
  refine ⟨i, ?_⟩
  have a := tdrop_at ts n u
  have tt : ∀ m, 0 ≤ tat (tsDrop ts n) m → tat (tsDrop ts n) m = tat ts m := fun m h => by
    unfold tat ifH at h ⊢
    rw [drop_tix] at h ⊢
    split at h
    · rename_i q
      rw [if_pos q]
      have b := tdrop_at ts n (tix ts m).toNat
      by_cases w : (((tix ts m).toNat : Nat) : Int) = tix ts n
      · rw [b.2.2.2.1 w] at q; exact absurd q.2 (by decide)
      · rw [b.2.2.2.2 w] at q; rw [if_pos q]
    · omega
  unfold inT at e ⊢
  rw [a.1, a.2.2.1] at e
  split at e
  · rename_i q
    have t := tt _ (by rw [e]; omega)
    have hu : tH ts u = true := by
      by_cases w : ((u : Nat) : Int) = tix ts n
      · rw [a.2.2.2.1 w] at q; exact absurd q.2.2.1 (by decide)
      · rw [← a.2.2.2.2 w]; exact q.2.2.1
    rw [if_pos ⟨q.1, q.2.1, hu, q.2.2.2⟩, ← t]
    exact e
  · omega
theorem acy_drop {ts : List (Bool × TgV)} {n : List Nat} (a : acy ts) : acy (tsDrop ts n) := by
  have m : ∀ k u v, stp (tsDrop ts n) k u v → stp ts k u v := fun k => by
    induction k with
    | zero => exact fun u v h => h
    | succ k ih => exact fun u v ⟨y, h1, h2⟩ => ⟨y, ih u y h1, drop_edge h2⟩
  exact fun k u h => a k u (m _ u u h)
/-- inputs have names -/
def nmsD (D : TgV) : Prop := ∀ i, i < (tgI D).length → inN (tgI D) i ≠ []
def nmsOK (ts : List (Bool × TgV)) : Prop := ∀ u, nmsD (tD ts u)
/-- what the house keeps: k bounds how much was done -/
def hInv (k : Nat) (v : HoS) : Prop := (nmsOK v.1.2.2 ∧ acy v.1.2.2 ∧ (sePl v.2.2).2.2.length ≤ v.1.2.2.length ∧ ∀ i, i < (sePl v.2.2).2.2.length → tgN (tD (sePl v.2.2).2.2 i) = tgN (tD v.1.2.2 i)) ∧ (∀ j, rC (goR (seGo v.2.2)) j ≤ 20000 * k) ∧ seSt v.2.2 ≤ 10000 * k ∧ ∀ u i, v.2.2.2.2.1 u i ≤ k
theorem hInv.up {k n : Nat} {v : HoS} (I : hInv k v) (h : k ≤ n) : hInv n v := ⟨I.1, fun j => Nat.le_trans (I.2.1 j) (by omega), Nat.le_trans I.2.2.1 (by omega), fun u i => Nat.le_trans (I.2.2.2 u i) h⟩
theorem hInv.pln {k : Nat} {v : HoS} (I : hInv k v) : plnP v := ⟨fun u m h => by
  obtain ⟨w, w1, w2, i, i1, i2, i3⟩ := h
  rw [← i3]
  exact I.1.1 w i i1, I.1.2.1, I.1.2.2.1⟩
theorem hInv.bnd {k : Nat} {v : HoS} (I : hInv k v) (h : k ≤ 100000) : bndP v := ⟨fun j => by have := I.2.1 j; omega, by have := I.2.2.1; omega, fun u i => by have := I.2.2.2 u i; omega⟩
/-- counts of a turn -/
theorem tkR_C {P : PlV} {pu : Nat → OutV} {ks : List (Int64 × OutV)} {r : RunV} {w t : Nat} : rC (tkR P pu ks r w t) = rC r := by
  unfold tkR
  split
  · rfl
  · split
    · rfl
    · split <;> rfl
theorem fnR_C {r : RunV} {w t : Nat} (j : Nat) : rC (fnR r w t) j ≤ rC r j + 1 := by
  have eC : rC (fnR r w t) = upN (rC r) (rW r w) (rC r (rW r w) + 1) := by unfold fnR; (repeat' split) <;> rfl
  rw [eC]
  unfold upN
  split
  · rename_i h; rw [h]; exact Nat.le_refl _
  · omega
theorem trn_C {P : PlV} {nd : Nat → Nat} {L w : Nat} {s : GoV} (j : Nat) : rC (goR (trn P nd L w s)) j ≤ rC (goR s) j + 1 := by
  have a1 : ∀ s : GoV, rC (goR (tn1 P nd w s)) = rC (goR s) := fun s => by
    unfold tn1
    split
    · exact tkR_C
    · rfl
  have a2 : ∀ s : GoV, rC (goR (tn2 P L w s)) j ≤ rC (goR s) j + 1 := fun s => by
    unfold tn2
    split
    · omega
    · split
      · exact Nat.le_succ _
      · have e : rC (goR (wrG P w (rH (goR s) w).toNat (ltG w s))) = rC (goR s) := by
          unfold wrG
          split <;> rfl
        refine Nat.le_trans (fnR_C j) ?_
        rw [e]
        exact Nat.le_refl _
  unfold trn
  refine Nat.le_trans (a2 _) ?_
  rw [a1]
  exact Nat.le_refl _
theorem goG_C {P : PlV} {nd : Nat → Nat} {L : Nat} : ∀ {n : Nat} {s : GoV} {g : Bool} {k : Nat}, (∀ j, rC (goR (goG P nd L n s g k).1) j ≤ rC (goR s) j + 2 * n) ∧ (goG P nd L n s g k).2.2 ≤ k + n
  | 0, s, g, k => ⟨fun j => Nat.le_refl _, Nat.le_refl _⟩
  | n + 1, s, g, k => by
    by_cases hg : g = true
    · have eg : goG P nd L (n + 1) s g k = goG P nd L n (trs P nd L s 2) (onB P nd (trs P nd L s 2)) (k + 1) := by rw [goG, if_pos hg]
      rw [eg]
      obtain ⟨r1, r2⟩ := goG_C (P := P) (nd := nd) (L := L) (n := n) (s := trs P nd L s 2) (g := onB P nd (trs P nd L s 2)) (k := k + 1)
      refine ⟨fun j => ?_, by omega⟩
      have c1 : rC (goR (trs P nd L s 2)) j ≤ rC (goR (trn P nd L 0 s)) j + 1 := trn_C (P := P) (nd := nd) (L := L) (w := 1) (s := trn P nd L 0 s) j
      have c2 := trn_C (P := P) (nd := nd) (L := L) (w := 0) (s := s) j
      have r := r1 j
      omega
    · have eg : goG P nd L (n + 1) s g k = (s, g, k) := by rw [goG, if_neg hg]
      rw [eg]
      exact ⟨fun j => Nat.le_add_right _ _, Nat.le_add_right _ _⟩
theorem relE_le {o n : OutV} {e : Nat → Nat} {k : Nat} (h : ∀ i, e i ≤ k) (i : Nat) : relE o n e i ≤ k + 1 := by
  unfold relE
  have := h i
  split
  · split <;> omega
  · split
    · split <;> omega
    · omega
/-- a told request that is done keeps it -/
theorem hInv.ca {k L t : Nat} {a : ArV} {v : HoS} (I : hInv k v) (h4 : t = 4 → nmsD a.2.2.1 ∧ ¬ circV v.1.2.2 a.2.2.1) (h7 : t = 7 → a.2.2.2 0 ≤ 9999) : hInv (k + 1) (caS L t a v).1 := by
  have I' := I.up (Nat.le_succ k)
  obtain ⟨⟨i1, i2, i3, i4⟩, i5, i6, i7⟩ := id I
  unfold caS
  by_cases q : t = 0
  · rw [if_pos q]
    refine ⟨⟨fun u i h => ?_, fun k u h => ?_, Nat.zero_le _, fun i h => absurd h (Nat.not_lt_zero _)⟩, fun j => Nat.zero_le _, Nat.zero_le _, fun u i => I'.2.2.2 u i⟩
    · exact absurd h (Nat.not_lt_zero _)
    · obtain ⟨y, h1, h2⟩ := h
      exact absurd (edge_lt h2).1 (Nat.not_lt_zero _)
  rw [if_neg q]
  by_cases q : t = 1
  · rw [if_pos q]; exact I'
  rw [if_neg q]
  by_cases q : t = 2
  · rw [if_pos q]; exact I'
  rw [if_neg q]
  by_cases q : t = 3
  · rw [if_pos q]; exact I'
  rw [if_neg q]
  by_cases q : t = 4
  · rw [if_pos q]
    obtain ⟨n1, n2⟩ := h4 q
    have pl := put_len (ts := v.1.2.2) (D := a.2.2.1)
    refine ⟨⟨fun u i h => ?_, acy_put i2 n2, Nat.le_trans i3 pl.2.1, fun i h => (i4 i h).trans (put_N i (Nat.lt_of_lt_of_le h i3)).symm⟩, I'.2⟩
    have e := put_D (ts := v.1.2.2) (D := a.2.2.1) u
    have h : i < (tgI (tD (tsPut v.1.2.2 a.2.2.1) u)).length := h
    show inN (tgI (tD (tsPut v.1.2.2 a.2.2.1) u)) i ≠ []
    rw [e] at h ⊢
    split at h
    · rename_i y; rw [if_pos y]; exact n1 i h
    · rename_i y; rw [if_neg y]; exact i1 u i h
  rw [if_neg q]
  by_cases q : t = 5
  · rw [if_pos q]
    refine ⟨⟨fun u i h => ?_, acy_drop i2, by show _ ≤ (tsDrop v.1.2.2 a.1).length; rw [(tdrop_at v.1.2.2 a.1 0).2.2.1]; exact i3, fun i h => (i4 i h).trans ?_⟩, I'.2⟩
    · have e := (tdrop_at v.1.2.2 a.1 u).1
      have h : i < (tgI (tD (tsDrop v.1.2.2 a.1) u)).length := h
      show inN (tgI (tD (tsDrop v.1.2.2 a.1) u)) i ≠ []
      rw [e] at h ⊢
      exact i1 u i h
    · show tgN (tD v.1.2.2 i) = tgN (tD (tsDrop v.1.2.2 a.1) i)
      rw [(tdrop_at v.1.2.2 a.1 i).1]
  rw [if_neg q]
  by_cases q : t = 6
  · rw [if_pos q]
    exact ⟨⟨i1, i2, Nat.le_refl _, fun i h => rfl⟩, fun j => I'.2.1 j, Nat.zero_le _, fun u i => I'.2.2.2 u i⟩
  rw [if_neg q]
  by_cases q : t = 7
  · rw [if_pos q]
    have g := goG_C (P := sePl v.2.2) (nd := seNd v.2.2) (L := L) (n := (a.2.2.2 0).toNat) (s := seGo v.2.2) (g := seOn v.2.2) (k := seSt v.2.2)
    have hn := h7 q
    refine ⟨⟨i1, i2, i3, i4⟩, fun j => ?_, ?_, fun u i => I'.2.2.2 u i⟩
    · have g1 := g.1 j
      have i5' := i5 j
      show rC (goR (goG (sePl v.2.2) (seNd v.2.2) L (a.2.2.2 0).toNat (seGo v.2.2) (seOn v.2.2) (seSt v.2.2)).1) j ≤ _
      omega
    · have g2 := g.2
      show (goG (sePl v.2.2) (seNd v.2.2) L (a.2.2.2 0).toNat (seGo v.2.2) (seOn v.2.2) (seSt v.2.2)).2.2 ≤ _
      omega
  rw [if_neg q]
  by_cases q : t = 8
  · rw [if_pos q]
    exact ⟨⟨i1, i2, i3, i4⟩, fun j => I'.2.1 j, I'.2.2.1, fun u i => I'.2.2.2 u i⟩
  rw [if_neg q]
  by_cases q : t = 9
  · rw [if_pos q]
    refine ⟨⟨i1, i2, i3, i4⟩, fun j => I'.2.1 j, I'.2.2.1, fun u i => ?_⟩
    show upO v.2.2.2.2.1 (tix v.1.2.2 a.1).toNat _ u i ≤ k + 1
    unfold upO
    split
    · exact relE_le (fun i => i7 _ i) i
    · exact I'.2.2.2 u i
  rw [if_neg q]
  by_cases q : t = 10
  · rw [if_pos q]; exact I'
  rw [if_neg q]
  by_cases q : t = 11
  · rw [if_pos q]; exact I'
  rw [if_neg q]; exact I'
theorem hInv.no {k : Nat} {v : HoS} (I : hInv k v) : hInv k (hoNo v) := by
  refine ⟨⟨fun u i h => absurd h (Nat.not_lt_zero _), fun k u h => ?_, Nat.zero_le _, fun i h => absurd h (Nat.not_lt_zero _)⟩, fun j => Nat.zero_le _, Nat.zero_le _, fun u i => I.2.2.2 u i⟩
  obtain ⟨y, h1, h2⟩ := h
  exact absurd (edge_lt h2).1 (Nat.not_lt_zero _)
