/-! the reference: what stays so of its house -/
def plnK (ts : List (Bool × TgV)) : Prop := ∀ u, tokD (tD ts u)
def nowI (P : PlV) : Prop := nmsOK P.2.2 ∧ acy P.2.2 ∧ plnK P.2.2 ∧ ∀ x ∈ P.1, wkS x.1 12
def sesI2 (z : SeP) : Prop := plnK (sePl z).2.2 ∧ (∀ u, u < (sePl z).2.2.length → seNd z u = 1 → tH (sePl z).2.2 u = true) ∧ LfI (goR (seGo z)) ∧ NdI (sePl z) (seNd z) (goR (seGo z))
def wInv (k : Nat) (w : HoS) : Prop := nowI w.1 ∧ sesI2 w.2.2 ∧ (∀ j, rC (goR (seGo w.2.2)) j ≤ 20000 * k) ∧ seSt w.2.2 ≤ 10000 * k ∧ ∀ u i, w.2.2.2.2.1 u i ≤ k
theorem wInv.up {k n : Nat} {w : HoS} (I : wInv k w) (h : k ≤ n) : wInv n w := ⟨I.1, I.2.1, fun j => Nat.le_trans (I.2.2.1 j) (by omega), Nat.le_trans I.2.2.2.1 (by omega), fun u i => Nat.le_trans (I.2.2.2.2 u i) h⟩
theorem goG_lf {P : PlV} {nd : Nat → Nat} : ∀ {n : Nat} {s : GoV} {g : Bool} {k : Nat}, LfI (goR s) → NdI P nd (goR s) → LfI (goR (goG P nd 24 n s g k).1) ∧ NdI P nd (goR (goG P nd 24 n s g k).1)
  | 0, s, g, k, a, b => ⟨a, b⟩
  | n + 1, s, g, k, a, b => by
    by_cases hg : g = true
    · have eg : goG P nd 24 (n + 1) s g k = goG P nd 24 n (trs P nd 24 s 2) (onB P nd (trs P nd 24 s 2)) (k + 1) := by rw [goG, if_pos hg]
      rw [eg]
      exact goG_lf (trs_lf a).1 (trs_nd b)
    · have eg : goG P nd 24 (n + 1) s g k = (s, g, k) := by rw [goG, if_neg hg]
      rw [eg]
      exact ⟨a, b⟩
theorem run0_lf {r : RunV} : LfI (run0 r) := fun w hw h => absurd (show (0 : Int) ≤ -1 from h) (by decide)
theorem run0_nd {P : PlV} {nd : Nat → Nat} {r : RunV} : NdI P nd (run0 r) := ⟨fun t ht h => absurd rfl h, fun w hw t h => by
  have h : (-1 : Int) = (t : Int) := h
  omega⟩
theorem plnK_nil : plnK [] := fun u => by
  have e : tD [] u = ([], [], [], [], [], 0) := by unfold tD; simp
  rw [e]
  exact ⟨wkS_nil, wkS_nil, wkS_nil, fun k => by show wkS (inN [] k) 12; rw [inN_nil]; exact wkS_nil, Nat.zero_le _⟩
theorem wInv.gow {k n : Nat} {w : HoS} (I : wInv k w) (hk : k ≤ 100000) (hn : n ≤ 9999) (hr : ∀ t, t < (sePl w.2.2).2.2.length → ∃ r : Nat, rix (tgR (tD (sePl w.2.2).2.2 t)) = (r : Int)) : gowP w.2.2 n := by
  obtain ⟨i1, ⟨i2, i3, i4, i5⟩, i6, i7, i8⟩ := I
  exact ⟨i3, fun t ht => ⟨(i2 t).2.1.ok, hr t ht⟩, by omega, i4, fun j => by have := i6 j; omega, i5, fun t ht => (i2 t).1.cl⟩
theorem fsPut_in {fs : List (List Nat × List Nat)} {n b : List Nat} {x : List Nat × List Nat} (h : x ∈ fsPut fs n b) : x ∈ fs ∨ x = (n, b) := by
  unfold fsPut at h
  split at h
  · rcases List.mem_append.mp h with y | y
    · exact Or.inl y
    · exact Or.inr (List.mem_singleton.mp y)
  · rcases List.mem_or_eq_of_mem_set h with y | y
    · exact Or.inl y
    · exact Or.inr y
theorem wInv.ca {k t : Nat} {a : ArV} {w : HoS} (I : wInv k w) (h1 : t = 1 → wkS a.1 12) (h4 : t = 4 → tokD a.2.2.1 ∧ nmsD a.2.2.1 ∧ ¬ circV w.1.2.2 a.2.2.1) (h6 : t = 6 → 0 ≤ tat w.1.2.2 a.1) (h7 : t = 7 → a.2.2.2 0 ≤ 9999) : wInv (k + 1) (caM t a w).1 := by
  have I' := I.up (Nat.le_succ k)
  obtain ⟨⟨i1, i2, i3, i4⟩, ⟨j1, j2, j3, j4⟩, i5, i6, i7⟩ := id I
  unfold caM
  by_cases q : t = 0
  · rw [if_pos q]
    refine ⟨⟨fun u i h => ?_, fun k u h => ?_, plnK_nil, fun x hx => absurd hx List.not_mem_nil⟩, ⟨j1, fun u _ h => absurd (show (0 : Nat) = 1 from h) (by decide), run0_lf, run0_nd⟩, fun j => Nat.zero_le _, Nat.zero_le _, fun u i => I'.2.2.2.2 u i⟩
    · exact absurd h (Nat.not_lt_zero _)
    · obtain ⟨y, h1, h2⟩ := h
      exact absurd (edge_lt h2).1 (Nat.not_lt_zero _)
  rw [if_neg q]
  by_cases q : t = 1
  · rw [if_pos q]
    refine ⟨⟨i1, i2, i3, fun x hx => ?_⟩, I'.2⟩
    rcases fsPut_in hx with y | y
    · exact i4 x y
    · rw [y]; exact h1 q
  rw [if_neg q]
  by_cases q : t = 2
  · rw [if_pos q]
    exact ⟨⟨i1, i2, i3, fun x hx => i4 x (List.mem_of_mem_eraseIdx hx)⟩, I'.2⟩
  rw [if_neg q]
  by_cases q : t = 7
  · rw [if_pos q]
    have g := goG_C (P := sePl w.2.2) (nd := seNd w.2.2) (L := 24) (n := (a.2.2.2 0).toNat) (s := seGo w.2.2) (g := seOn w.2.2) (k := seSt w.2.2)
    have f := goG_lf (P := sePl w.2.2) (nd := seNd w.2.2) (n := (a.2.2.2 0).toNat) (s := seGo w.2.2) (g := seOn w.2.2) (k := seSt w.2.2) j3 j4
    have hn := h7 q
    refine ⟨I'.1, ⟨j1, j2, f.1, f.2⟩, fun j => ?_, ?_, fun u i => I'.2.2.2.2 u i⟩
    · have g1 := g.1 j
      have i5' := i5 j
      show rC (goR (goG (sePl w.2.2) (seNd w.2.2) 24 (a.2.2.2 0).toNat (seGo w.2.2) (seOn w.2.2) (seSt w.2.2)).1) j ≤ _
      omega
    · have g2 := g.2
      show (goG (sePl w.2.2) (seNd w.2.2) 24 (a.2.2.2 0).toNat (seGo w.2.2) (seOn w.2.2) (seSt w.2.2)).2.2 ≤ _
      omega
  rw [if_neg q]
  unfold caS
  by_cases q : t = 0
  · omega
  rw [if_neg q]
  by_cases q : t = 1
  · omega
  rw [if_neg q]
  by_cases q : t = 2
  · omega
  rw [if_neg q]
  by_cases q : t = 3
  · rw [if_pos q]; exact ⟨⟨i1, i2, i3, i4⟩, I'.2⟩
  rw [if_neg q]
  by_cases q : t = 4
  · rw [if_pos q]
    obtain ⟨n0, n1, n2⟩ := h4 q
    have e := put_D (ts := w.1.2.2) (D := a.2.2.1)
    refine ⟨⟨fun u i h => ?_, acy_put i2 n2, fun u => ?_, i4⟩, I'.2⟩
    · have e := e u
      have h : i < (tgI (tD (tsPut w.1.2.2 a.2.2.1) u)).length := h
      show inN (tgI (tD (tsPut w.1.2.2 a.2.2.1) u)) i ≠ []
      rw [e] at h ⊢
      split at h
      · rename_i y; rw [if_pos y]; exact n1 i h
      · rename_i y; rw [if_neg y]; exact i1 u i h
    · show tokD (tD (tsPut w.1.2.2 a.2.2.1) u)
      rw [e u]
      split
      · exact n0
      · exact i3 u
  rw [if_neg q]
  by_cases q : t = 5
  · rw [if_pos q]
    refine ⟨⟨fun u i h => ?_, acy_drop i2, fun u => ?_, i4⟩, I'.2⟩
    · have e := (tdrop_at w.1.2.2 a.1 u).1
      have h : i < (tgI (tD (tsDrop w.1.2.2 a.1) u)).length := h
      show inN (tgI (tD (tsDrop w.1.2.2 a.1) u)) i ≠ []
      rw [e] at h ⊢
      exact i1 u i h
    · show tokD (tD (tsDrop w.1.2.2 a.1) u)
      rw [(tdrop_at w.1.2.2 a.1 u).1]
      exact i3 u
  rw [if_neg q]
  by_cases q : t = 6
  · rw [if_pos q]
    have h0 := h6 q
    have hH := tat_H h0
    refine ⟨I'.1, ⟨i3, fun u hu h => ?_, run0_lf, run0_nd⟩, fun j => I'.2.2.1 j, Nat.zero_le _, fun u i => I'.2.2.2.2 u i⟩
    have h : ndF w.1.2.2 (tat w.1.2.2 a.1).toNat u = 1 := h
    by_cases r : Rc w.1.2.2 (tat w.1.2.2 a.1).toNat u
    · exact Rc_H hH r
    · rw [ndF_0 r] at h; exact absurd h (by decide)
  rw [if_neg q]
  by_cases q : t = 7
  · omega
  rw [if_neg q]
  by_cases q : t = 8
  · rw [if_pos q]
    refine ⟨I'.1, ⟨j1, j2, fun w hw h => absurd (show (0 : Int) ≤ -1 from h) (by decide), ⟨j4.1, fun w hw t h => ?_⟩⟩, fun j => I'.2.2.1 j, I'.2.2.2.1, fun u i => I'.2.2.2.2 u i⟩
    have h : (-1 : Int) = (t : Int) := h
    omega
  rw [if_neg q]
  by_cases q : t = 9
  · rw [if_pos q]
    refine ⟨I'.1, ⟨j1, j2, j3, j4⟩, fun j => I'.2.2.1 j, I'.2.2.2.1, fun u i => ?_⟩
    show upO w.2.2.2.2.1 (tix w.1.2.2 a.1).toNat _ u i ≤ k + 1
    unfold upO
    split
    · exact relE_le (fun i => i7 _ i) i
    · exact I'.2.2.2.2 u i
  rw [if_neg q]
  by_cases q : t = 10
  · rw [if_pos q]; exact ⟨I'.1, I'.2⟩
  rw [if_neg q]
  by_cases q : t = 11
  · rw [if_pos q]; exact ⟨I'.1, I'.2⟩
  rw [if_neg q]; exact ⟨I'.1, I'.2⟩
/-- the house behind a request that is right and admitted -/
theorem wInv.rq {k : Nat} {l : List Nat} {w : HoS} (I : wInv k w) (e : qrR l = true) (h : rfQ l w = 19) : wInv (k + 1) (caM (qrT l) (qrA l (qrN l)) w).1 := by
  refine I.ca (fun q => (qr_name e _).2 (by rw [q]; decide)) (fun q => ⟨pDef_tok qrB_le, qr_nm e q _, rfQ_circ q h⟩) (fun q => ?_) (fun q => (qrN_9 l 0).2)
  unfold rfQ refN at h
  rw [q] at h
  by_cases z : tat w.1.2.2 (qrA l (qrN l)).1 < 0
  · rw [if_neg (by decide), if_neg (by decide), if_neg (by decide), if_neg (by decide), if_neg (by decide), if_pos rfl, if_pos z] at h
    exact absurd h (by decide)
  · omega
