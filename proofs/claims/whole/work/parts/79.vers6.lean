/-! versions: a search over the values; words -/
/-- back over the decided values that are z: the values and how many are decided -/
def bk (z : Int) (w : Nat → Int) : Nat → (Nat → Int) × Nat
  | 0 => (w, 0)
  | n + 1 => if w n = z then bk z (up w n (-1)) n else (w, n + 1)
theorem bk_le {z : Int} : ∀ {n : Nat} {w : Nat → Int}, (bk z w n).2 ≤ n
  | 0, w => Nat.le_refl _
  | n + 1, w => by
    unfold bk
    split
    · exact Nat.le_trans bk_le (Nat.le_succ n)
    · exact Nat.le_refl _
theorem bk_step {z : Int} {w : Nat → Int} {n : Nat} (h : 0 < n) (e : w (n - 1) = z) : bk z w n = bk z (up w (n - 1) (-1)) (n - 1) := by
  obtain ⟨m, rfl⟩ : ∃ m, n = m + 1 := ⟨n - 1, by omega⟩
  have e' : w m = z := e
  rw [bk, if_pos e']
  rfl
theorem bk_end {z : Int} {w : Nat → Int} {n : Nat} (h : n = 0 ∨ w (n - 1) ≠ z) : bk z w n = (w, n) := by
  rcases n with - | m
  · rfl
  · rw [bk, if_neg (by rcases h with h | h; cases h; exact h)]
/-- a search for a solution: values, best, fewest, decided, there, more -/
abbrev FsV : Type := (Nat → Int) × (Nat → Int) × Int × Nat × Int × Bool
def fsR (rs : List RuV) (s : FsV) : Bool := decide (s.2.2.2.2.1 < s.2.2.1 ∧ lwb rs s.1 < 0)
def fsS (rs : List RuV) (s : FsV) : FsV :=
  if fsR rs s = true ∧ s.2.2.2.1 < 5 then (up s.1 s.2.2.2.1 3, s.2.1, s.2.2.1, s.2.2.2.1 + 1, s.2.2.2.2.1 + 1, s.2.2.2.2.2)
  else
    let b := bk 0 s.1 s.2.2.2.1
    let x := b.1 (b.2 - 1) - 1
    (if b.2 = 0 then b.1 else up b.1 (b.2 - 1) x, if fsR rs s = true then s.1 else s.2.1, if fsR rs s = true then s.2.2.2.2.1 else s.2.2.1, b.2, if b.2 ≠ 0 ∧ x = 0 then s.2.2.2.2.1 - 1 else s.2.2.2.2.1, decide (b.2 ≠ 0))
/-- what a state of the search keeps: i rounds are done -/
def FsO (i : Nat) (s : FsV) : Prop := s.2.2.2.1 ≤ 5 ∧ (∀ j, j < s.2.2.2.1 → 0 ≤ s.1 j) ∧ -(i : Int) ≤ s.2.2.2.2.1 ∧ s.2.2.2.2.1 ≤ i ∧ -(i : Int) ≤ s.2.2.1 ∧ s.2.2.1 ≤ i + 6
theorem bk_pos {w : Nat → Int} : ∀ {n : Nat}, (∀ j, j < n → 0 ≤ w j) → ∀ j, j < (bk 0 w n).2 → 0 ≤ (bk 0 w n).1 j
  | 0, _ => fun j hj => by exact absurd hj (Nat.not_lt_zero _)
  | n + 1, H => by
    unfold bk
    split
    · refine bk_pos (fun j hj => ?_)
      show 0 ≤ (if j = n then -1 else w j)
      rw [if_neg (by omega)]
      exact H j (by omega)
    · exact H
theorem bk_ne {z : Int} : ∀ {n : Nat} {w : Nat → Int}, (bk z w n).2 ≠ 0 → (bk z w n).1 ((bk z w n).2 - 1) ≠ z
  | 0, w => fun h => absurd rfl h
  | n + 1, w => by
    unfold bk
    split
    · exact bk_ne
    · rename_i q
      exact fun _ => q
def fsI (rs : List RuV) : Nat → FsV → FsV
  | 0, s => s
  | n + 1, s => if s.2.2.2.2.2 = true then fsI rs n (fsS rs s) else s
/-- where the search ends -/
def fsE (rs : List RuV) : FsV := fsI rs 1365 (fun _ => -1, fun _ => 0, 6, 0, 0, true)
theorem fsI_off {rs : List RuV} {n : Nat} {s : FsV} (h : s.2.2.2.2.2 = false) : fsI rs n s = s := by
  rcases n with - | m
  · rfl
  · rw [fsI, if_neg (by rw [h]; decide)]
theorem fsI_on {rs : List RuV} {n : Nat} {s : FsV} (hn : 0 < n) (h : s.2.2.2.2.2 = true) : fsI rs n s = fsI rs (n - 1) (fsS rs s) := by
  obtain ⟨m, rfl⟩ : ∃ m, n = m + 1 := ⟨n - 1, by omega⟩
  rw [fsI, if_pos h]
  rfl
theorem fsS_ok {rs : List RuV} {i : Nat} {s : FsV} (H : FsO i s) : FsO (i + 1) (fsS rs s) := by
  obtain ⟨vl, be, fw, de, th, mo⟩ := s
  obtain ⟨h1, h2, h3, h4, h5, h6⟩ := H
  change de ≤ 5 at h1
  change ∀ j, j < de → 0 ≤ vl j at h2
  change -(i : Int) ≤ th at h3
  change th ≤ i at h4
  change -(i : Int) ≤ fw at h5
  change fw ≤ i + 6 at h6
  unfold fsS
  by_cases q : fsR rs (vl, be, fw, de, th, mo) = true ∧ de < 5
  · rw [if_pos q]
    refine ⟨?_, fun j hj => ?_, ?_, ?_, ?_, ?_⟩
    · show de + 1 ≤ 5; omega
    · change j < de + 1 at hj
      show 0 ≤ (if j = de then 3 else vl j)
      split
      · decide
      · exact h2 j (by omega)
    · show -((i + 1 : Nat) : Int) ≤ th + 1; omega
    · show th + 1 ≤ ((i + 1 : Nat) : Int); omega
    · show -((i + 1 : Nat) : Int) ≤ fw; omega
    · show fw ≤ ((i + 1 : Nat) : Int) + 6; omega
  · rw [if_neg q]
    have p1 := bk_pos h2
    have gg : ∀ (c : Prop) [Decidable c], -((i + 1 : Nat) : Int) ≤ (if c then th - 1 else th) ∧ (if c then th - 1 else th) ≤ ((i + 1 : Nat) : Int) := fun c _ => by constructor <;> split <;> omega
    have p2 : (bk 0 vl de).2 ≤ de := bk_le
    have p3 : (bk 0 vl de).2 ≠ 0 → (bk 0 vl de).1 ((bk 0 vl de).2 - 1) ≠ 0 := bk_ne
    refine ⟨?_, fun j hj => ?_, ?_, ?_, ?_, ?_⟩
    · show (bk 0 vl de).2 ≤ 5; omega
    · change j < (bk 0 vl de).2 at hj
      show 0 ≤ (if (bk 0 vl de).2 = 0 then (bk 0 vl de).1 else up (bk 0 vl de).1 ((bk 0 vl de).2 - 1) ((bk 0 vl de).1 ((bk 0 vl de).2 - 1) - 1)) j
      rw [if_neg (by omega)]
      show 0 ≤ (if j = (bk 0 vl de).2 - 1 then (bk 0 vl de).1 ((bk 0 vl de).2 - 1) - 1 else (bk 0 vl de).1 j)
      split
      · have a1 := p1 ((bk 0 vl de).2 - 1) (by omega)
        have a2 := p3 (by omega)
        omega
      · exact p1 j hj
    · exact (gg _).1
    · exact (gg _).2
    · show -((i + 1 : Nat) : Int) ≤ (if _ then th else fw); split <;> omega
    · show (if _ then th else fw) ≤ ((i + 1 : Nat) : Int) + 6; split <;> omega
