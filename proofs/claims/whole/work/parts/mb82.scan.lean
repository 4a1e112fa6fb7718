/-! the tie: the class's search finds what the reference's scan finds -/
def sbH (rs : List RuV) : Nat → (Nat → Int) → BeQ → BeQ
  | 0, vl, s => if (cnV vl 5 : Int) < s.2 ∧ lwb rs vl < 0 then (vl, (cnV vl 5 : Int)) else s
  | k + 1, vl, s => sbH rs k (up vl (4 - k) 0) (sbH rs k (up vl (4 - k) 1) (sbH rs k (up vl (4 - k) 2) (sbH rs k (up vl (4 - k) 3) s)))
/-- w has all values, those of vl below de -/
def exW (vl w : Nat → Int) (de : Nat) : Prop := (∀ j, j < de → w j = vl j) ∧ ∀ j, de ≤ j → j < 5 → 0 ≤ w j ∧ w j ≤ 3
theorem exW_up {vl w : Nat → Int} {de : Nat} {v : Int} (h : exW (up vl de v) w (de + 1)) (v0 : 0 ≤ v) (v3 : v ≤ 3) : exW vl w de := by
  refine ⟨fun j hj => ?_, fun j h1 h2 => ?_⟩
  · have := h.1 j (by omega)
    rw [this]
    show (if j = de then v else vl j) = vl j
    rw [if_neg (by omega)]
  · by_cases q : j = de
    · have := h.1 j (by omega)
      rw [this, q, show (up vl de v) de = v from if_pos rfl]
      exact ⟨v0, v3⟩
    · exact h.2 j (by omega) h2
theorem sbH_skip {rs : List RuV} : ∀ (k : Nat) {de : Nat} {vl : Nat → Int} {s : BeQ}, de + k = 5 → (∀ w, exW vl w de → ¬ ((cnV w 5 : Int) < s.2 ∧ lwb rs w < 0)) → sbH rs k vl s = s := fun k => by
  induction k with
  | zero =>
    intro de vl s hde H
    have d5 : de = 5 := by omega
    subst d5
    rw [sbH, if_neg (H vl ⟨fun _ _ => rfl, fun j h1 h2 => by omega⟩)]
  | succ k ih =>
    intro de vl s hde H
    have d4 : 4 - k = de := by omega
    have c : ∀ v : Int, 0 ≤ v → v ≤ 3 → sbH rs k (up vl de v) s = s := fun v v0 v3 => ih (de := de + 1) (by omega) (fun w hw => H w (exW_up hw v0 v3))
    rw [sbH, d4, c 3 (by decide) (by decide), c 2 (by decide) (by decide), c 1 (by decide) (by decide), c 0 (by decide) (by decide)]
theorem cnV_mono {w : Nat → Int} {a : Nat} : ∀ b, cnV w a ≤ cnV w (a + b)
  | 0 => Nat.le_refl _
  | b + 1 => by
    have := cnV_mono (w := w) (a := a) b
    rw [show a + (b + 1) = (a + b) + 1 by omega, cnV]
    omega
theorem lwb_up {rs : List RuV} {vl w : Nat → Int} {de : Nat} (hv : ∀ j, de ≤ j → vl j = -1) (hw : ∀ j, j < de → w j = vl j) (h : ¬ lwb rs vl < 0) : ¬ lwb rs w < 0 := by
  have g := srF_rg (p := brk rs vl) (n := rs.length) (i := 0)
  rcases g with g | ⟨k, -, k2, k3, k4⟩
  · unfold lwb at h; omega
  · have dec : ∀ j, vl j ≠ -1 → w j = vl j := fun j hj => hw j (Nat.lt_of_not_le (fun z => hj (hv j z)))
    have b : brk rs w k = true := by
      unfold brk at k4 ⊢
      rw [decide_eq_true_iff] at k4 ⊢
      obtain ⟨q1, q2, q3, q4⟩ := k4
      have e := dec _ q3
      refine ⟨q1, q2.imp id (fun z => ?_), by rw [e]; exact q3, by rw [e]; exact q4⟩
      rw [dec _ (by rw [z]; omega)]; exact z
    intro z
    have r := lwb_rg rs w
    have n := srF_none.mp (show srF (brk rs w) rs.length 0 = -1 by unfold lwb at z r; omega) k (Nat.zero_le _) k2
    rw [b] at n
    exact absurd n (by decide)
theorem sbG_H {rs : List RuV} : ∀ (k : Nat) {de : Nat} {vl : Nat → Int} {s : BeQ}, de + k = 5 → (∀ j, de ≤ j → vl j = -1) → sbG rs k vl s = sbH rs k vl s := fun k => by
  induction k with
  | zero => intro de vl s hde hv; rw [sbG, sbH]
  | succ k ih =>
    intro de vl s hde hv
    have d4 : 4 - k = de := by omega
    have c : ∀ (v : Int) (s : BeQ), sbG rs k (up vl de v) s = sbH rs k (up vl de v) s := fun v s => ih (de := de + 1) (by omega) (fun j hj => by
      show (if j = de then v else vl j) = -1
      rw [if_neg (by omega)]; exact hv j (by omega))
    by_cases q : (cnV vl de : Int) < s.2 ∧ lwb rs vl < 0
    · rw [sbG, sbH, d4, if_pos q, c, c, c, c]
    · rw [sbG, d4, if_neg q]
      refine (sbH_skip (k + 1) hde (fun w hw z => q ⟨?_, Classical.byContradiction (fun y => lwb_up hv hw.1 y z.2)⟩)).symm
      have m := cnV_mono (w := w) (a := de) (5 - de)
      rw [show de + (5 - de) = 5 by omega, cnV_cg hw.1] at m
      have := z.1
      omega
/-- one of the scan -/
def slP (rs : List RuV) (n : Nat) (s : Int × Nat) : Int × Nat := if lwb rs (dgV n) < 0 ∧ cnV (dgV n) 5 < s.2 then ((n : Int), cnV (dgV n) 5) else s
def slT (rs : List RuV) (lo : Nat) : Nat → Int × Nat → Int × Nat
  | 0, s => s
  | m + 1, s => slT rs lo m (slP rs (lo + m) s)
theorem slS_T {rs : List RuV} : ∀ (n : Nat) (s : Int × Nat), slS rs n s = slT rs 0 n s
  | 0, s => rfl
  | n + 1, s => by rw [slS, slT, slS_T n, Nat.zero_add]; rfl
theorem slT_add {rs : List RuV} {lo a : Nat} : ∀ (b : Nat) (s : Int × Nat), slT rs lo (a + b) s = slT rs lo a (slT rs (lo + a) b s)
  | 0, s => rfl
  | b + 1, s => by rw [show a + (b + 1) = (a + b) + 1 by omega, slT, slT_add b, slT, show lo + (a + b) = lo + a + b by omega]
def rbQ (s : BeQ) (m : Int × Nat) : Prop := s.2 = (m.2 : Int) ∧ (m.1 < 0 → m.2 = 6) ∧ (0 ≤ m.1 → m.2 ≤ 5 ∧ ∀ p, p < 5 → s.1 p = dgV m.1.toNat p)
theorem dg_child {lo k de v : Nat} (hde : de + (k + 1) = 5) (h : lo % 4 ^ (k + 1) = 0) (hv : v < 4) : (∀ p, p < de → dgV (lo + v * 4 ^ k) p = dgV lo p) ∧ dgV (lo + v * 4 ^ k) de = (v : Int) ∧ (lo + v * 4 ^ k) % 4 ^ k = 0 := by
  have pk : 0 < 4 ^ k := Nat.pow_pos (by decide)
  obtain ⟨q, hq⟩ : ∃ q, lo = 4 ^ (k + 1) * q := ⟨lo / 4 ^ (k + 1), (Nat.mul_div_cancel' (Nat.dvd_of_mod_eq_zero h)).symm⟩
  have e4 : 4 ^ (k + 1) = 4 ^ k * 4 := Nat.pow_succ ..
  have e : lo + v * 4 ^ k = 4 ^ k * (4 * q + v) := by rw [hq, e4, Nat.mul_assoc, Nat.mul_comm v, Nat.mul_add]
  have e0 : lo = 4 ^ k * (4 * q) := by rw [hq, e4, Nat.mul_assoc]
  refine ⟨fun p hp => ?_, ?_, by rw [e]; exact Nat.mul_mod_right _ _⟩
  · unfold dgV
    have s : 4 - p = k + (1 + (3 - k - p)) := by omega
    rw [s, Nat.pow_add, Nat.pow_add, ← Nat.div_div_eq_div_mul, ← Nat.div_div_eq_div_mul, ← Nat.div_div_eq_div_mul, ← Nat.div_div_eq_div_mul]
    rw [e, e0, Nat.mul_div_cancel_left _ pk, Nat.mul_div_cancel_left _ pk, Nat.pow_one, show (4 * q + v) / 4 = q by omega, show 4 * q / 4 = q by omega]
  · unfold dgV
    rw [show 4 - de = k by omega, e, Nat.mul_div_cancel_left _ pk]
    congr 1
    omega
theorem sb_scan {rs : List RuV} (hr : ∀ k, k < rs.length → rOf rs k ≤ 4 ∧ rPa rs k ≤ 4) : ∀ (k : Nat) {de lo : Nat} {vl : Nat → Int} {s : BeQ} {m : Int × Nat}, de + k = 5 → (∀ j, j < de → vl j = dgV lo j) → lo % 4 ^ k = 0 → rbQ s m → rbQ (sbH rs k vl s) (slT rs lo (4 ^ k) m) := fun k => by
  induction k with
  | zero =>
    intro de lo vl s m hde hv hl R
    have d5 : de = 5 := by omega
    subst d5
    have ec : cnV vl 5 = cnV (dgV lo) 5 := cnV_cg hv
    have el : lwb rs vl = lwb rs (dgV lo) := lwb_cg hr hv
    have c5 := cnV_le (vl := dgV lo) (p := 5)
    show rbQ (sbH rs 0 vl s) (slT rs lo 1 m)
    rw [sbH, slT, slT]
    unfold slP
    rw [Nat.add_zero, ec, el, R.1]
    by_cases q : lwb rs (dgV lo) < 0 ∧ cnV (dgV lo) 5 < m.2
    · rw [if_pos q, if_pos ⟨by have := q.2; omega, q.1⟩]
      exact ⟨rfl, fun z => by have z : (lo : Int) < 0 := z; omega, fun _ => ⟨c5, fun p hp => hv p hp⟩⟩
    · rw [if_neg q, if_neg (fun z => q ⟨z.2, by have := z.1; omega⟩)]
      exact R
  | succ k ih =>
    intro de lo vl s m hde hv hl R
    have d4 : 4 - k = de := by omega
    have ch : ∀ (v : Nat) (s : BeQ) (m : Int × Nat), v < 4 → rbQ s m → rbQ (sbH rs k (up vl de (v : Int)) s) (slT rs (lo + v * 4 ^ k) (4 ^ k) m) := fun v s m hv4 R => by
      obtain ⟨g1, g2, g3⟩ := dg_child hde hl hv4
      refine ih (de := de + 1) (by omega) (fun j hj => ?_) g3 R
      show (if j = de then (v : Int) else vl j) = _
      by_cases z : j = de
      · rw [if_pos z, z, g2]
      · rw [if_neg z, g1 j (by omega), hv j (by omega)]
    have R3 := ch 3 s m (by decide) R
    have R2 := ch 2 _ _ (by decide) R3
    have R1 := ch 1 _ _ (by decide) R2
    have R0 := ch 0 _ _ (by decide) R1
    rw [sbH, d4, show 4 ^ (k + 1) = 4 ^ k + (4 ^ k + (4 ^ k + 4 ^ k)) by rw [Nat.pow_succ]; omega, slT_add, slT_add, slT_add]
    rw [show lo + 4 ^ k + 4 ^ k + 4 ^ k = lo + 3 * 4 ^ k by omega, show lo + 4 ^ k + 4 ^ k = lo + 2 * 4 ^ k by omega, show lo + 4 ^ k = lo + 1 * 4 ^ k by omega]
    rw [Nat.zero_mul, Nat.add_zero] at R0
    exact R0
theorem slTxt_cg {be be' : Nat → Int} : ∀ {n : Nat}, (∀ p, p < n → be p = be' p) → slTxt be n = slTxt be' n
  | 0, _ => rfl
  | n + 1, h => by rw [slTxt, slTxt, slTxt_cg (fun p hp => h p (by omega)), h n (by omega)]
/-- a solution is met by the scan -/
theorem slT_sol {rs : List RuV} {lo : Nat} : ∀ (m : Nat) (s : Int × Nat), (s.1 < 0 → s.2 = 6) → (slT rs lo m s).1 < 0 → s.1 < 0 ∧ ∀ i, i < m → ¬ lwb rs (dgV (lo + i)) < 0
  | 0, s, hs, h => ⟨h, fun i hi => absurd hi (Nat.not_lt_zero _)⟩
  | m + 1, s, hs, h => by
    rw [slT] at h
    have c5 := cnV_le (vl := dgV (lo + m)) (p := 5)
    by_cases q : lwb rs (dgV (lo + m)) < 0 ∧ cnV (dgV (lo + m)) 5 < s.2
    · have e : slP rs (lo + m) s = (((lo + m : Nat) : Int), cnV (dgV (lo + m)) 5) := if_pos q
      rw [e] at h
      have := (slT_sol m _ (fun z => by have z : ((lo + m : Nat) : Int) < 0 := z; omega) h).1
      have this : ((lo + m : Nat) : Int) < 0 := this
      omega
    · have e : slP rs (lo + m) s = s := if_neg q
      rw [e] at h
      obtain ⟨a, b⟩ := slT_sol m s hs h
      refine ⟨a, fun i hi => ?_⟩
      by_cases z : i = m
      · rw [z]; intro y; exact q ⟨y, by have := hs a; omega⟩
      · exact b i (by omega)
