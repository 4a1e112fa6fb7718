/-! the tie: solutions -/
theorem dg_all {w : Nat → Int} (hw : ∀ j, j < 5 → 0 ≤ w j ∧ w j ≤ 3) : ∀ de, de ≤ 5 → ∃ lo, lo % 4 ^ (5 - de) = 0 ∧ lo + 4 ^ (5 - de) ≤ 1024 ∧ ∀ p, p < de → dgV lo p = w p
  | 0, _ => ⟨0, by decide, by decide, fun p hp => absurd hp (Nat.not_lt_zero _)⟩
  | de + 1, hde => by
    obtain ⟨lo, h1, h2, h3⟩ := dg_all hw de (by omega)
    obtain ⟨k, hk⟩ : ∃ k, 5 - de = k + 1 := ⟨4 - de, by omega⟩
    rw [hk] at h1 h2
    have wd := hw de (by omega)
    obtain ⟨v, hv⟩ : ∃ v : Nat, w de = (v : Int) := ⟨(w de).toNat, by omega⟩
    have v4 : v < 4 := by omega
    obtain ⟨g1, g2, g3⟩ := dg_child (lo := lo) (k := k) (de := de) (v := v) (by omega) h1 v4
    rw [show 5 - (de + 1) = k by omega]
    refine ⟨lo + v * 4 ^ k, g3, ?_, fun p hp => ?_⟩
    · have pk : 0 < 4 ^ k := Nat.pow_pos (by decide)
      rw [Nat.pow_succ] at h2
      have : v * 4 ^ k ≤ 3 * 4 ^ k := Nat.mul_le_mul_right _ (by omega)
      omega
    · by_cases z : p = de
      · rw [z, g2, hv]
      · rw [g1 p (by omega), h3 p (by omega)]
theorem sol_eq {rs : List RuV} (hr : ∀ k, k < rs.length → rOf rs k ≤ 4 ∧ rPa rs k ≤ 4) (r20 : rs.length ≤ 20) : solQ rs := by
  obtain ⟨f1, f2⟩ := fsE_G rs
  rw [sbG_H 5 (de := 0) rfl (fun _ _ => rfl)] at f1 f2
  have R := sb_scan hr 5 (de := 0) (lo := 0) (vl := fun _ => -1) (s := (fun _ => 0, 6)) (m := (-1, 6)) rfl (fun j hj => absurd hj (Nat.not_lt_zero _)) (by decide) ⟨rfl, fun _ => rfl, fun h => absurd h (by decide)⟩
  have e : slT rs 0 (4 ^ 5) (-1, 6) = slS rs 1024 (-1, 6) := (slS_T 1024 (-1, 6)).symm
  have no := slT_sol (rs := rs) (lo := 0) 1024 (-1, 6) (fun _ => rfl)
  rw [← slS_T] at no
  rw [e] at R
  have es : solR rs = (slS rs 1024 (-1, 6)).1 := rfl
  rw [← es] at no
  obtain ⟨r1, r2, r3⟩ := R
  rw [← es] at r2 r3
  unfold solQ
  rw [f1, f2, r1]
  by_cases q : solR rs < 0
  · have z := r2 q
    rw [if_neg (by omega), if_pos q, if_neg (by omega), if_neg (by omega)]
    refine ⟨rfl, ref_eq r20 (fun w hw _ => ?_)⟩
    obtain ⟨lo, -, h2, h3⟩ := dg_all hw 5 (Nat.le_refl _)
    have h2 : lo + 1 ≤ 1024 := h2
    have n := (no q).2 lo (by omega)
    rw [Nat.zero_add, ← lwb_cg hr (vl := w) (vl' := dgV lo) (fun p hp => (h3 p hp).symm)] at n
    omega
  · obtain ⟨a, b⟩ := r3 (by omega)
    rw [if_pos (by omega), if_neg q, if_pos (by omega), if_pos (by omega)]
    exact ⟨slTxt_cg (fun p hp => b p hp), rfl⟩
