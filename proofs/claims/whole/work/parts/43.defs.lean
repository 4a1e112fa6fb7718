/-! definitions -/
/-- a definition's own arrays and row -/
def DefW (h : Hp) (x : Nat) : Prop := KD h x = 2 ∧ (∃ b, FR h 134 x = some b ∧ KD h b = 42 ∧ LN h b = 6) ∧ (∃ b, FR h 135 x = some b ∧ KD h b = 44 ∧ LN h b = 6) ∧ (∃ b, FR h 136 x = some b ∧ KD h b = 44 ∧ LN h b = 6) ∧ (∃ r, FR h 139 x = some r ∧ KD h r = 6) ∧ 0 ≤ FI h 133 x ∧ FI h 133 x ≤ 6
theorem lcmp0 {x y : Int64} : ((if x > y then (1 : Int) else if x = y then 0 else -1) = 0) ↔ x = y := by
  by_cases h : x > y
  · rw [if_pos h]
    constructor
    · intro q; cases q
    · intro q; subst q; exact absurd h Int64.lt_irrefl
  · rw [if_neg h]
    by_cases e : x = y
    · simp [e]
    · simp [e]
theorem d71_0 : dc 71 0 = some (.aload_n 0, 1) := by decide +kernel
theorem d71_1 : dc 71 1 = some (.getfield 131, 4) := by decide +kernel
theorem d71_4 : dc 71 4 = some (.ifCond .lt ((11 : Nat) : Int), 7) := by decide +kernel
theorem d71_7 : dc 71 7 = some (.iconst 1, 8) := by decide +kernel
theorem d71_8 : dc 71 8 = some (.goto ((12 : Nat) : Int), 11) := by decide +kernel
theorem d71_11 : dc 71 11 = some (.iconst 0, 12) := by decide +kernel
theorem d71_12 : dc 71 12 = some (.freturn, 13) := by decide +kernel
theorem c_Def_hasRule {G : Nat → Option Nat} {d : Nat} {h : Hp} {Q : Option MV → Hp → Prop} {a : Nat} (ha : KD h a = 2) (kk : Q (some (vI (if 0 ≤ FI h 131 a then 1 else 0))) h) : Cl G d 71 [vR (some a)] h Q := by
  show Wp G d 71 0 [some (vR (some a))] [] h Q
  refine w_aload_n d71_0 rfl ?_
  refine w_getfield d71_1 ha ?_
  refine w_iflt d71_4 (fun c4 => ?_) (fun c4 => ?_)
  · refine w_iconst d71_11 (by decide) ?_
    refine w_zreturn d71_12 (by decide) ?_
    exact qI (by rw [if_neg (by omega)]) kk
  · refine w_iconst d71_7 (by decide) ?_
    refine w_goto d71_8 ?_
    refine w_zreturn d71_12 (by decide) ?_
    exact qI (by rw [if_pos (by omega)]) kk
