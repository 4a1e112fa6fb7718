/-! the reference: bits counted -/
def pcN (n : Nat) : Nat → Nat
  | 0 => 0
  | u + 1 => pcN n u + n / 2 ^ u % 2
theorem pcN_le {n : Nat} : ∀ {u}, pcN n u ≤ u
  | 0 => Nat.le_refl _
  | u + 1 => by
    have := @pcN_le n u
    rw [pcN]
    omega
theorem d338_0 : dc 338 0 = some (.iconst 0, 1) := by decide +kernel
theorem d338_1 : dc 338 1 = some (.istore_n 1, 2) := by decide +kernel
theorem d338_2 : dc 338 2 = some (.iconst 0, 3) := by decide +kernel
theorem d338_3 : dc 338 3 = some (.istore_n 2, 4) := by decide +kernel
theorem d338_4 : dc 338 4 = some (.iload_n 2, 5) := by decide +kernel
theorem d338_5 : dc 338 5 = some (.bipush 32, 7) := by decide +kernel
theorem d338_7 : dc 338 7 = some (.if_icmp .ge ((24 : Nat) : Int), 10) := by decide +kernel
theorem d338_10 : dc 338 10 = some (.iload_n 1, 11) := by decide +kernel
theorem d338_11 : dc 338 11 = some (.iload_n 0, 12) := by decide +kernel
theorem d338_12 : dc 338 12 = some (.iload_n 2, 13) := by decide +kernel
theorem d338_13 : dc 338 13 = some (.ishr, 14) := by decide +kernel
theorem d338_14 : dc 338 14 = some (.iconst 1, 15) := by decide +kernel
theorem d338_15 : dc 338 15 = some (.iand, 16) := by decide +kernel
theorem d338_16 : dc 338 16 = some (.iadd, 17) := by decide +kernel
theorem d338_17 : dc 338 17 = some (.istore_n 1, 18) := by decide +kernel
theorem d338_18 : dc 338 18 = some (.iinc 2 1, 21) := by decide +kernel
theorem d338_21 : dc 338 21 = some (.goto ((4 : Nat) : Int), 24) := by decide +kernel
theorem d338_24 : dc 338 24 = some (.iload_n 1, 25) := by decide +kernel
theorem d338_25 : dc 338 25 = some (.ireturn, 26) := by decide +kernel
theorem k_M_bits {G : Nat → Option Nat} {d : Nat} {h : Hp} {Q : Option MV → Hp → Prop} {n : Nat} (h1 : 0 ≤ d) (hn : n < 2147483648) (kk : Q (some (vI (pcN n 32 : Nat))) h) : Cl G d 338 [vI (n : Nat)] h Q := by
  show Wp G d 338 0 [some (vI (n : Nat)), none, none] [] h Q
  refine w_iconst d338_0 (by decide) ?_
  refine w_istore1 d338_1 rfl ?_
  refine w_iconst d338_2 (by decide) ?_
  refine w_istore2 d338_3 rfl ?_
  have L4 : ∀ (m4 : Nat) (u : Nat), 32 - u = m4 → (u ≤ 32) → Wp G d 338 4 [some (vI (n : Nat)), some (vI (pcN n u : Nat)), some (vI (u : Nat))] [] h Q := by
    intro m4
    induction m4 using Nat.strongRecOn with | ind m4 IH4 => ?_
    intro u hm4 ul
    refine w_iload_n d338_4 rfl ?_
    refine w_bipush d338_5 (by decide) ?_
    refine w_icmpge d338_7 (fun c7 => ?_) (fun c7 => ?_)
    · have eu : u = 32 := by omega
      rw [← eu] at kk
      refine w_iload_n d338_24 rfl ?_
      refine w_ireturn d338_25 ?_
      exact kk
    · have hu : u < 32 := by omega
      have cl := @pcN_le n u
      refine w_iload_n d338_10 rfl ?_
      refine w_iload_n d338_11 rfl ?_
      refine w_iload_n d338_12 rfl ?_
      refine w_ishr d338_13 ?_
      rw [shr_n (n := n) (u := u) (by omega) hu]
      refine w_iconst d338_14 (by decide) ?_
      refine w_iand d338_15 ?_
      rw [and_1 (a := n / 2 ^ u) (Nat.lt_of_le_of_lt (Nat.div_le_self _ _) (by omega))]
      refine w_iadd d338_16 (by constructor <;> omega) ?_
      refine w_istore1 d338_17 rfl ?_
      refine w_iinc2 d338_18 rfl (by constructor <;> omega) ?_
      refine w_goto d338_21 ?_
      rw [show ((u : Nat) : Int) + 1 = ((u + 1 : Nat) : Int) by omega]
      rw [show ((pcN n u : Nat) : Int) + ((n / 2 ^ u % 2 : Nat) : Int) = ((pcN n (u + 1) : Nat) : Int) by rw [pcN]; omega]
      refine w_less ?_ (IH4 _ (by omega) (u + 1) rfl (by omega))
      exact ⟨Or.inr rfl, Or.inr rfl, Or.inr rfl, trivial⟩
  refine w_less ?_ (L4 _ 0 rfl (Nat.zero_le _))
  exact ⟨Or.inr rfl, Or.inr rfl, Or.inr rfl, trivial⟩
