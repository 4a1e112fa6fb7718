/-! rows: numbers are told -/
/-- how many digits less one a number has, from k on -/
def kdF (n : Nat) : Nat → Nat → Nat
  | 0, k => k
  | m + 1, k => if k < 9 ∧ 10 ≤ n / 10 ^ k then kdF n m (k + 1) else k
def dgs (n K j : Nat) : List Nat := (List.range j).map fun i => 48 + n / 10 ^ (K - i) % 10
def dec (n : Nat) : List Nat := dgs n (kdF n 9 0) (kdF n 9 0 + 1)
theorem pow9 {k : Nat} : ((10 ^ k : Nat) : Int) < 1000000000 ↔ k < 9 := by
  have h : 10 ^ k < 10 ^ 9 ↔ k < 9 := Nat.pow_lt_pow_iff_right (by decide)
  have : (10 : Nat) ^ 9 = 1000000000 := by decide
  omega
theorem kdF_le (n m k : Nat) (h : k + m ≤ 9) : kdF n m k ≤ 9 := by
  induction m generalizing k with
  | zero => exact h
  | succ m ih =>
    unfold kdF
    split
    · exact ih (k + 1) (by omega)
    · omega
theorem dgs_snoc (n K j : Nat) : dgs n K (j + 1) = dgs n K j ++ [48 + n / 10 ^ (K - j) % 10] := by unfold dgs; rw [List.range_succ, List.map_append]; rfl
theorem pow_rng {k : Nat} (h : k ≤ 9) : 1 ≤ 10 ^ k ∧ 10 ^ k ≤ 1000000000 := ⟨Nat.pow_pos (by decide), Nat.pow_le_pow_right (by decide) h⟩
theorem d124_2 : dc 124 2 = some (.iload_n 2, 3) := by decide +kernel
theorem d124_3 : dc 124 3 = some (.iconst 1000000000, 5) := by decide +kernel
theorem d124_5 : dc 124 5 = some (.if_icmp .ge ((24 : Nat) : Int), 8) := by decide +kernel
theorem d124_8 : dc 124 8 = some (.iload_n 1, 9) := by decide +kernel
theorem d124_9 : dc 124 9 = some (.iload_n 2, 10) := by decide +kernel
theorem d124_10 : dc 124 10 = some (.idiv, 11) := by decide +kernel
theorem d124_11 : dc 124 11 = some (.bipush 10, 13) := by decide +kernel
theorem d124_13 : dc 124 13 = some (.if_icmp .lt ((24 : Nat) : Int), 16) := by decide +kernel
theorem d124_16 : dc 124 16 = some (.iload_n 2, 17) := by decide +kernel
theorem d124_17 : dc 124 17 = some (.bipush 10, 19) := by decide +kernel
theorem d124_19 : dc 124 19 = some (.imul, 20) := by decide +kernel
theorem d124_20 : dc 124 20 = some (.istore_n 2, 21) := by decide +kernel
theorem d124_21 : dc 124 21 = some (.goto ((2 : Nat) : Int), 24) := by decide +kernel
theorem d124_24 : dc 124 24 = some (.iload_n 2, 25) := by decide +kernel
theorem d124_25 : dc 124 25 = some (.ifCond .le ((49 : Nat) : Int), 28) := by decide +kernel
theorem d124_28 : dc 124 28 = some (.aload_n 0, 29) := by decide +kernel
theorem d124_29 : dc 124 29 = some (.bipush 48, 31) := by decide +kernel
theorem d124_31 : dc 124 31 = some (.iload_n 1, 32) := by decide +kernel
theorem d124_32 : dc 124 32 = some (.iload_n 2, 33) := by decide +kernel
theorem d124_33 : dc 124 33 = some (.idiv, 34) := by decide +kernel
theorem d124_34 : dc 124 34 = some (.bipush 10, 36) := by decide +kernel
theorem d124_36 : dc 124 36 = some (.irem, 37) := by decide +kernel
theorem d124_37 : dc 124 37 = some (.iadd, 38) := by decide +kernel
theorem d124_38 : dc 124 38 = some (.invokevirtual 15, 41) := by decide +kernel
theorem d124_41 : dc 124 41 = some (.iload_n 2, 42) := by decide +kernel
theorem d124_42 : dc 124 42 = some (.bipush 10, 44) := by decide +kernel
theorem d124_44 : dc 124 44 = some (.idiv, 45) := by decide +kernel
theorem d124_45 : dc 124 45 = some (.istore_n 2, 46) := by decide +kernel
theorem d124_46 : dc 124 46 = some (.goto ((24 : Nat) : Int), 49) := by decide +kernel
theorem d124_0 : dc 124 0 = some (.iconst 1, 1) := by decide +kernel
theorem d124_1 : dc 124 1 = some (.istore_n 2, 2) := by decide +kernel
theorem d124_49 : dc 124 49 = some (.return_, 50) := by decide +kernel
theorem c_Row_addNumber {G : Nat → Option Nat} {d : Nat} {h : Hp} {Q : Option MV → Hp → Prop} {a n : Nat} (h1 : 1 ≤ d) (hR : RowsOk h) (ha : KD h a = 6) (hn : n ≤ 2147483647) (kk : ∀ h', RSt h h' a (addBs (cap h a) (rl h a) (dec n)) → Q none h') : Cl G d 124 [vR (some a), vI (n : Nat)] h Q := by
  show Wp G d 124 0 [some (vR (some a)), some (vI (n : Nat)), none] [] h Q
  have L2 : ∀ K, kdF n 9 0 = K ∨ K = kdF n 9 0 → K ≤ 9 → Wp G d 124 24 [some (vR (some a)), some (vI (n : Nat)), some (vI ((10 ^ K : Nat) : Int))] [] h Q := by
    intro K hK0 hK9
    have hK : kdF n 9 0 = K := hK0.elim id Eq.symm
    have L : ∀ (m : Nat) (h1 : Hp) (r : Nat), r = m → r ≤ K → RSt h h1 a (addBs (cap h a) (rl h a) (dgs n K (K - r))) → Wp G d 124 24 [some (vR (some a)), some (vI (n : Nat)), some (vI ((10 ^ r : Nat) : Int))] [] h1 Q := by
      intro m
      induction m using Nat.strongRecOn with | ind m IH => ?_
      intro h1 r hm r1 hs
      refine w_iload_n d124_24 rfl ?_
      refine w_ifle d124_25 (fun c25 => ?_) (fun c25 => ?_)
      · have := pow_rng (k := r) (by omega); omega
      · have hp := pow_rng (k := r) (by omega)
        refine w_aload_n d124_28 rfl ?_
        refine w_bipush d124_29 (by decide) ?_
        refine w_iload_n d124_31 rfl ?_
        refine w_iload_n d124_32 rfl ?_
        refine w_idiv d124_33 (by omega) ?_
        refine w_bipush d124_34 (by decide) ?_
        refine w_irem d124_36 (by omega) ?_
        refine w_iadd d124_37 (by have : ((n : Int).tdiv ((10 ^ r : Nat) : Int)).tmod 10 = ((n / 10 ^ r % 10 : Nat) : Int) := rfl; rw [this]; constructor <;> omega) ?_
        refine w_callv2 d124_38 (by omega) rfl (hs.1.kd ha (by decide)) (by simp) (Nat.le_of_ble_eq_true rfl) ?_
        refine c_Row_add hs.ok (hs.1.kd ha (by decide)) (fun h2 s2 => ?_)
        have s3 := RSt.trans hR hs s2
        rw [hs.2.1, hs.2.2 a ha] at s3
        have e : ((48 + (((n : Nat) : Int).tdiv ((10 ^ r : Nat) : Int)).tmod 10) % 256).toNat = 48 + n / 10 ^ (K - (K - r)) % 10 := by
          have e1 : (((n : Nat) : Int).tdiv ((10 ^ r : Nat) : Int)).tmod 10 = ((n / 10 ^ r % 10 : Nat) : Int) := rfl
          rw [e1, show K - (K - r) = r by omega]
          omega
        rw [e, ← addBs_snoc, ← dgs_snoc] at s3
        refine w_iload_n d124_41 rfl ?_
        refine w_bipush d124_42 (by decide) ?_
        refine w_idiv d124_44 (by omega) ?_
        refine w_istore2 d124_45 rfl ?_
        refine w_goto d124_46 ?_
        have e2 : (((10 ^ r : Nat) : Int)).tdiv 10 = ((10 ^ r / 10 : Nat) : Int) := rfl
        rw [e2]
        cases r with
        | zero =>
          refine w_iload_n d124_24 rfl ?_
          refine w_ifle d124_25 (fun c => ?_) (fun c => absurd c (by decide))
          refine w_return d124_49 ?_
          exact kk _ (by unfold dec; rw [hK]; exact s3)
        | succ r =>
          rw [show 10 ^ (r + 1) / 10 = 10 ^ r by rw [Nat.pow_succ]; omega]
          exact IH r (by omega) h2 r rfl (by omega) (by rw [show K - r = K - (r + 1) + 1 by omega]; exact s3)
    exact L _ h K rfl (Nat.le_refl _) (by rw [Nat.sub_self]; exact RSt.refl hR)
  have L : ∀ (m : Nat) (k : Nat), 9 - k = m → k ≤ 9 → kdF n 9 0 = kdF n (9 - k) k → Wp G d 124 2 [some (vR (some a)), some (vI (n : Nat)), some (vI ((10 ^ k : Nat) : Int))] [] h Q := by
    intro m
    induction m using Nat.strongRecOn with | ind m IH => ?_
    intro k hm k1 hk
    refine w_iload_n d124_2 rfl ?_
    refine w_iconst d124_3 (by decide) ?_
    refine w_icmpge d124_5 (fun c5 => ?_) (fun c5 => ?_)
    · have k9 : k = 9 := by have := pow9 (k := k); omega
      exact L2 k (Or.inl (hk.trans (by rw [k9]; rfl))) k1
    · have k8 : k < 9 := pow9.mp c5
      have hp := pow_rng k1
      refine w_iload_n d124_8 rfl ?_
      refine w_iload_n d124_9 rfl ?_
      refine w_idiv d124_10 (by omega) ?_
      refine w_bipush d124_11 (by decide) ?_
      refine w_icmplt d124_13 (fun c13 => ?_) (fun c13 => ?_)
      · have c13 : ((n / 10 ^ k : Nat) : Int) < 10 := c13
        exact L2 k (Or.inl (hk.trans (by rw [show 9 - k = (8 - k) + 1 by omega, kdF, if_neg (by omega)]))) k1
      · have c13 : 10 ≤ ((n / 10 ^ k : Nat) : Int) := c13
        refine w_iload_n d124_16 rfl ?_
        refine w_bipush d124_17 (by decide) ?_
        refine w_imul d124_19 (by have := pow_rng (k := k + 1) (by omega); rw [Nat.pow_succ] at this; constructor <;> omega) ?_
        refine w_istore2 d124_20 rfl ?_
        refine w_goto d124_21 ?_
        rw [show (((10 ^ k : Nat) : Int) * 10) = ((10 ^ (k + 1) : Nat) : Int) by rw [Nat.pow_succ]; omega]
        refine IH (9 - (k + 1)) (by omega) (k + 1) rfl (by omega) ?_
        rw [hk, show 9 - k = (9 - (k + 1)) + 1 by omega, kdF, if_pos (by omega)]
  refine w_iconst d124_0 (by decide) ?_
  refine w_istore2 d124_1 rfl ?_
  exact L _ 0 rfl (Nat.zero_le _) rfl
