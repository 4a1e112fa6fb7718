/-! rows: texts, numbers, names -/
def addBs (n : Nat) (l cs : List Nat) : List Nat := cs.foldl (addB n) l
theorem addBs_snoc (n : Nat) (l cs : List Nat) (c : Nat) : addBs n l (cs ++ [c]) = addB n (addBs n l cs) c := by unfold addBs; rw [List.foldl_append]; rfl
theorem take_succ {l : List Nat} {i : Nat} (h : i < l.length) : l.take (i + 1) = l.take i ++ [l.getD i 0] := by
  rw [List.take_add_one, List.getD_eq_getElem?_getD, List.getElem?_eq_getElem h]
  rfl
theorem RSt.ok {h h' : Hp} {a : Nat} {l : List Nat} (x : RSt h h' a l) : RowsOk h' := x.1.1
theorem d84_2 : dc 84 2 = some (.iload_n 2, 3) := by decide +kernel
theorem d84_3 : dc 84 3 = some (.aload_n 1, 4) := by decide +kernel
theorem d84_4 : dc 84 4 = some (.invokevirtual 21, 7) := by decide +kernel
theorem d84_7 : dc 84 7 = some (.if_icmp .ge ((25 : Nat) : Int), 10) := by decide +kernel
theorem d84_10 : dc 84 10 = some (.aload_n 0, 11) := by decide +kernel
theorem d84_11 : dc 84 11 = some (.aload_n 1, 12) := by decide +kernel
theorem d84_12 : dc 84 12 = some (.iload_n 2, 13) := by decide +kernel
theorem d84_13 : dc 84 13 = some (.invokevirtual 24, 16) := by decide +kernel
theorem d84_16 : dc 84 16 = some (.invokevirtual 15, 19) := by decide +kernel
theorem d84_19 : dc 84 19 = some (.iinc 2 1, 22) := by decide +kernel
theorem d84_22 : dc 84 22 = some (.goto ((2 : Nat) : Int), 25) := by decide +kernel
theorem d84_25 : dc 84 25 = some (.return_, 26) := by decide +kernel
theorem d84_0 : dc 84 0 = some (.iconst 0, 1) := by decide +kernel
theorem d84_1 : dc 84 1 = some (.istore_n 2, 2) := by decide +kernel
theorem c_Row_addText {G : Nat → Option Nat} {d : Nat} {h : Hp} {Q : Option MV → Hp → Prop} {a g : Nat} {bs : List Nat} (h1 : 4 ≤ d) (hR : RowsOk h) (ha : KD h a = 6) (hS : St h g bs) (kk : ∀ h', RSt h h' a (addBs (cap h a) (rl h a) bs) → Q none h') : Cl G d 84 [vR (some a), vR (some g)] h Q := by
  show Wp G d 84 0 [some (vR (some a)), some (vR (some g)), none] [] h Q
  obtain ⟨v, x3, x4, x5, x6, x7, x8⟩ := hS.2.2
  have L : ∀ (m : Nat) (h1 : Hp) (i : Nat), bs.length - i = m → i ≤ bs.length → RSt h h1 a (addBs (cap h a) (rl h a) (bs.take i)) → Wp G d 84 2 [some (vR (some a)), some (vR (some g)), some (vI (i : Int))] [] h1 Q := by
    intro m
    induction m using Nat.strongRecOn with | ind m IH => ?_
    intro h1 i hm hi hs
    have hS1 := hS.rst hR hs.1.2.1
    refine w_iload_n d84_2 rfl ?_
    refine w_aload_n d84_3 rfl ?_
    refine w_callv1 d84_4 (by omega) rfl hS1.1 (by simp) (Nat.le_of_ble_eq_true rfl) ?_
    refine c_Str_length (by omega) hS1 ?_
    refine w_icmpge d84_7 (fun c7 => ?_) (fun c7 => ?_)
    · refine w_return d84_25 ?_
      exact kk _ (by rw [List.take_of_length_le (by omega)] at hs; exact hs)
    · refine w_aload_n d84_10 rfl ?_
      refine w_aload_n d84_11 rfl ?_
      refine w_iload_n d84_12 rfl ?_
      refine w_callv2 d84_13 (by omega) rfl hS1.1 (by simp) (Nat.le_of_ble_eq_true rfl) ?_
      refine c_Str_charAt (by omega) hS1 ⟨by omega, c7⟩ ?_
      refine w_callv2 d84_16 (by omega) rfl (hs.1.kd ha (by decide)) (by simp) (Nat.le_of_ble_eq_true rfl) ?_
      refine c_Row_add hs.ok (hs.1.kd ha (by decide)) (fun h2 s2 => ?_)
      refine w_iinc2 d84_19 rfl (by constructor <;> omega) ?_
      refine w_goto d84_22 ?_
      refine IH (bs.length - (i + 1)) (by omega) h2 (i + 1) rfl (by omega) ?_
      rw [take_succ (by omega), addBs_snoc]
      have s3 := RSt.trans hR hs s2
      rw [hs.2.1, hs.2.2 a ha] at s3
      have e : (((bs.getD ((i : Int)).toNat 0 : Nat) : Int) % 256).toNat = bs.getD i 0 := by
        have := x7 i (by omega)
        show (((bs.getD i 0 : Nat) : Int) % 256).toNat = _
        omega
      rw [e] at s3
      exact s3
  refine w_iconst d84_0 (by decide) ?_
  refine w_istore2 d84_1 rfl ?_
  exact L _ h 0 rfl (by omega) (RSt.refl hR)
