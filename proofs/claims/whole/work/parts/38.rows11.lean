/-! rows: the bytes of an int, of a name, the digits of a long -/
theorem and255 {Y : UInt32} : (Y.toInt32 &&& i32 255).toInt = ((Y.toNat % 256 : Nat) : Int) := by
  show BitVec.toInt (Y.toBitVec &&& 255#32) = _
  have h1 : (Y.toBitVec &&& 255#32).toNat = Y.toNat % 256 := by
    rw [BitVec.toNat_and]
    exact Nat.and_two_pow_sub_one_eq_mod Y.toNat 8
  rw [BitVec.toInt_eq_toNat_of_lt (by rw [h1]; omega), h1]
theorem sh31 : ∀ s : Fin 32, ((i32 (s.val : Int)).toUInt32 &&& Int32.toUInt32 31).toNat % 32 = s.val := by decide
theorem u32_n (n : Int) : (i32 n).toUInt32.toNat = (n % 4294967296).toNat := by
  show (BitVec.ofInt 32 n).toNat = _
  rw [BitVec.toNat_ofInt]
  rfl
/-- a byte of an int -/
def byI (n : Int) (s : Nat) : Nat := (n % 4294967296).toNat / 2 ^ s % 256
theorem byI_ok {n : Int} {s : Nat} (hs : s < 32) : (i32 ((i32 n).toUInt32 >>> ((i32 (s : Int)).toUInt32 &&& Int32.toUInt32 31)).toInt32.toInt &&& i32 255).toInt = (byI n s : Int) := by
  rw [i32_of, and255, UInt32.toNat_shiftRight, sh31 ⟨s, hs⟩, u32_n, Nat.shiftRight_eq_div_pow]
  rfl
def by4 (n : Int) : List Nat := (List.range 4).map fun j => byI n (24 - 8 * j)
theorem by4_at {n : Int} {j : Nat} (h : j < 4) : (by4 n).take (j + 1) = (by4 n).take j ++ [byI n (24 - 8 * j)] := by
  rw [take_succ (by simpa [by4] using h)]
  congr 2
  rw [List.getD_eq_getElem?_getD, List.getElem?_eq_getElem (by simpa [by4] using h)]
  simp [by4]
theorem d14_3 : dc 14 3 = some (.iload_n 2, 4) := by decide +kernel
theorem d14_4 : dc 14 4 = some (.ifCond .lt ((24 : Nat) : Int), 7) := by decide +kernel
theorem d14_7 : dc 14 7 = some (.aload_n 0, 8) := by decide +kernel
theorem d14_8 : dc 14 8 = some (.iload_n 1, 9) := by decide +kernel
theorem d14_9 : dc 14 9 = some (.iload_n 2, 10) := by decide +kernel
theorem d14_10 : dc 14 10 = some (.iushr, 11) := by decide +kernel
theorem d14_11 : dc 14 11 = some (.sipush 255, 14) := by decide +kernel
theorem d14_14 : dc 14 14 = some (.iand, 15) := by decide +kernel
theorem d14_15 : dc 14 15 = some (.invokevirtual 15, 18) := by decide +kernel
theorem d14_18 : dc 14 18 = some (.iinc 2 (-8), 21) := by decide +kernel
theorem d14_21 : dc 14 21 = some (.goto ((3 : Nat) : Int), 24) := by decide +kernel
theorem d14_24 : dc 14 24 = some (.return_, 25) := by decide +kernel
theorem d14_0 : dc 14 0 = some (.bipush 24, 2) := by decide +kernel
theorem d14_2 : dc 14 2 = some (.istore_n 2, 3) := by decide +kernel
theorem c_Row_addInt {G : Nat → Option Nat} {d : Nat} {h : Hp} {Q : Option MV → Hp → Prop} {a : Nat} {n : Int} (h1 : 1 ≤ d) (hR : RowsOk h) (ha : KD h a = 6) (kk : ∀ h', RSt h h' a (addBs (cap h a) (rl h a) (by4 n)) → Q none h') : Cl G d 14 [vR (some a), vI n] h Q := by
  show Wp G d 14 0 [some (vR (some a)), some (vI n), none] [] h Q
  have L : ∀ (m : Nat) (h1 : Hp) (j : Nat), 4 - j = m → j ≤ 4 → RSt h h1 a (addBs (cap h a) (rl h a) ((by4 n).take j)) → Wp G d 14 3 [some (vR (some a)), some (vI n), some (vI (24 - 8 * ((j : Nat) : Int)))] [] h1 Q := by
    intro m
    induction m using Nat.strongRecOn with | ind m IH => ?_
    intro h1 j hm j1 hs
    refine w_iload_n d14_3 rfl ?_
    refine w_iflt d14_4 (fun c4 => ?_) (fun c4 => ?_)
    · refine w_return d14_24 ?_
      exact kk _ (by rw [List.take_of_length_le (by simp [by4]; omega)] at hs; exact hs)
    · have hj : j < 4 := by omega
      refine w_aload_n d14_7 rfl ?_
      refine w_iload_n d14_8 rfl ?_
      refine w_iload_n d14_9 rfl ?_
      refine w_iushr d14_10 ?_
      refine w_sipush d14_11 (by decide) ?_
      refine w_iand d14_14 ?_
      refine w_callv2 d14_15 (by omega) rfl (hs.1.kd ha (by decide)) (by simp) (Nat.le_of_ble_eq_true rfl) ?_
      refine c_Row_add hs.ok (hs.1.kd ha (by decide)) (fun h2 s2 => ?_)
      have s3 := RSt.trans hR hs s2
      rw [hs.2.1, hs.2.2 a ha] at s3
      have e : ((i32 ((i32 n).toUInt32 >>> ((i32 (24 - 8 * ((j : Nat) : Int))).toUInt32 &&& Int32.toUInt32 31)).toInt32.toInt &&& i32 255).toInt % 256).toNat = byI n (24 - 8 * j) := by
        rw [show (24 - 8 * ((j : Nat) : Int)) = ((24 - 8 * j : Nat) : Int) by omega, byI_ok (by omega)]
        unfold byI
        omega
      rw [e, ← addBs_snoc, ← by4_at hj] at s3
      refine w_iinc2 d14_18 rfl (by constructor <;> omega) ?_
      refine w_goto d14_21 ?_
      rw [show (24 - 8 * ((j : Nat) : Int)) + (-8) = 24 - 8 * (((j + 1 : Nat)) : Int) by omega]
      exact IH (4 - (j + 1)) (by omega) h2 (j + 1) rfl (by omega) s3
  refine w_bipush d14_0 (by decide) ?_
  refine w_istore2 d14_2 rfl ?_
  exact L _ h 0 rfl (Nat.zero_le _) (RSt.refl hR)
