/-! rows: names and longs are told -/
theorem andJ {W : UInt64} {q : Nat} (m : Int) (hm : (i32 m).toBitVec = BitVec.ofNat 32 (2 ^ q - 1)) (hq : q < 9) : (W.toInt64.toInt32 &&& i32 m).toInt = ((W.toNat % 2 ^ q : Nat) : Int) := by
  show BitVec.toInt (W.toInt64.toInt32.toBitVec &&& (i32 m).toBitVec) = _
  have hb : 2 ^ q ≤ 256 := Nat.pow_le_pow_right (by decide) (show q ≤ 8 by omega)
  have hp : 0 < 2 ^ q := Nat.pow_pos (by decide)
  have hw : W.toInt64.toInt32.toBitVec.toNat = W.toNat % 4294967296 := by
    show (W.toBitVec.signExtend 32).toNat = _
    rw [BitVec.signExtend_eq_setWidth_of_le _ (by decide), BitVec.toNat_setWidth]
    rfl
  have h1 : (W.toInt64.toInt32.toBitVec &&& (i32 m).toBitVec).toNat = W.toNat % 2 ^ q := by
    rw [BitVec.toNat_and, hm, BitVec.toNat_ofNat, Nat.mod_eq_of_lt (a := 2 ^ q - 1) (by omega), Nat.and_two_pow_sub_one_eq_mod, hw]
    refine Nat.mod_mod_of_dvd _ ?_
    exact (show (2 : Nat) ^ 32 = 4294967296 by decide) ▸ Nat.pow_dvd_pow 2 (show q ≤ 32 by omega)
  have h2 : W.toNat % 2 ^ q < 256 := Nat.lt_of_lt_of_le (Nat.mod_lt _ hp) hb
  rw [BitVec.toInt_eq_toNat_of_lt (by rw [h1]; omega), h1]
theorem sh63 : ∀ s : Fin 64, ((i32 (s.val : Int)).toInt64.toUInt64 &&& Int64.toUInt64 63).toNat % 64 = s.val := by decide
/-- a piece of a long -/
def pcJ (x : Int64) (s q : Nat) : Nat := x.toUInt64.toNat / 2 ^ s % 2 ^ q
theorem pcJ_ok {x : Int64} {s q : Nat} (m : Int) (hm : (i32 m).toBitVec = BitVec.ofNat 32 (2 ^ q - 1)) (hq : q < 9) (hs : s < 64) : (i32 ((x.toUInt64 >>> ((i32 (s : Int)).toInt64.toUInt64 &&& Int64.toUInt64 63)).toInt64).toInt32.toInt &&& i32 m).toInt = (pcJ x s q : Int) := by
  rw [i32_of, andJ m hm hq, UInt64.toNat_shiftRight, sh63 ⟨s, hs⟩, Nat.shiftRight_eq_div_pow]
  rfl
/-- the signs of a name -/
def nmB (x : Int64) (j : Nat) : List Nat := ((List.range j).map fun i => pcJ x (56 - 8 * i) 8).filter (· != 0)
theorem nmB_snoc (x : Int64) (j : Nat) : nmB x (j + 1) = nmB x j ++ (if pcJ x (56 - 8 * j) 8 = 0 then [] else [pcJ x (56 - 8 * j) 8]) := by
  unfold nmB
  rw [List.range_succ, List.map_append, List.filter_append, List.map_singleton]
  by_cases h : pcJ x (56 - 8 * j) 8 = 0
  · rw [if_pos h]; simp [h]
  · rw [if_neg h]; simp [h]
def hexd (v : Nat) : Nat := if v < 10 then 48 + v else 87 + v
def hxB (x : Int64) (j : Nat) : List Nat := (List.range j).map fun i => hexd (pcJ x (60 - 4 * i) 4)
theorem hxB_snoc (x : Int64) (j : Nat) : hxB x (j + 1) = hxB x j ++ [hexd (pcJ x (60 - 4 * j) 4)] := by unfold hxB; rw [List.range_succ, List.map_append]; rfl
theorem pcJ_lt (x : Int64) (s q : Nat) : pcJ x s q < 2 ^ q := Nat.mod_lt _ (Nat.pow_pos (by decide))
theorem d104_3 : dc 104 3 = some (.iload_n 3, 4) := by decide +kernel
theorem d104_4 : dc 104 4 = some (.ifCond .lt ((34 : Nat) : Int), 7) := by decide +kernel
theorem d104_7 : dc 104 7 = some (.lload_n 1, 8) := by decide +kernel
theorem d104_8 : dc 104 8 = some (.iload_n 3, 9) := by decide +kernel
theorem d104_9 : dc 104 9 = some (.lushr, 10) := by decide +kernel
theorem d104_10 : dc 104 10 = some (.l2i, 11) := by decide +kernel
theorem d104_11 : dc 104 11 = some (.sipush 255, 14) := by decide +kernel
theorem d104_14 : dc 104 14 = some (.iand, 15) := by decide +kernel
theorem d104_15 : dc 104 15 = some (.istore 4, 17) := by decide +kernel
theorem d104_17 : dc 104 17 = some (.iload 4, 19) := by decide +kernel
theorem d104_19 : dc 104 19 = some (.ifCond .eq ((28 : Nat) : Int), 22) := by decide +kernel
theorem d104_22 : dc 104 22 = some (.aload_n 0, 23) := by decide +kernel
theorem d104_23 : dc 104 23 = some (.iload 4, 25) := by decide +kernel
theorem d104_25 : dc 104 25 = some (.invokevirtual 15, 28) := by decide +kernel
theorem d104_34 : dc 104 34 = some (.return_, 35) := by decide +kernel
theorem d104_0 : dc 104 0 = some (.bipush 56, 2) := by decide +kernel
theorem d104_2 : dc 104 2 = some (.istore_n 3, 3) := by decide +kernel
theorem d104_28 : dc 104 28 = some (.iinc 3 (-8), 31) := by decide +kernel
theorem d104_31 : dc 104 31 = some (.goto ((3 : Nat) : Int), 34) := by decide +kernel
theorem c_Row_addName {G : Nat → Option Nat} {d : Nat} {h : Hp} {Q : Option MV → Hp → Prop} {a : Nat} {x : Int64} (h1 : 1 ≤ d) (hR : RowsOk h) (ha : KD h a = 6) (kk : ∀ h', RSt h h' a (addBs (cap h a) (rl h a) (nmB x 8)) → Q none h') : Cl G d 104 [vR (some a), vJ x] h Q := by
  show Wp G d 104 0 [some (vR (some a)), some (vJ x), none, none, none] [] h Q
  have L : ∀ (m : Nat) (h1 : Hp) (j : Nat), 8 - j = m → j ≤ 8 → RSt h h1 a (addBs (cap h a) (rl h a) (nmB x j)) → Wp G d 104 3 [some (vR (some a)), some (vJ x), none, some (vI (56 - 8 * ((j : Nat) : Int))), none] [] h1 Q := by
    intro m
    induction m using Nat.strongRecOn with | ind m IH => ?_
    intro h1 j hm j1 hs
    refine w_iload_n d104_3 rfl ?_
    refine w_iflt d104_4 (fun c4 => ?_) (fun c4 => ?_)
    · refine w_return d104_34 ?_
      exact kk _ ((show j = 8 by omega) ▸ hs)
    · have hj : j < 8 := by omega
      refine w_lload_n d104_7 rfl ?_
      refine w_iload_n d104_8 rfl ?_
      refine w_lushr d104_9 ?_
      refine w_l2i d104_10 ?_
      refine w_sipush d104_11 (by decide) ?_
      refine w_iand d104_14 ?_
      have ev := pcJ_ok (x := x) (s := 56 - 8 * j) (q := 8) 255 (by decide) (by decide) (by omega)
      rw [show (56 - 8 * ((j : Nat) : Int)) = ((56 - 8 * j : Nat) : Int) by omega, ev]
      have hlt := pcJ_lt x (56 - 8 * j) 8
      refine w_istore4 d104_15 rfl ?_
      refine w_iload d104_17 rfl ?_
      refine w_ifeq d104_19 (fun c19 => ?_) (fun c19 => ?_)
      · have e0 : pcJ x (56 - 8 * j) 8 = 0 := by omega
        refine w_iinc3 d104_28 rfl (by constructor <;> omega) ?_
        refine w_goto d104_31 ?_
        rw [show ((56 - 8 * j : Nat) : Int) + (-8) = 56 - 8 * (((j + 1 : Nat)) : Int) by omega]
        refine w_less ?_ (IH (8 - (j + 1)) (by omega) h1 (j + 1) rfl (by omega) (by rw [nmB_snoc, if_pos e0, List.append_nil]; exact hs))
        exact ⟨Or.inr rfl, Or.inr rfl, Or.inr rfl, Or.inr rfl, Or.inl rfl, trivial⟩
      · refine w_aload_n d104_22 rfl ?_
        refine w_iload d104_23 rfl ?_
        refine w_callv2 d104_25 (by omega) rfl (hs.1.kd ha (by decide)) (by simp) (Nat.le_of_ble_eq_true rfl) ?_
        refine c_Row_add hs.ok (hs.1.kd ha (by decide)) (fun h2 s2 => ?_)
        have s3 := RSt.trans hR hs s2
        rw [hs.2.1, hs.2.2 a ha, show (((pcJ x (56 - 8 * j) 8 : Nat) : Int) % 256).toNat = pcJ x (56 - 8 * j) 8 by omega, ← addBs_snoc] at s3
        refine w_iinc3 d104_28 rfl (by constructor <;> omega) ?_
        refine w_goto d104_31 ?_
        rw [show ((56 - 8 * j : Nat) : Int) + (-8) = 56 - 8 * (((j + 1 : Nat)) : Int) by omega]
        refine w_less ?_ (IH (8 - (j + 1)) (by omega) h2 (j + 1) rfl (by omega) (by rw [nmB_snoc, if_neg (by omega)]; exact s3))
        exact ⟨Or.inr rfl, Or.inr rfl, Or.inr rfl, Or.inr rfl, Or.inl rfl, trivial⟩
  refine w_bipush d104_0 (by decide) ?_
  refine w_istore3 d104_2 rfl ?_
  exact L _ h 0 rfl (Nat.zero_le _) (RSt.refl hR)
theorem d125_3 : dc 125 3 = some (.iload_n 3, 4) := by decide +kernel
theorem d125_4 : dc 125 4 = some (.ifCond .lt ((49 : Nat) : Int), 7) := by decide +kernel
theorem d125_7 : dc 125 7 = some (.lload_n 1, 8) := by decide +kernel
theorem d125_8 : dc 125 8 = some (.iload_n 3, 9) := by decide +kernel
theorem d125_9 : dc 125 9 = some (.lushr, 10) := by decide +kernel
theorem d125_10 : dc 125 10 = some (.l2i, 11) := by decide +kernel
theorem d125_11 : dc 125 11 = some (.bipush 15, 13) := by decide +kernel
theorem d125_13 : dc 125 13 = some (.iand, 14) := by decide +kernel
theorem d125_14 : dc 125 14 = some (.istore 4, 16) := by decide +kernel
theorem d125_16 : dc 125 16 = some (.aload_n 0, 17) := by decide +kernel
theorem d125_17 : dc 125 17 = some (.iload 4, 19) := by decide +kernel
theorem d125_19 : dc 125 19 = some (.bipush 10, 21) := by decide +kernel
theorem d125_21 : dc 125 21 = some (.if_icmp .ge ((32 : Nat) : Int), 24) := by decide +kernel
theorem d125_24 : dc 125 24 = some (.bipush 48, 26) := by decide +kernel
theorem d125_26 : dc 125 26 = some (.iload 4, 28) := by decide +kernel
theorem d125_28 : dc 125 28 = some (.iadd, 29) := by decide +kernel
theorem d125_29 : dc 125 29 = some (.goto ((40 : Nat) : Int), 32) := by decide +kernel
theorem d125_32 : dc 125 32 = some (.bipush 97, 34) := by decide +kernel
theorem d125_34 : dc 125 34 = some (.iload 4, 36) := by decide +kernel
theorem d125_36 : dc 125 36 = some (.iadd, 37) := by decide +kernel
theorem d125_37 : dc 125 37 = some (.bipush 10, 39) := by decide +kernel
theorem d125_39 : dc 125 39 = some (.isub, 40) := by decide +kernel
theorem d125_40 : dc 125 40 = some (.invokevirtual 15, 43) := by decide +kernel
theorem d125_49 : dc 125 49 = some (.return_, 50) := by decide +kernel
theorem d125_0 : dc 125 0 = some (.bipush 60, 2) := by decide +kernel
theorem d125_2 : dc 125 2 = some (.istore_n 3, 3) := by decide +kernel
theorem d125_43 : dc 125 43 = some (.iinc 3 (-4), 46) := by decide +kernel
theorem d125_46 : dc 125 46 = some (.goto ((3 : Nat) : Int), 49) := by decide +kernel
theorem c_Row_addHex {G : Nat → Option Nat} {d : Nat} {h : Hp} {Q : Option MV → Hp → Prop} {a : Nat} {x : Int64} (h1 : 1 ≤ d) (hR : RowsOk h) (ha : KD h a = 6) (kk : ∀ h', RSt h h' a (addBs (cap h a) (rl h a) (hxB x 16)) → Q none h') : Cl G d 125 [vR (some a), vJ x] h Q := by
  show Wp G d 125 0 [some (vR (some a)), some (vJ x), none, none, none] [] h Q
  have L : ∀ (m : Nat) (h1 : Hp) (j : Nat), 16 - j = m → j ≤ 16 → RSt h h1 a (addBs (cap h a) (rl h a) (hxB x j)) → Wp G d 125 3 [some (vR (some a)), some (vJ x), none, some (vI (60 - 4 * ((j : Nat) : Int))), none] [] h1 Q := by
    intro m
    induction m using Nat.strongRecOn with | ind m IH => ?_
    intro h1 j hm j1 hs
    refine w_iload_n d125_3 rfl ?_
    refine w_iflt d125_4 (fun c4 => ?_) (fun c4 => ?_)
    · refine w_return d125_49 ?_
      exact kk _ ((show j = 16 by omega) ▸ hs)
    · have hj : j < 16 := by omega
      refine w_lload_n d125_7 rfl ?_
      refine w_iload_n d125_8 rfl ?_
      refine w_lushr d125_9 ?_
      refine w_l2i d125_10 ?_
      refine w_bipush d125_11 (by decide) ?_
      refine w_iand d125_13 ?_
      have ev := pcJ_ok (x := x) (s := 60 - 4 * j) (q := 4) 15 (by decide) (by decide) (by omega)
      rw [show (60 - 4 * ((j : Nat) : Int)) = ((60 - 4 * j : Nat) : Int) by omega, ev]
      have hlt := pcJ_lt x (60 - 4 * j) 4
      refine w_istore4 d125_14 rfl ?_
      refine w_aload_n d125_16 rfl ?_
      refine w_iload d125_17 rfl ?_
      refine w_bipush d125_19 (by decide) ?_
      refine w_icmpge d125_21 (fun c21 => ?_) (fun c21 => ?_)
      · refine w_bipush d125_32 (by decide) ?_
        refine w_iload d125_34 rfl ?_
        refine w_iadd d125_36 (by constructor <;> omega) ?_
        refine w_bipush d125_37 (by decide) ?_
        refine w_isub d125_39 (by constructor <;> omega) ?_
        refine w_callv2 d125_40 (by omega) rfl (hs.1.kd ha (by decide)) (by simp) (Nat.le_of_ble_eq_true rfl) ?_
        refine c_Row_add hs.ok (hs.1.kd ha (by decide)) (fun h2 s2 => ?_)
        have s3 := RSt.trans hR hs s2
        have ec : ((97 + ((pcJ x (60 - 4 * j) 4 : Nat) : Int) - 10) % 256).toNat = hexd (pcJ x (60 - 4 * j) 4) := by unfold hexd; split <;> omega
        rw [hs.2.1, hs.2.2 a ha, ec, ← addBs_snoc, ← hxB_snoc] at s3
        refine w_iinc3 d125_43 rfl (by constructor <;> omega) ?_
        refine w_goto d125_46 ?_
        rw [show ((60 - 4 * j : Nat) : Int) + (-4) = 60 - 4 * (((j + 1 : Nat)) : Int) by omega]
        refine w_less ?_ (IH (16 - (j + 1)) (by omega) h2 (j + 1) rfl (by omega) s3)
        exact ⟨Or.inr rfl, Or.inr rfl, Or.inr rfl, Or.inr rfl, Or.inl rfl, trivial⟩
      · refine w_bipush d125_24 (by decide) ?_
        refine w_iload d125_26 rfl ?_
        refine w_iadd d125_28 (by constructor <;> omega) ?_
        refine w_goto d125_29 ?_
        refine w_callv2 d125_40 (by omega) rfl (hs.1.kd ha (by decide)) (by simp) (Nat.le_of_ble_eq_true rfl) ?_
        refine c_Row_add hs.ok (hs.1.kd ha (by decide)) (fun h2 s2 => ?_)
        have s3 := RSt.trans hR hs s2
        have ec : ((48 + ((pcJ x (60 - 4 * j) 4 : Nat) : Int)) % 256).toNat = hexd (pcJ x (60 - 4 * j) 4) := by unfold hexd; split <;> omega
        rw [hs.2.1, hs.2.2 a ha, ec, ← addBs_snoc, ← hxB_snoc] at s3
        refine w_iinc3 d125_43 rfl (by constructor <;> omega) ?_
        refine w_goto d125_46 ?_
        rw [show ((60 - 4 * j : Nat) : Int) + (-4) = 60 - 4 * (((j + 1 : Nat)) : Int) by omega]
        refine w_less ?_ (IH (16 - (j + 1)) (by omega) h2 (j + 1) rfl (by omega) s3)
        exact ⟨Or.inr rfl, Or.inr rfl, Or.inr rfl, Or.inr rfl, Or.inl rfl, trivial⟩
  refine w_bipush d125_0 (by decide) ?_
  refine w_istore3 d125_2 rfl ?_
  exact L _ h 0 rfl (Nat.zero_le _) (RSt.refl hR)
