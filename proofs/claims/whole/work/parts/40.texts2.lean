/-! texts: indexOf -/
/-- the first place from i on, before n, where c stands; -1 where there is none -/
def idxF (bs : List Nat) (c n : Nat) (i : Nat) : Int := if i < n then (if bs.getD i 0 = c then (i : Int) else idxF bs c n (i + 1)) else -1
termination_by n - i
theorem i2b_id {x : Int} (h : 0 ≤ x ∧ x < 128) : (i32 x).toInt8.toInt32.toInt = x := by
  have := i8_rng x
  have h2 := u8_s x
  unfold u8 at h2
  omega
theorem d201_0 : dc 201 0 = some (.iload_n 0, 1) := by decide +kernel
theorem d201_1 : dc 201 1 = some (.ifCond .lt ((15 : Nat) : Int), 4) := by decide +kernel
theorem d201_4 : dc 201 4 = some (.iload_n 0, 5) := by decide +kernel
theorem d201_5 : dc 201 5 = some (.sipush 255, 8) := by decide +kernel
theorem d201_8 : dc 201 8 = some (.if_icmp .gt ((15 : Nat) : Int), 11) := by decide +kernel
theorem d201_11 : dc 201 11 = some (.iconst 1, 12) := by decide +kernel
theorem d201_12 : dc 201 12 = some (.goto ((16 : Nat) : Int), 15) := by decide +kernel
theorem d201_16 : dc 201 16 = some (.freturn, 17) := by decide +kernel
theorem c_Lat_canEncode {G : Nat → Option Nat} {d : Nat} {h : Hp} {Q : Option MV → Hp → Prop} {c : Int} (hc : 0 ≤ c ∧ c ≤ 255) (kk : Q (some (vI 1)) h) : Cl G d 201 [vI c] h Q := by
  show Wp G d 201 0 [some (vI c)] [] h Q
  refine w_iload_n d201_0 rfl ?_
  refine w_iflt d201_1 (fun c1 => ?_) (fun c1 => ?_)
  · omega
  · refine w_iload_n d201_4 rfl ?_
    refine w_sipush d201_5 (by decide) ?_
    refine w_icmpgt d201_8 (fun c8 => ?_) (fun c8 => ?_)
    · omega
    · refine w_iconst d201_11 (by decide) ?_
      refine w_goto d201_12 ?_
      refine w_zreturn d201_16 (by decide) ?_
      exact kk
theorem d202_7 : dc 202 7 = some (.iload 5, 9) := by decide +kernel
theorem d202_9 : dc 202 9 = some (.iload_n 3, 10) := by decide +kernel
theorem d202_10 : dc 202 10 = some (.if_icmp .ge ((31 : Nat) : Int), 13) := by decide +kernel
theorem d202_13 : dc 202 13 = some (.aload_n 0, 14) := by decide +kernel
theorem d202_14 : dc 202 14 = some (.iload 5, 16) := by decide +kernel
theorem d202_16 : dc 202 16 = some (.baload, 17) := by decide +kernel
theorem d202_17 : dc 202 17 = some (.iload 4, 19) := by decide +kernel
theorem d202_19 : dc 202 19 = some (.if_icmp .ne ((25 : Nat) : Int), 22) := by decide +kernel
theorem d202_22 : dc 202 22 = some (.iload 5, 24) := by decide +kernel
theorem d202_24 : dc 202 24 = some (.ireturn, 25) := by decide +kernel
theorem d202_25 : dc 202 25 = some (.iinc 5 1, 28) := by decide +kernel
theorem d202_28 : dc 202 28 = some (.goto ((7 : Nat) : Int), 31) := by decide +kernel
theorem d202_31 : dc 202 31 = some (.iconst (-1), 32) := by decide +kernel
theorem d202_32 : dc 202 32 = some (.ireturn, 33) := by decide +kernel
theorem d202_0 : dc 202 0 = some (.iload_n 1, 1) := by decide +kernel
theorem d202_1 : dc 202 1 = some (.i2b, 2) := by decide +kernel
theorem d202_2 : dc 202 2 = some (.istore 4, 4) := by decide +kernel
theorem d202_4 : dc 202 4 = some (.iload_n 2, 5) := by decide +kernel
theorem d202_5 : dc 202 5 = some (.istore 5, 7) := by decide +kernel
theorem c_Lat_indexOfChar {G : Nat → Option Nat} {d : Nat} {h : Hp} {Q : Option MV → Hp → Prop} {v c f : Nat} {bs : List Nat} (hc : c < 128) (hf : f ≤ bs.length) (x4 : KD h v = 81) (x5 : LN h v = bs.length) (x6 : ∀ j, j < bs.length → AI h v j = (bs.getD j 0 : Nat)) (x8 : bs.length ≤ 300) (kk : Q (some (vI (idxF bs c bs.length f))) h) : Cl G d 202 [vR (some v), vI (c : Nat), vI (f : Nat), vI (bs.length : Nat)] h Q := by
  show Wp G d 202 0 [some (vR (some v)), some (vI (c : Nat)), some (vI (f : Nat)), some (vI (bs.length : Nat)), none, none] [] h Q
  have L : ∀ (m : Nat) (i : Nat), bs.length - i = m → i ≤ bs.length → idxF bs c bs.length f = idxF bs c bs.length i → Wp G d 202 7 [some (vR (some v)), some (vI (c : Nat)), some (vI (f : Nat)), some (vI (bs.length : Nat)), some (vI (c : Nat)), some (vI (i : Nat))] [] h Q := by
    intro m
    induction m using Nat.strongRecOn with | ind m IH => ?_
    intro i hm i1 hi
    refine w_iload d202_7 rfl ?_
    refine w_iload_n d202_9 rfl ?_
    refine w_icmpge d202_10 (fun c10 => ?_) (fun c10 => ?_)
    · refine w_iconst d202_31 (by decide) ?_
      refine w_ireturn d202_32 ?_
      exact qI (by rw [hi, idxF, if_neg (by omega)]) kk
    · have e6 := x6 i (by omega)
      refine w_aload_n d202_13 rfl ?_
      refine w_iload d202_14 rfl ?_
      refine w_baload d202_16 ⟨by rw [x4]; rfl, by omega, by omega⟩ ?_
      refine w_iload d202_17 rfl ?_
      refine w_icmpne d202_19 (fun c19 => ?_) (fun c19 => ?_)
      · have c19 : AI h v i ≠ (c : Nat) := c19
        refine w_iinc5 d202_25 rfl (by constructor <;> omega) ?_
        refine w_goto d202_28 ?_
        exact IH (bs.length - (i + 1)) (by omega) (i + 1) rfl (by omega) (by rw [hi, idxF, if_pos (by omega), if_neg (by omega)])
      · have c19 : AI h v i = (c : Nat) := c19
        refine w_iload d202_22 rfl ?_
        refine w_ireturn d202_24 ?_
        exact qI (by rw [hi, idxF, if_pos (by omega), if_pos (by omega)]) kk
  refine w_iload_n d202_0 rfl ?_
  refine w_i2b d202_1 ?_
  refine w_istore4 d202_2 rfl ?_
  refine w_iload_n d202_4 rfl ?_
  refine w_istore5 d202_5 rfl ?_
  rw [i2b_id (by omega)]
  exact L _ f rfl hf rfl
