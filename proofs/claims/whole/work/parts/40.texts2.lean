/-! texts: indexOf -/
/-- the first place from i on, before n, where c stands; -1 where there is none -/
def idxF (bs : List Nat) (c n : Nat) (i : Nat) : Int := if i < n then (if bs.getD i 0 = c then (i : Int) else idxF bs c n (i + 1)) else -1
termination_by n - i
theorem i2b_id {x : Int} (h : 0 ≤ x ∧ x < 128) : (i32 x).toInt8.toInt32.toInt = x := by
  have := i8_rng x
  have h2 := u8_s x
  unfold u8 at h2
  omega
theorem d201_0 : dc 201 0 = some (.iload_n 0, 1) := by decide +kernel
theorem d201_1 : dc 201 1 = some (.ifCond .lt ((15 : Nat) : Int), 4) := by decide +kernel
theorem d201_4 : dc 201 4 = some (.iload_n 0, 5) := by decide +kernel
theorem d201_5 : dc 201 5 = some (.sipush 255, 8) := by decide +kernel
theorem d201_8 : dc 201 8 = some (.if_icmp .gt ((15 : Nat) : Int), 11) := by decide +kernel
theorem d201_11 : dc 201 11 = some (.iconst 1, 12) := by decide +kernel
theorem d201_12 : dc 201 12 = some (.goto ((16 : Nat) : Int), 15) := by decide +kernel
theorem d201_16 : dc 201 16 = some (.freturn, 17) := by decide +kernel
theorem c_Lat_canEncode {G : Nat → Option Nat} {d : Nat} {h : Hp} {Q : Option MV → Hp → Prop} {c : Int} (hc : 0 ≤ c ∧ c ≤ 255) (kk : Q (some (vI 1)) h) : Cl G d 201 [vI c] h Q := by
  show Wp G d 201 0 [some (vI c)] [] h Q
  refine w_iload_n d201_0 rfl ?_
  refine w_iflt d201_1 (fun c1 => ?_) (fun c1 => ?_)
  · omega
  · refine w_iload_n d201_4 rfl ?_
    refine w_sipush d201_5 (by decide) ?_
    refine w_icmpgt d201_8 (fun c8 => ?_) (fun c8 => ?_)
    · omega
    · refine w_iconst d201_11 (by decide) ?_
      refine w_goto d201_12 ?_
      refine w_zreturn d201_16 (by decide) ?_
      exact kk
theorem d202_7 : dc 202 7 = some (.iload 5, 9) := by decide +kernel
theorem d202_9 : dc 202 9 = some (.iload_n 3, 10) := by decide +kernel
theorem d202_10 : dc 202 10 = some (.if_icmp .ge ((31 : Nat) : Int), 13) := by decide +kernel
theorem d202_13 : dc 202 13 = some (.aload_n 0, 14) := by decide +kernel
theorem d202_14 : dc 202 14 = some (.iload 5, 16) := by decide +kernel
theorem d202_16 : dc 202 16 = some (.baload, 17) := by decide +kernel
theorem d202_17 : dc 202 17 = some (.iload 4, 19) := by decide +kernel
theorem d202_19 : dc 202 19 = some (.if_icmp .ne ((25 : Nat) : Int), 22) := by decide +kernel
theorem d202_22 : dc 202 22 = some (.iload 5, 24) := by decide +kernel
theorem d202_24 : dc 202 24 = some (.ireturn, 25) := by decide +kernel
theorem d202_25 : dc 202 25 = some (.iinc 5 1, 28) := by decide +kernel
theorem d202_28 : dc 202 28 = some (.goto ((7 : Nat) : Int), 31) := by decide +kernel
theorem d202_31 : dc 202 31 = some (.iconst (-1), 32) := by decide +kernel
theorem d202_32 : dc 202 32 = some (.ireturn, 33) := by decide +kernel
theorem d202_0 : dc 202 0 = some (.iload_n 1, 1) := by decide +kernel
theorem d202_1 : dc 202 1 = some (.i2b, 2) := by decide +kernel
theorem d202_2 : dc 202 2 = some (.istore 4, 4) := by decide +kernel
theorem d202_4 : dc 202 4 = some (.iload_n 2, 5) := by decide +kernel
theorem d202_5 : dc 202 5 = some (.istore 5, 7) := by decide +kernel
theorem c_Lat_indexOfChar {G : Nat → Option Nat} {d : Nat} {h : Hp} {Q : Option MV → Hp → Prop} {v c f : Nat} {bs : List Nat} (hc : c < 128) (hf : f ≤ bs.length) (x4 : KD h v = 81) (x5 : LN h v = bs.length) (x6 : ∀ j, j < bs.length → AI h v j = (bs.getD j 0 : Nat)) (x8 : bs.length ≤ 300) (kk : Q (some (vI (idxF bs c bs.length f))) h) : Cl G d 202 [vR (some v), vI (c : Nat), vI (f : Nat), vI (bs.length : Nat)] h Q := by
  show Wp G d 202 0 [some (vR (some v)), some (vI (c : Nat)), some (vI (f : Nat)), some (vI (bs.length : Nat)), none, none] [] h Q
  have L : ∀ (m : Nat) (i : Nat), bs.length - i = m → i ≤ bs.length → idxF bs c bs.length f = idxF bs c bs.length i → Wp G d 202 7 [some (vR (some v)), some (vI (c : Nat)), some (vI (f : Nat)), some (vI (bs.length : Nat)), some (vI (c : Nat)), some (vI (i : Nat))] [] h Q := by
    intro m
    induction m using Nat.strongRecOn with | ind m IH => ?_
    intro i hm i1 hi
    refine w_iload d202_7 rfl ?_
    refine w_iload_n d202_9 rfl ?_
    refine w_icmpge d202_10 (fun c10 => ?_) (fun c10 => ?_)
    · refine w_iconst d202_31 (by decide) ?_
      refine w_ireturn d202_32 ?_
      exact qI (by rw [hi, idxF, if_neg (by omega)]) kk
    · have e6 := x6 i (by omega)
      refine w_aload_n d202_13 rfl ?_
      refine w_iload d202_14 rfl ?_
      refine w_baload d202_16 ⟨by rw [x4]; rfl, by omega, by omega⟩ ?_
      refine w_iload d202_17 rfl ?_
      refine w_icmpne d202_19 (fun c19 => ?_) (fun c19 => ?_)
      · have c19 : AI h v i ≠ (c : Nat) := c19
        refine w_iinc5 d202_25 rfl (by constructor <;> omega) ?_
        refine w_goto d202_28 ?_
        exact IH (bs.length - (i + 1)) (by omega) (i + 1) rfl (by omega) (by rw [hi, idxF, if_pos (by omega), if_neg (by omega)])
      · have c19 : AI h v i = (c : Nat) := c19
        refine w_iload d202_22 rfl ?_
        refine w_ireturn d202_24 ?_
        exact qI (by rw [hi, idxF, if_pos (by omega), if_pos (by omega)]) kk
  refine w_iload_n d202_0 rfl ?_
  refine w_i2b d202_1 ?_
  refine w_istore4 d202_2 rfl ?_
  refine w_iload_n d202_4 rfl ?_
  refine w_istore5 d202_5 rfl ?_
  rw [i2b_id (by omega)]
  exact L _ f rfl hf rfl
theorem d200_0 : dc 200 0 = some (.iload_n 1, 1) := by decide +kernel
theorem d200_1 : dc 200 1 = some (.invokevirtual 201, 4) := by decide +kernel
theorem d200_4 : dc 200 4 = some (.ifCond .ne ((9 : Nat) : Int), 7) := by decide +kernel
theorem d200_9 : dc 200 9 = some (.iload_n 2, 10) := by decide +kernel
theorem d200_10 : dc 200 10 = some (.iconst 0, 11) := by decide +kernel
theorem d200_11 : dc 200 11 = some (.invokestatic 3, 14) := by decide +kernel
theorem d200_14 : dc 200 14 = some (.istore_n 2, 15) := by decide +kernel
theorem d200_15 : dc 200 15 = some (.iload_n 3, 16) := by decide +kernel
theorem d200_16 : dc 200 16 = some (.aload_n 0, 17) := by decide +kernel
theorem d200_17 : dc 200 17 = some (.arraylength, 18) := by decide +kernel
theorem d200_18 : dc 200 18 = some (.invokestatic 4, 21) := by decide +kernel
theorem d200_21 : dc 200 21 = some (.istore_n 3, 22) := by decide +kernel
theorem d200_22 : dc 200 22 = some (.iload_n 2, 23) := by decide +kernel
theorem d200_23 : dc 200 23 = some (.iload_n 3, 24) := by decide +kernel
theorem d200_24 : dc 200 24 = some (.if_icmp .lt ((29 : Nat) : Int), 27) := by decide +kernel
theorem d200_27 : dc 200 27 = some (.iconst (-1), 28) := by decide +kernel
theorem d200_28 : dc 200 28 = some (.ireturn, 29) := by decide +kernel
theorem d200_29 : dc 200 29 = some (.aload_n 0, 30) := by decide +kernel
theorem d200_30 : dc 200 30 = some (.iload_n 1, 31) := by decide +kernel
theorem d200_31 : dc 200 31 = some (.iload_n 2, 32) := by decide +kernel
theorem d200_32 : dc 200 32 = some (.iload_n 3, 33) := by decide +kernel
theorem d200_33 : dc 200 33 = some (.invokevirtual 202, 36) := by decide +kernel
theorem d200_36 : dc 200 36 = some (.ireturn, 37) := by decide +kernel
theorem c_Lat_indexOf {G : Nat → Option Nat} {d : Nat} {h : Hp} {Q : Option MV → Hp → Prop} {v c f : Nat} {bs : List Nat} (h1 : 1 ≤ d) (hc : c < 128) (x4 : KD h v = 81) (x5 : LN h v = bs.length) (x6 : ∀ j, j < bs.length → AI h v j = (bs.getD j 0 : Nat)) (x8 : bs.length ≤ 300) (kk : Q (some (vI (idxF bs c bs.length f))) h) : Cl G d 200 [vR (some v), vI (c : Nat), vI (f : Nat), vI (bs.length : Nat)] h Q := by
  show Wp G d 200 0 [some (vR (some v)), some (vI (c : Nat)), some (vI (f : Nat)), some (vI (bs.length : Nat))] [] h Q
  refine w_iload_n d200_0 rfl ?_
  refine w_calls1 d200_1 (by omega) rfl rfl (by simp) (Nat.le_of_ble_eq_true rfl) ?_
  refine c_Lat_canEncode (by omega) ?_
  refine w_ifne d200_4 (fun c4 => ?_) (fun c4 => ?_)
  · refine w_iload_n d200_9 rfl ?_
    refine w_iconst d200_10 (by decide) ?_
    refine w_max d200_11 (by refine ⟨by simp, ?_⟩; omega) ?_
    have e0 : (if ((f : Nat) : Int) < 0 then 0 else ((f : Nat) : Int)) = ((f : Nat) : Int) := if_neg (by omega)
    rw [e0]
    refine w_istore2 d200_14 rfl ?_
    refine w_iload_n d200_15 rfl ?_
    refine w_aload_n d200_16 rfl ?_
    refine w_arraylength d200_17 (by rw [x4]; rfl) ?_
    refine w_min d200_18 (by refine ⟨by simp, ?_⟩; omega) ?_
    have e1 : (if ((LN h v : Nat) : Int) < ((bs.length : Nat) : Int) then ((LN h v : Nat) : Int) else ((bs.length : Nat) : Int)) = ((bs.length : Nat) : Int) := by rw [x5]; split <;> rfl
    rw [e1]
    refine w_istore3 d200_21 rfl ?_
    refine w_iload_n d200_22 rfl ?_
    refine w_iload_n d200_23 rfl ?_
    refine w_icmplt d200_24 (fun c24 => ?_) (fun c24 => ?_)
    · refine w_aload_n d200_29 rfl ?_
      refine w_iload_n d200_30 rfl ?_
      refine w_iload_n d200_31 rfl ?_
      refine w_iload_n d200_32 rfl ?_
      refine w_calls4 d200_33 (by omega) rfl rfl (by simp) (Nat.le_of_ble_eq_true rfl) ?_
      refine c_Lat_indexOfChar hc (by omega) x4 x5 x6 x8 ?_
      refine w_ireturn d200_36 ?_
      exact kk
    · refine w_iconst d200_27 (by decide) ?_
      refine w_ireturn d200_28 ?_
      exact qI (by rw [idxF, if_neg (by omega)]) kk
  · exact absurd c4 (by decide)
theorem d199_0 : dc 199 0 = some (.aload_n 0, 1) := by decide +kernel
theorem d199_1 : dc 199 1 = some (.invokevirtual 25, 4) := by decide +kernel
theorem d199_4 : dc 199 4 = some (.ifCond .eq ((23 : Nat) : Int), 7) := by decide +kernel
theorem d199_7 : dc 199 7 = some (.aload_n 0, 8) := by decide +kernel
theorem d199_8 : dc 199 8 = some (.dload 2048, 11) := by decide +kernel
theorem d199_11 : dc 199 11 = some (.iload_n 1, 12) := by decide +kernel
theorem d199_12 : dc 199 12 = some (.iload_n 2, 13) := by decide +kernel
theorem d199_13 : dc 199 13 = some (.aload_n 0, 14) := by decide +kernel
theorem d199_14 : dc 199 14 = some (.invokevirtual 21, 17) := by decide +kernel
theorem d199_17 : dc 199 17 = some (.invokevirtual 200, 20) := by decide +kernel
theorem d199_20 : dc 199 20 = some (.goto ((36 : Nat) : Int), 23) := by decide +kernel
theorem d199_36 : dc 199 36 = some (.ireturn, 37) := by decide +kernel
theorem c_Str_indexOf {G : Nat → Option Nat} {d : Nat} {h : Hp} {Q : Option MV → Hp → Prop} {g c f : Nat} {bs : List Nat} (h1 : 2 ≤ d) (hc : c < 128) (hS : St h g bs) (kk : Q (some (vI (idxF bs c bs.length f))) h) : Cl G d 199 [vR (some g), vI (c : Nat), vI (f : Nat)] h Q := by
  show Wp G d 199 0 [some (vR (some g)), some (vI (c : Nat)), some (vI (f : Nat))] [] h Q
  obtain ⟨v, x3, x4, x5, x6, x7, x8⟩ := hS.2.2
  refine w_aload_n d199_0 rfl ?_
  refine w_callv1 d199_1 (by omega) rfl hS.1 (by simp) (Nat.le_of_ble_eq_true rfl) ?_
  refine c_Str_isLatin1 hS ?_
  refine w_ifeq d199_4 (fun c4 => ?_) (fun c4 => ?_)
  · exact absurd c4 (by decide)
  · refine w_aload_n d199_7 rfl ?_
    refine w_dloadS d199_8 hS.1 x3 ?_
    refine w_iload_n d199_11 rfl ?_
    refine w_iload_n d199_12 rfl ?_
    refine w_aload_n d199_13 rfl ?_
    refine w_callv1 d199_14 (by omega) rfl hS.1 (by simp) (Nat.le_of_ble_eq_true rfl) ?_
    refine c_Str_length (by omega) hS ?_
    refine w_calls4 d199_17 (by omega) rfl rfl (by simp) (Nat.le_of_ble_eq_true rfl) ?_
    refine c_Lat_indexOf (by omega) hc x4 x5 x6 x8 ?_
    refine w_goto d199_20 ?_
    refine w_ireturn d199_36 ?_
    exact kk
