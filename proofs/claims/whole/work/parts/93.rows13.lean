/-! rows: names, up to any place -/
theorem c_Row_nameInX {G : Nat → Option Nat} {d : Nat} {h : Hp} {Q : Option MV → Hp → Prop} {a f e : Nat} (hR : RowsOk h) (ha : KD h a = 6) (hf : f ≤ 100000000 ∧ e ≤ 100000000) (kk : Q (some (vJ (nameV (rl h a) f e))) h) : Cl G d 32 [vR (some a), vI (f : Nat), vI (e : Nat)] h Q := by
  show Wp G d 32 0 [some (vR (some a)), some (vI (f : Nat)), some (vI (e : Nat)), none, none, none] [] h Q
  have hl := rl_len (hR.1 a ha)
  obtain ⟨w1, w2, w3, w4⟩ := hR.1 a ha
  have hcp := hR.2.2.2.2 (rw0 h a)
  have hcq : LN h (rw0 h a) = cap h a := rfl
  have hca := rl_cap (hR.1 a ha)
  have L : ∀ (m : Nat) (j : Nat), 8 - j = m → j ≤ 8 → Wp G d 32 5 [some (vR (some a)), some (vI (f : Nat)), some (vI (e : Nat)), some (vJ (pk ((pad8 (rl h a) f e).take j))), none, some (vI ((f + j : Nat) : Int))] [] h Q := by
    intro m
    induction m using Nat.strongRecOn with | ind m IH => ?_
    intro j hm j1
    refine w_iload d32_5 rfl ?_
    refine w_iload_n d32_7 rfl ?_
    refine w_bipush d32_8 (by decide) ?_
    refine w_iadd d32_10 (by constructor <;> omega) ?_
    refine w_icmpge d32_11 (fun c11 => ?_) (fun c11 => ?_)
    · refine w_lload_n d32_62 rfl ?_
      refine w_lreturn d32_63 ?_
      exact (show pk ((pad8 (rl h a) f e).take j) = nameV (rl h a) f e by rw [List.take_of_length_le (by simp [pad8]; omega)]; rfl) ▸ kk
    · refine w_lload_n d32_14 rfl ?_
      refine w_bipush d32_15 (by decide) ?_
      refine w_lshl d32_17 ?_
      refine w_iload d32_18 rfl ?_
      refine w_iflt d32_20 (fun c20 => ?_) (fun c20 => ?_)
      · omega
      · refine w_iload d32_23 rfl ?_
        refine w_iload_n d32_25 rfl ?_
        refine w_icmpge d32_26 (fun c26 => ?_) (fun c26 => ?_)
        · refine w_iconst d32_52 (by decide) ?_
          refine w_i2l d32_53 ?_
          refine w_lor d32_54 ?_
          have ev : (pk ((pad8 (rl h a) f e).take j) <<< ((i32 8).toInt64 &&& 63)) ||| (i32 0).toInt64 = pk ((pad8 (rl h a) f e).take (j + 1)) := by
            rw [sh8, pad8_at (by omega), pk_snoc, if_neg (by omega)]
            rfl
          rw [ev]
          refine w_lstore3 d32_55 rfl ?_
          refine w_iinc5 d32_56 rfl (by constructor <;> omega) ?_
          refine w_goto d32_59 ?_
          refine IH (8 - (j + 1)) (by omega) (j + 1) rfl (by omega)
        · refine w_iload d32_29 rfl ?_
          refine w_aload_n d32_31 rfl ?_
          refine w_getI d32_32 ha hl ?_
          refine w_icmpge d32_35 (fun c35 => ?_) (fun c35 => ?_)
          · refine w_iconst d32_52 (by decide) ?_
            refine w_i2l d32_53 ?_
            refine w_lor d32_54 ?_
            have ev : (pk ((pad8 (rl h a) f e).take j) <<< ((i32 8).toInt64 &&& 63)) ||| (i32 0).toInt64 = pk ((pad8 (rl h a) f e).take (j + 1)) := by
              rw [sh8, pad8_at (by omega), pk_snoc, if_pos (by omega), List.getD_eq_getElem?_getD, List.getElem?_eq_none (by omega)]
              rfl
            rw [ev]
            refine w_lstore3 d32_55 rfl ?_
            refine w_iinc5 d32_56 rfl (by constructor <;> omega) ?_
            refine w_goto d32_59 ?_
            refine IH (8 - (j + 1)) (by omega) (j + 1) rfl (by omega)
          · refine w_aload_n d32_38 rfl ?_
            refine w_dloadS d32_39 ha w1 ?_
            refine w_iload d32_42 rfl ?_
            refine w_baload d32_44 ⟨by rw [w2]; rfl, by omega, by show ((f + j : Nat) : Int) < (cap h a : Int); omega⟩ ?_
            refine w_sipush d32_45 (by decide) ?_
            refine w_iand d32_48 ?_
            refine w_goto d32_49 ?_
            refine w_i2l d32_53 ?_
            refine w_lor d32_54 ?_
            have ev : (pk ((pad8 (rl h a) f e).take j) <<< ((i32 8).toInt64 &&& 63)) ||| (i32 (i32 (AI h (rw0 h a) ((f + j : Nat) : Int).toNat) &&& i32 255).toInt).toInt64 = pk ((pad8 (rl h a) f e).take (j + 1)) := by
              rw [sh8, pad8_at (by omega), pk_snoc, if_pos (by omega), u8_and (hR.2.2.2.1 _ _ w2), rl_at (by omega)]
              rfl
            rw [ev]
            refine w_lstore3 d32_55 rfl ?_
            refine w_iinc5 d32_56 rfl (by constructor <;> omega) ?_
            refine w_goto d32_59 ?_
            refine IH (8 - (j + 1)) (by omega) (j + 1) rfl (by omega)
  refine w_lconst d32_0 ?_
  refine w_lstore3 d32_1 rfl ?_
  refine w_iload_n d32_2 rfl ?_
  refine w_istore5 d32_3 rfl ?_
  exact L _ 0 rfl (Nat.zero_le _)
theorem r_Row_nameInX {S : Shp} {G : Nat → Option Nat} {d : Nat} {h : Hp} {Q : Option MV → Hp → Prop} {a f e : Nat} (ok : Ok S h) (ha : sK S a = 6) (hf : f ≤ 100000000 ∧ e ≤ 100000000) (kk : Q (some (vJ (nameV (rl h a) f e))) h) : Cl G d 32 [vR (some a), vI (f : Nat), vI (e : Nat)] h Q := c_Row_nameInX ok.ro (ok.kd ha) hf kk
