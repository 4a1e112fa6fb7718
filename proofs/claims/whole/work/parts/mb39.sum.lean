/-! the reference: a request's sum -/
theorem d236_0 : dc 236 0 = some (.iconst 0, 1) := by decide +kernel
theorem d236_1 : dc 236 1 = some (.istore_n 1, 2) := by decide +kernel
theorem d236_2 : dc 236 2 = some (.iconst 0, 3) := by decide +kernel
theorem d236_3 : dc 236 3 = some (.istore_n 2, 4) := by decide +kernel
theorem d236_4 : dc 236 4 = some (.iload_n 2, 5) := by decide +kernel
theorem d236_5 : dc 236 5 = some (.aload_n 0, 6) := by decide +kernel
theorem d236_6 : dc 236 6 = some (.getfield 1731, 9) := by decide +kernel
theorem d236_9 : dc 236 9 = some (.if_icmp .ge ((35 : Nat) : Int), 12) := by decide +kernel
theorem d236_12 : dc 236 12 = some (.iload_n 1, 13) := by decide +kernel
theorem d236_13 : dc 236 13 = some (.iload_n 2, 14) := by decide +kernel
theorem d236_14 : dc 236 14 = some (.iconst 1, 15) := by decide +kernel
theorem d236_15 : dc 236 15 = some (.iadd, 16) := by decide +kernel
theorem d236_16 : dc 236 16 = some (.aload_n 0, 17) := by decide +kernel
theorem d236_17 : dc 236 17 = some (.dload 1730, 20) := by decide +kernel
theorem d236_20 : dc 236 20 = some (.iload_n 2, 21) := by decide +kernel
theorem d236_21 : dc 236 21 = some (.iaload, 22) := by decide +kernel
theorem d236_22 : dc 236 22 = some (.imul, 23) := by decide +kernel
theorem d236_23 : dc 236 23 = some (.iadd, 24) := by decide +kernel
theorem d236_24 : dc 236 24 = some (.sipush 251, 27) := by decide +kernel
theorem d236_27 : dc 236 27 = some (.irem, 28) := by decide +kernel
theorem d236_28 : dc 236 28 = some (.istore_n 1, 29) := by decide +kernel
theorem d236_29 : dc 236 29 = some (.iinc 2 1, 32) := by decide +kernel
theorem d236_32 : dc 236 32 = some (.goto ((4 : Nat) : Int), 35) := by decide +kernel
theorem d236_35 : dc 236 35 = some (.iconst 1, 36) := by decide +kernel
theorem d236_36 : dc 236 36 = some (.iload_n 1, 37) := by decide +kernel
theorem d236_37 : dc 236 37 = some (.iadd, 38) := by decide +kernel
theorem d236_38 : dc 236 38 = some (.ireturn, 39) := by decide +kernel
theorem k_M_sumOfRequest {S : Shp} {G : Nat → Option Nat} {d : Nat} {h : Hp} {Q : Option MV → Hp → Prop} {m : Nat} {l : List Nat} (ok : Ok S h) (h1 : 0 ≤ d) (hm : sK S m = 14) (RQ : RqR S h m l) 
    (kk : Q (some (vI ((smF l l.length + 1 : Nat) : Int))) h) : Cl G d 236 [vR (some m)] h Q := by
  show Wp G d 236 0 [some (vR (some m)), none, none] [] h Q
  have RQ_0 := RQ
  have l9 := RQ.2.1
  refine w_iconst d236_0 (by decide) ?_
  refine w_istore1 d236_1 rfl ?_
  refine w_iconst d236_2 (by decide) ?_
  refine w_istore2 d236_3 rfl ?_
  have L4 : ∀ (m4 : Nat) (i : Nat), l.length - i = m4 → (i ≤ l.length) → Wp G d 236 4 [some (vR (some m)), some (vI (smF l i : Nat)), some (vI (i : Nat))] [] h Q := by
    intro m4
    induction m4 using Nat.strongRecOn with | ind m4 IH4 => ?_
    intro i hm4 il
    refine w_iload_n d236_4 rfl ?_
    refine w_aload_n d236_5 rfl ?_
    refine w_getI (x := ((l.length : Nat) : Int)) d236_6 (ok.kd hm) RQ.1 ?_
    refine w_icmpge d236_9 (fun c9 => ?_) (fun c9 => ?_)
    · have ei : l.length = i := by omega
      rw [ei] at kk
      have sm := smF_lt l i
      refine w_iconst d236_35 (by decide) ?_
      refine w_iload_n d236_36 rfl ?_
      refine w_iadd d236_37 (by constructor <;> omega) ?_
      refine w_ireturn d236_38 ?_
      rw [show (1 : Int) + ((smF l i : Nat) : Int) = ((smF l i + 1 : Nat) : Int) by omega]
      exact kk
    · have hi : i < l.length := by omega
      have sm := smF_lt l i
      have rc := ra1730 ok hm i
      rw [RQ.2.2.at0 hi] at rc
      have e21 : (((i : Nat) : Int) + 1) * ((l.getD i 0 : Nat) : Int) = (((i + 1) * l.getD i 0 : Nat) : Int) := by push_cast; rfl
      have q21 : (i + 1) * l.getD i 0 ≤ 20009 * 255 := Nat.mul_le_mul (by omega) (by omega)
      refine w_iload_n d236_12 rfl ?_
      refine w_iload_n d236_13 rfl ?_
      refine w_iconst d236_14 (by decide) ?_
      refine w_iadd d236_15 (by constructor <;> omega) ?_
      refine w_aload_n d236_16 rfl ?_
      refine w_dloadS d236_17 (ok.kd hm) (fr1730 ok hm) ?_
      refine w_iload_n d236_20 rfl ?_
      refine w_ialoadV (x := ((l.getD i 0 : Nat) : Int)) d236_21 (gi1730 ok hm (by omega)) (RQ.2.2.at0 hi) ?_
      refine w_imul d236_22 (by rw [e21]; constructor <;> omega) ?_
      rw [e21]
      generalize hP : (i + 1) * l.getD i 0 = W at *
      refine w_iadd d236_23 (by constructor <;> omega) ?_
      refine w_sipush d236_24 (by decide) ?_
      refine w_irem d236_27 (by decide) ?_
      rw [show (((smF l i : Nat) : Int) + ((W : Nat) : Int)).tmod 251 = ((smF l (i + 1) : Nat) : Int) by rw [Int.tmod_eq_emod_of_nonneg (by omega), smF, hP]; omega]
      refine w_istore1 d236_28 rfl ?_
      refine w_iinc2 d236_29 rfl (by constructor <;> omega) ?_
      refine w_goto d236_32 ?_
      rw [show ((i : Nat) : Int) + 1 = ((i + 1 : Nat) : Int) by omega]
      refine w_less ?_ (IH4 _ (by omega) (i + 1) rfl (by omega))
      exact ⟨Or.inr rfl, Or.inr rfl, Or.inr rfl, trivial⟩
  refine w_less ?_ (L4 _ 0 rfl (Nat.zero_le _))
  exact ⟨Or.inr rfl, Or.inr rfl, Or.inr rfl, trivial⟩
