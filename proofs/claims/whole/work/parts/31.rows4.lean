/-! rows: lines of a row -/
theorem sl_all (l : List Nat) : sl l 0 l.length = l := by unfold sl; simp
theorem sl_snoc {l : List Nat} {f i : Nat} (hf : f ≤ i) (h : i < l.length) : sl l f (i + 1) = sl l f i ++ [l.getD i 0] := by
  unfold sl
  rw [show i + 1 - f = (i - f) + 1 by omega, take_succ (by rw [List.length_drop]; omega)]
  congr 2
  rw [List.getD_eq_getElem?_getD, List.getD_eq_getElem?_getD, List.getElem?_drop, show f + (i - f) = i by omega]
theorem sl_nil (l : List Nat) (f : Nat) : sl l f f = [] := by unfold sl; simp
def told (c : Nat) : Nat := if c = 10 then 124 else c
/-- the lines -/
def lns : List Nat → List (List Nat)
  | [] => []
  | c :: t => if c = 10 then [] :: lns t else match lns t with
    | [] => [[c]]
    | x :: xs => (c :: x) :: xs
theorem lns_ne {t : List Nat} (h : t ≠ []) : lns t = (t.takeWhile fun c => c != 10) :: lns (t.drop ((t.takeWhile fun c => c != 10).length + 1)) := by
  induction t with
  | nil => exact absurd rfl h
  | cons c t ih =>
    by_cases hc : c = 10
    · subst hc
      rw [List.takeWhile_cons, if_neg (by decide), lns, if_pos rfl]
      rfl
    · have h3 : (c != 10) = true := by simpa using hc
      rw [List.takeWhile_cons, if_pos h3, lns, if_neg hc, List.length_cons, List.drop_succ_cons]
      cases t with
      | nil => rfl
      | cons b t => rw [ih (fun q => by cases q)]
theorem lns_at {l : List Nat} {i : Nat} (h : i < l.length) : lns (l.drop i) = sl l i (lineE l i) :: lns (l.drop (lineE l i + 1)) := by
  rw [lns_ne (by intro q; have := congrArg List.length q; simp at this; omega)]
  unfold lineE sl
  rw [List.drop_drop, show i + ((l.drop i).takeWhile fun c => c != 10).length - i = ((l.drop i).takeWhile fun c => c != 10).length by omega, Nat.add_assoc]
  congr 1
  exact List.prefix_iff_eq_take.mp (List.takeWhile_prefix _)
theorem d141_0 : dc 141 0 = some (.aload_n 0, 1) := by decide +kernel
theorem d141_1 : dc 141 1 = some (.iconst 0, 2) := by decide +kernel
theorem d141_2 : dc 141 2 = some (.aload_n 0, 3) := by decide +kernel
theorem d141_3 : dc 141 3 = some (.getfield 641, 6) := by decide +kernel
theorem d141_6 : dc 141 6 = some (.aload_n 1, 7) := by decide +kernel
theorem d141_7 : dc 141 7 = some (.iconst 0, 8) := by decide +kernel
theorem d141_8 : dc 141 8 = some (.aload_n 1, 9) := by decide +kernel
theorem d141_9 : dc 141 9 = some (.getfield 641, 12) := by decide +kernel
theorem d141_12 : dc 141 12 = some (.invokevirtual 118, 15) := by decide +kernel
theorem d141_15 : dc 141 15 = some (.ifCond .ne ((22 : Nat) : Int), 18) := by decide +kernel
theorem d141_18 : dc 141 18 = some (.iconst 1, 19) := by decide +kernel
theorem d141_19 : dc 141 19 = some (.goto ((23 : Nat) : Int), 22) := by decide +kernel
theorem d141_22 : dc 141 22 = some (.iconst 0, 23) := by decide +kernel
theorem d141_23 : dc 141 23 = some (.freturn, 24) := by decide +kernel
theorem c_Row_sameAs {G : Nat → Option Nat} {d : Nat} {h : Hp} {Q : Option MV → Hp → Prop} {a b : Nat} (h1 : 2 ≤ d) (hR : RowsOk h) (ha : KD h a = 6) (hb : KD h b = 6) (kk : Q (some (vI (if rl h a = rl h b then 1 else 0))) h) : Cl G d 141 [vR (some a), vR (some b)] h Q := by
  show Wp G d 141 0 [some (vR (some a)), some (vR (some b))] [] h Q
  have hl := rl_len (hR.1 a ha)
  obtain ⟨w1, w2, w3, w4⟩ := hR.1 a ha
  have hcp := hR.2.2.2.2 (rw0 h a)
  have hcq : LN h (rw0 h a) = cap h a := rfl
  have hlb := rl_len (hR.1 b hb)
  obtain ⟨v1, v2, v3, v4⟩ := hR.1 b hb
  have hcv := hR.2.2.2.2 (rw0 h b)
  have hcw : LN h (rw0 h b) = cap h b := rfl
  refine w_aload_n d141_0 rfl ?_
  refine w_iconst d141_1 (by decide) ?_
  refine w_aload_n d141_2 rfl ?_
  refine w_getI d141_3 ha hl ?_
  refine w_aload_n d141_6 rfl ?_
  refine w_iconst d141_7 (by decide) ?_
  refine w_aload_n d141_8 rfl ?_
  refine w_getI d141_9 hb hlb ?_
  refine w_callv6 d141_12 (by omega) rfl ha (by simp) (Nat.le_of_ble_eq_true rfl) ?_
  refine c_Row_order (f := 0) (e := (rl h a).length) (f2 := 0) (e2 := (rl h b).length) (by omega) hR ha hb ⟨Nat.zero_le _, Nat.le_refl _⟩ ⟨Nat.zero_le _, Nat.le_refl _⟩ ?_
  rw [sl_all, sl_all]
  refine w_ifne d141_15 (fun c15 => ?_) (fun c15 => ?_)
  · have e : ¬ rl h a = rl h b := fun q => c15 (cmpL_eq.mpr q)
    refine w_iconst d141_22 (by decide) ?_
    refine w_zreturn d141_23 (by decide) ?_
    exact qI (by rw [if_neg e]) kk
  · have e : rl h a = rl h b := cmpL_eq.mp c15
    refine w_iconst d141_18 (by decide) ?_
    refine w_goto d141_19 ?_
    refine w_zreturn d141_23 (by decide) ?_
    exact qI (by rw [if_pos e]) kk
theorem d119_3 : dc 119 3 = some (.iload 4, 5) := by decide +kernel
theorem d119_5 : dc 119 5 = some (.iload_n 3, 6) := by decide +kernel
theorem d119_6 : dc 119 6 = some (.if_icmp .ge ((34 : Nat) : Int), 9) := by decide +kernel
theorem d119_9 : dc 119 9 = some (.iload 4, 11) := by decide +kernel
theorem d119_11 : dc 119 11 = some (.aload_n 1, 12) := by decide +kernel
theorem d119_12 : dc 119 12 = some (.getfield 641, 15) := by decide +kernel
theorem d119_15 : dc 119 15 = some (.if_icmp .ge ((34 : Nat) : Int), 18) := by decide +kernel
theorem d119_18 : dc 119 18 = some (.aload_n 0, 19) := by decide +kernel
theorem d119_19 : dc 119 19 = some (.aload_n 1, 20) := by decide +kernel
theorem d119_20 : dc 119 20 = some (.iload 4, 22) := by decide +kernel
theorem d119_22 : dc 119 22 = some (.invokevirtual 23, 25) := by decide +kernel
theorem d119_25 : dc 119 25 = some (.invokevirtual 15, 28) := by decide +kernel
theorem d119_28 : dc 119 28 = some (.iinc 4 1, 31) := by decide +kernel
theorem d119_31 : dc 119 31 = some (.goto ((3 : Nat) : Int), 34) := by decide +kernel
theorem d119_34 : dc 119 34 = some (.aload_n 0, 35) := by decide +kernel
theorem d119_35 : dc 119 35 = some (.bipush 10, 37) := by decide +kernel
theorem d119_37 : dc 119 37 = some (.invokevirtual 15, 40) := by decide +kernel
theorem d119_40 : dc 119 40 = some (.return_, 41) := by decide +kernel
theorem d119_0 : dc 119 0 = some (.iload_n 2, 1) := by decide +kernel
theorem d119_1 : dc 119 1 = some (.istore 4, 3) := by decide +kernel
theorem c_Row_addLine {G : Nat → Option Nat} {d : Nat} {h : Hp} {Q : Option MV → Hp → Prop} {a b f e : Nat} (h1 : 1 ≤ d) (hR : RowsOk h) (ha : KD h a = 6) (hb : KD h b = 6) (hab : b ≠ a) (hf : f ≤ e ∧ e ≤ (rl h b).length) (kk : ∀ h', RSt h h' a (addBs (cap h a) (rl h a) (sl (rl h b) f e ++ [10])) → Q none h') : Cl G d 119 [vR (some a), vR (some b), vI (f : Nat), vI (e : Nat)] h Q := by
  show Wp G d 119 0 [some (vR (some a)), some (vR (some b)), some (vI (f : Nat)), some (vI (e : Nat)), none] [] h Q
  have hlb := rl_len (hR.1 b hb)
  obtain ⟨v1, v2, v3, v4⟩ := hR.1 b hb
  have hcv := hR.2.2.2.2 (rw0 h b)
  have hcw : LN h (rw0 h b) = cap h b := rfl
  have L : ∀ (m : Nat) (h1 : Hp) (i : Nat), e - i = m → f ≤ i → i ≤ e → RSt h h1 a (addBs (cap h a) (rl h a) (sl (rl h b) f i)) → Wp G d 119 3 [some (vR (some a)), some (vR (some b)), some (vI (f : Nat)), some (vI (e : Nat)), some (vI (i : Nat))] [] h1 Q := by
    intro m
    induction m using Nat.strongRecOn with | ind m IH => ?_
    intro h1 i hm i1 i2 hs
    have ka := hs.1.kd ha (by decide)
    have kb := hs.1.kd hb (by decide)
    have eb : rl h1 b = rl h b := hs.1.2.2.1 b hb hab
    refine w_iload d119_3 rfl ?_
    refine w_iload_n d119_5 rfl ?_
    refine w_icmpge d119_6 (fun c6 => ?_) (fun c6 => ?_)
    · have ei : i = e := by omega
      subst ei
      refine w_aload_n d119_34 rfl ?_
      refine w_bipush d119_35 (by decide) ?_
      refine w_callv2 d119_37 (by omega) rfl ka (by simp) (Nat.le_of_ble_eq_true rfl) ?_
      refine c_Row_add hs.ok ka (fun h2 s2 => ?_)
      refine w_return d119_40 ?_
      refine kk _ ?_
      have s3 := RSt.trans hR hs s2
      rw [hs.2.1, hs.2.2 a ha] at s3
      rw [addBs_snoc]
      exact s3
    · refine w_iload d119_9 rfl ?_
      refine w_aload_n d119_11 rfl ?_
      refine w_getI d119_12 kb (rl_len (hs.ok.1 b kb)) ?_
      refine w_icmpge d119_15 (fun c15 => ?_) (fun c15 => ?_)
      · exfalso; rw [eb] at c15; omega
      · refine w_aload_n d119_18 rfl ?_
        refine w_aload_n d119_19 rfl ?_
        refine w_iload d119_20 rfl ?_
        refine w_callv2 d119_22 (by omega) rfl kb (by simp) (Nat.le_of_ble_eq_true rfl) ?_
        refine c_Row_at hs.ok kb ?_
        rw [eb, atv_in (by omega)]
        refine w_callv2 d119_25 (by omega) rfl ka (by simp) (Nat.le_of_ble_eq_true rfl) ?_
        refine c_Row_add hs.ok ka (fun h2 s2 => ?_)
        refine w_iinc4 d119_28 rfl (by constructor <;> omega) ?_
        refine w_goto d119_31 ?_
        refine IH (e - (i + 1)) (by omega) h2 (i + 1) rfl (by omega) (by omega) ?_
        have s3 := RSt.trans hR hs s2
        rw [hs.2.1, hs.2.2 a ha] at s3
        rw [sl_snoc i1 (by omega), addBs_snoc]
        have := rl_lt hR hb i
        have e3 : (((rl h b).getD (((i : Nat) : Int)).toNat 0 : Nat) : Int) % 256 = ((rl h b).getD i 0 : Nat) := by show (((rl h b).getD i 0 : Nat) : Int) % 256 = _; omega
        rw [e3] at s3
        exact s3
  refine w_iload_n d119_0 rfl ?_
  refine w_istore4 d119_1 rfl ?_
  exact L _ h f rfl (Nat.le_refl _) hf.1 (by rw [sl_nil]; exact RSt.refl hR)
theorem d170_2 : dc 170 2 = some (.iload_n 2, 3) := by decide +kernel
theorem d170_3 : dc 170 3 = some (.aload_n 1, 4) := by decide +kernel
theorem d170_4 : dc 170 4 = some (.getfield 641, 7) := by decide +kernel
theorem d170_7 : dc 170 7 = some (.if_icmp .ge ((42 : Nat) : Int), 10) := by decide +kernel
theorem d170_10 : dc 170 10 = some (.aload_n 0, 11) := by decide +kernel
theorem d170_11 : dc 170 11 = some (.aload_n 1, 12) := by decide +kernel
theorem d170_12 : dc 170 12 = some (.dload 640, 15) := by decide +kernel
theorem d170_15 : dc 170 15 = some (.iload_n 2, 16) := by decide +kernel
theorem d170_16 : dc 170 16 = some (.baload, 17) := by decide +kernel
theorem d170_17 : dc 170 17 = some (.bipush 10, 19) := by decide +kernel
theorem d170_19 : dc 170 19 = some (.if_icmp .ne ((27 : Nat) : Int), 22) := by decide +kernel
theorem d170_22 : dc 170 22 = some (.bipush 124, 24) := by decide +kernel
theorem d170_24 : dc 170 24 = some (.goto ((33 : Nat) : Int), 27) := by decide +kernel
theorem d170_27 : dc 170 27 = some (.aload_n 1, 28) := by decide +kernel
theorem d170_28 : dc 170 28 = some (.dload 640, 31) := by decide +kernel
theorem d170_31 : dc 170 31 = some (.iload_n 2, 32) := by decide +kernel
theorem d170_32 : dc 170 32 = some (.baload, 33) := by decide +kernel
theorem d170_33 : dc 170 33 = some (.invokevirtual 15, 36) := by decide +kernel
theorem d170_36 : dc 170 36 = some (.iinc 2 1, 39) := by decide +kernel
theorem d170_39 : dc 170 39 = some (.goto ((2 : Nat) : Int), 42) := by decide +kernel
theorem d170_42 : dc 170 42 = some (.return_, 43) := by decide +kernel
theorem d170_0 : dc 170 0 = some (.iconst 0, 1) := by decide +kernel
theorem d170_1 : dc 170 1 = some (.istore_n 2, 2) := by decide +kernel
theorem c_Row_addTold {G : Nat → Option Nat} {d : Nat} {h : Hp} {Q : Option MV → Hp → Prop} {a b : Nat} (h1 : 1 ≤ d) (hR : RowsOk h) (ha : KD h a = 6) (hb : KD h b = 6) (hab : b ≠ a) (kk : ∀ h', RSt h h' a (addBs (cap h a) (rl h a) ((rl h b).map told)) → Q none h') : Cl G d 170 [vR (some a), vR (some b)] h Q := by
  show Wp G d 170 0 [some (vR (some a)), some (vR (some b)), none] [] h Q
  have hcv := hR.2.2.2.2 (rw0 h b)
  have hlb := rl_cap (hR.1 b hb)
  have hcw : LN h (rw0 h b) = cap h b := rfl
  have L : ∀ (m : Nat) (h1 : Hp) (i : Nat), (rl h b).length - i = m → i ≤ (rl h b).length → RSt h h1 a (addBs (cap h a) (rl h a) (((rl h b).take i).map told)) → Wp G d 170 2 [some (vR (some a)), some (vR (some b)), some (vI (i : Nat))] [] h1 Q := by
    intro m
    induction m using Nat.strongRecOn with | ind m IH => ?_
    intro h1 i hm i2 hs
    have ka := hs.1.kd ha (by decide)
    have kb := hs.1.kd hb (by decide)
    have eb : rl h1 b = rl h b := hs.1.2.2.1 b hb hab
    have lb := rl_len (hs.ok.1 b kb)
    rw [eb] at lb
    obtain ⟨v1, v2, v3, v4⟩ := hs.ok.1 b kb
    refine w_iload_n d170_2 rfl ?_
    refine w_aload_n d170_3 rfl ?_
    refine w_getI d170_4 kb lb ?_
    refine w_icmpge d170_7 (fun c7 => ?_) (fun c7 => ?_)
    · refine w_return d170_42 ?_
      exact kk _ (by rw [List.take_of_length_le (by omega)] at hs; exact hs)
    · refine w_aload_n d170_10 rfl ?_
      refine w_aload_n d170_11 rfl ?_
      refine w_dloadS d170_12 kb v1 ?_
      refine w_iload_n d170_15 rfl ?_
      refine w_baload d170_16 ⟨by rw [v2]; rfl, by omega, by show (i : Int) < (cap h1 b : Int); omega⟩ ?_
      refine w_bipush d170_17 (by decide) ?_
      refine w_icmpne d170_19 (fun c19 => ?_) (fun c19 => ?_)
      · have c19 : AI h1 (rw0 h1 b) i ≠ 10 := c19
        have et : ((AI h1 (rw0 h1 b) ((i : Nat) : Int).toNat) % 256).toNat = told ((rl h b).getD i 0) := by
          have g1 : (rl h b).getD i 0 = u8 (AI h1 (rw0 h1 b) i) := by rw [← eb]; exact rl_at (by rw [eb]; omega)
          rw [g1, told, if_neg (fun q => c19 ((u8_eq (c := 10) (hs.ok.2.2.2.1 _ _ v2) (by decide)).mp q))]
          rfl
        refine w_aload_n d170_27 rfl ?_
        refine w_dloadS d170_28 kb v1 ?_
        refine w_iload_n d170_31 rfl ?_
        refine w_baload d170_32 ⟨by rw [v2]; rfl, by omega, by show (i : Int) < (cap h1 b : Int); omega⟩ ?_
        refine w_callv2 d170_33 (by omega) rfl ka (by simp) (Nat.le_of_ble_eq_true rfl) ?_
        refine c_Row_add hs.ok ka (fun h2 s2 => ?_)
        refine w_iinc2 d170_36 rfl (by constructor <;> omega) ?_
        refine w_goto d170_39 ?_
        refine IH ((rl h b).length - (i + 1)) (by omega) h2 (i + 1) rfl (by omega) ?_
        have s3 := RSt.trans hR hs s2
        rw [hs.2.1, hs.2.2 a ha, et] at s3
        rw [take_succ (by omega), List.map_append, List.map_singleton, addBs_snoc]
        exact s3
      · have c19 : AI h1 (rw0 h1 b) i = 10 := c19
        have et : ((124 : Int) % 256).toNat = told ((rl h b).getD i 0) := by
          have g1 : (rl h b).getD i 0 = u8 (AI h1 (rw0 h1 b) i) := by rw [← eb]; exact rl_at (by rw [eb]; omega)
          rw [g1, c19]
          rfl
        refine w_bipush d170_22 (by decide) ?_
        refine w_goto d170_24 ?_
        refine w_callv2 d170_33 (by omega) rfl ka (by simp) (Nat.le_of_ble_eq_true rfl) ?_
        refine c_Row_add hs.ok ka (fun h2 s2 => ?_)
        refine w_iinc2 d170_36 rfl (by constructor <;> omega) ?_
        refine w_goto d170_39 ?_
        refine IH ((rl h b).length - (i + 1)) (by omega) h2 (i + 1) rfl (by omega) ?_
        have s3 := RSt.trans hR hs s2
        rw [hs.2.1, hs.2.2 a ha, et] at s3
        rw [take_succ (by omega), List.map_append, List.map_singleton, addBs_snoc]
        exact s3
  refine w_iconst d170_0 (by decide) ?_
  refine w_istore2 d170_1 rfl ?_
  exact L _ h 0 rfl (Nat.zero_le _) (RSt.refl hR)
theorem d140_3 : dc 140 3 = some (.iload 4, 5) := by decide +kernel
theorem d140_5 : dc 140 5 = some (.aload_n 0, 6) := by decide +kernel
theorem d140_6 : dc 140 6 = some (.getfield 641, 9) := by decide +kernel
theorem d140_9 : dc 140 9 = some (.if_icmp .ge ((45 : Nat) : Int), 12) := by decide +kernel
theorem d140_12 : dc 140 12 = some (.aload_n 0, 13) := by decide +kernel
theorem d140_13 : dc 140 13 = some (.iload 4, 15) := by decide +kernel
theorem d140_15 : dc 140 15 = some (.invokevirtual 117, 18) := by decide +kernel
theorem d140_18 : dc 140 18 = some (.istore 5, 20) := by decide +kernel
theorem d140_20 : dc 140 20 = some (.aload_n 0, 21) := by decide +kernel
theorem d140_21 : dc 140 21 = some (.iload 4, 23) := by decide +kernel
theorem d140_23 : dc 140 23 = some (.iload 5, 25) := by decide +kernel
theorem d140_25 : dc 140 25 = some (.aload_n 1, 26) := by decide +kernel
theorem d140_26 : dc 140 26 = some (.iload_n 2, 27) := by decide +kernel
theorem d140_27 : dc 140 27 = some (.iload_n 3, 28) := by decide +kernel
theorem d140_28 : dc 140 28 = some (.invokevirtual 118, 31) := by decide +kernel
theorem d140_31 : dc 140 31 = some (.ifCond .ne ((36 : Nat) : Int), 34) := by decide +kernel
theorem d140_34 : dc 140 34 = some (.iconst 1, 35) := by decide +kernel
theorem d140_35 : dc 140 35 = some (.freturn, 36) := by decide +kernel
theorem d140_36 : dc 140 36 = some (.iload 5, 38) := by decide +kernel
theorem d140_38 : dc 140 38 = some (.iconst 1, 39) := by decide +kernel
theorem d140_39 : dc 140 39 = some (.iadd, 40) := by decide +kernel
theorem d140_40 : dc 140 40 = some (.istore 4, 42) := by decide +kernel
theorem d140_42 : dc 140 42 = some (.goto ((3 : Nat) : Int), 45) := by decide +kernel
theorem d140_45 : dc 140 45 = some (.iconst 0, 46) := by decide +kernel
theorem d140_46 : dc 140 46 = some (.freturn, 47) := by decide +kernel
theorem d140_0 : dc 140 0 = some (.iconst 0, 1) := by decide +kernel
theorem d140_1 : dc 140 1 = some (.istore 4, 3) := by decide +kernel
theorem c_Row_hasLine {G : Nat → Option Nat} {d : Nat} {h : Hp} {Q : Option MV → Hp → Prop} {a b f e : Nat} (h1 : 2 ≤ d) (hR : RowsOk h) (ha : KD h a = 6) (hb : KD h b = 6) (hf : f ≤ e ∧ e ≤ (rl h b).length) (kk : Q (some (vI (if sl (rl h b) f e ∈ lns (rl h a) then 1 else 0))) h) : Cl G d 140 [vR (some a), vR (some b), vI (f : Nat), vI (e : Nat)] h Q := by
  show Wp G d 140 0 [some (vR (some a)), some (vR (some b)), some (vI (f : Nat)), some (vI (e : Nat)), none, none] [] h Q
  have hl := rl_len (hR.1 a ha)
  obtain ⟨w1, w2, w3, w4⟩ := hR.1 a ha
  have hcp := hR.2.2.2.2 (rw0 h a)
  have hcq : LN h (rw0 h a) = cap h a := rfl
  have hlb := rl_len (hR.1 b hb)
  obtain ⟨v1, v2, v3, v4⟩ := hR.1 b hb
  have hcv := hR.2.2.2.2 (rw0 h b)
  have hcw : LN h (rw0 h b) = cap h b := rfl
  have L : ∀ (m : Nat) (i : Nat), (rl h a).length + 1 - i = m → i ≤ (rl h a).length + 1 → (sl (rl h b) f e ∈ lns (rl h a) ↔ sl (rl h b) f e ∈ lns ((rl h a).drop i)) → Wp G d 140 3 [some (vR (some a)), some (vR (some b)), some (vI (f : Nat)), some (vI (e : Nat)), some (vI (i : Nat)), none] [] h Q := by
    intro m
    induction m using Nat.strongRecOn with | ind m IH => ?_
    intro i hm i1 hi
    refine w_iload d140_3 rfl ?_
    refine w_aload_n d140_5 rfl ?_
    refine w_getI d140_6 ha hl ?_
    refine w_icmpge d140_9 (fun c9 => ?_) (fun c9 => ?_)
    · refine w_iconst d140_45 (by decide) ?_
      refine w_zreturn d140_46 (by decide) ?_
      exact qI (by rw [if_neg (by rw [hi, List.drop_eq_nil_of_le (by omega)]; simp [lns])]) kk
    · have hle := lineE_le (l := rl h a) (i := i) (by omega)
      have hge := lineE_ge (rl h a) i
      rw [lns_at (by omega), List.mem_cons] at hi
      refine w_aload_n d140_12 rfl ?_
      refine w_iload d140_13 rfl ?_
      refine w_callv2 d140_15 (by omega) rfl ha (by simp) (Nat.le_of_ble_eq_true rfl) ?_
      refine c_Row_lineEnd (by omega) hR ha (by constructor <;> omega) ?_
      rw [show (((i : Nat) : Int)).toNat = i from rfl]
      refine w_istore5 d140_18 rfl ?_
      refine w_aload_n d140_20 rfl ?_
      refine w_iload d140_21 rfl ?_
      refine w_iload d140_23 rfl ?_
      refine w_aload_n d140_25 rfl ?_
      refine w_iload_n d140_26 rfl ?_
      refine w_iload_n d140_27 rfl ?_
      refine w_callv6 d140_28 (by omega) rfl ha (by simp) (Nat.le_of_ble_eq_true rfl) ?_
      refine c_Row_order (by omega) hR ha hb ⟨hge, hle⟩ hf ?_
      refine w_ifne d140_31 (fun c31 => ?_) (fun c31 => ?_)
      · have e : ¬ sl (rl h a) i (lineE (rl h a) i) = sl (rl h b) f e := fun q => c31 (cmpL_eq.mpr q)
        refine w_iload d140_36 rfl ?_
        refine w_iconst d140_38 (by decide) ?_
        refine w_iadd d140_39 (by constructor <;> omega) ?_
        refine w_istore4 d140_40 rfl ?_
        refine w_goto d140_42 ?_
        refine w_less ?_ (IH ((rl h a).length + 1 - (lineE (rl h a) i + 1)) (by omega) (lineE (rl h a) i + 1) rfl (by omega) (by rw [hi]; exact ⟨fun q => q.resolve_left (fun z => e z.symm), Or.inr⟩))
        exact ⟨Or.inr rfl, Or.inr rfl, Or.inr rfl, Or.inr rfl, Or.inr rfl, Or.inl rfl, trivial⟩
      · have e : sl (rl h a) i (lineE (rl h a) i) = sl (rl h b) f e := cmpL_eq.mp c31
        refine w_iconst d140_34 (by decide) ?_
        refine w_zreturn d140_35 (by decide) ?_
        exact qI (by rw [if_pos (hi.mpr (Or.inl e.symm))]) kk
  refine w_iconst d140_0 (by decide) ?_
  refine w_istore4 d140_1 rfl ?_
  exact L _ 0 rfl (Nat.zero_le _) Iff.rfl
theorem d139_2 : dc 139 2 = some (.iload_n 2, 3) := by decide +kernel
theorem d139_3 : dc 139 3 = some (.aload_n 1, 4) := by decide +kernel
theorem d139_4 : dc 139 4 = some (.getfield 641, 7) := by decide +kernel
theorem d139_7 : dc 139 7 = some (.if_icmp .ge ((35 : Nat) : Int), 10) := by decide +kernel
theorem d139_10 : dc 139 10 = some (.aload_n 1, 11) := by decide +kernel
theorem d139_11 : dc 139 11 = some (.iload_n 2, 12) := by decide +kernel
theorem d139_12 : dc 139 12 = some (.invokevirtual 117, 15) := by decide +kernel
theorem d139_15 : dc 139 15 = some (.istore_n 3, 16) := by decide +kernel
theorem d139_16 : dc 139 16 = some (.aload_n 0, 17) := by decide +kernel
theorem d139_17 : dc 139 17 = some (.aload_n 1, 18) := by decide +kernel
theorem d139_18 : dc 139 18 = some (.iload_n 2, 19) := by decide +kernel
theorem d139_19 : dc 139 19 = some (.iload_n 3, 20) := by decide +kernel
theorem d139_20 : dc 139 20 = some (.invokevirtual 140, 23) := by decide +kernel
theorem d139_23 : dc 139 23 = some (.ifCond .ne ((28 : Nat) : Int), 26) := by decide +kernel
theorem d139_26 : dc 139 26 = some (.iconst 0, 27) := by decide +kernel
theorem d139_27 : dc 139 27 = some (.freturn, 28) := by decide +kernel
theorem d139_28 : dc 139 28 = some (.iload_n 3, 29) := by decide +kernel
theorem d139_29 : dc 139 29 = some (.iconst 1, 30) := by decide +kernel
theorem d139_30 : dc 139 30 = some (.iadd, 31) := by decide +kernel
theorem d139_31 : dc 139 31 = some (.istore_n 2, 32) := by decide +kernel
theorem d139_32 : dc 139 32 = some (.goto ((2 : Nat) : Int), 35) := by decide +kernel
theorem d139_35 : dc 139 35 = some (.iconst 1, 36) := by decide +kernel
theorem d139_36 : dc 139 36 = some (.freturn, 37) := by decide +kernel
theorem d139_0 : dc 139 0 = some (.iconst 0, 1) := by decide +kernel
theorem d139_1 : dc 139 1 = some (.istore_n 2, 2) := by decide +kernel
theorem c_Row_hasLinesOf {G : Nat → Option Nat} {d : Nat} {h : Hp} {Q : Option MV → Hp → Prop} {a b : Nat} (h1 : 3 ≤ d) (hR : RowsOk h) (ha : KD h a = 6) (hb : KD h b = 6) (kk : Q (some (vI (if ∀ t ∈ lns (rl h b), t ∈ lns (rl h a) then 1 else 0))) h) : Cl G d 139 [vR (some a), vR (some b)] h Q := by
  show Wp G d 139 0 [some (vR (some a)), some (vR (some b)), none, none] [] h Q
  have hl := rl_len (hR.1 a ha)
  obtain ⟨w1, w2, w3, w4⟩ := hR.1 a ha
  have hcp := hR.2.2.2.2 (rw0 h a)
  have hcq : LN h (rw0 h a) = cap h a := rfl
  have hlb := rl_len (hR.1 b hb)
  obtain ⟨v1, v2, v3, v4⟩ := hR.1 b hb
  have hcv := hR.2.2.2.2 (rw0 h b)
  have hcw : LN h (rw0 h b) = cap h b := rfl
  have L : ∀ (m : Nat) (i : Nat), (rl h b).length + 1 - i = m → i ≤ (rl h b).length + 1 → ((∀ t ∈ lns (rl h b), t ∈ lns (rl h a)) ↔ ∀ t ∈ lns ((rl h b).drop i), t ∈ lns (rl h a)) → Wp G d 139 2 [some (vR (some a)), some (vR (some b)), some (vI (i : Nat)), none] [] h Q := by
    intro m
    induction m using Nat.strongRecOn with | ind m IH => ?_
    intro i hm i1 hi
    refine w_iload_n d139_2 rfl ?_
    refine w_aload_n d139_3 rfl ?_
    refine w_getI d139_4 hb hlb ?_
    refine w_icmpge d139_7 (fun c7 => ?_) (fun c7 => ?_)
    · refine w_iconst d139_35 (by decide) ?_
      refine w_zreturn d139_36 (by decide) ?_
      exact qI (by rw [if_pos (hi.mpr (by rw [List.drop_eq_nil_of_le (by omega)]; intro t q; cases q))]) kk
    · have hle := lineE_le (l := rl h b) (i := i) (by omega)
      have hge := lineE_ge (rl h b) i
      rw [lns_at (by omega), List.forall_mem_cons] at hi
      refine w_aload_n d139_10 rfl ?_
      refine w_iload_n d139_11 rfl ?_
      refine w_callv2 d139_12 (by omega) rfl hb (by simp) (Nat.le_of_ble_eq_true rfl) ?_
      refine c_Row_lineEnd (by omega) hR hb (by constructor <;> omega) ?_
      rw [show (((i : Nat) : Int)).toNat = i from rfl]
      refine w_istore3 d139_15 rfl ?_
      refine w_aload_n d139_16 rfl ?_
      refine w_aload_n d139_17 rfl ?_
      refine w_iload_n d139_18 rfl ?_
      refine w_iload_n d139_19 rfl ?_
      refine w_callv4 d139_20 (by omega) rfl ha (by simp) (Nat.le_of_ble_eq_true rfl) ?_
      refine c_Row_hasLine (by omega) hR ha hb ⟨hge, hle⟩ ?_
      refine w_ifne d139_23 (fun c23 => ?_) (fun c23 => ?_)
      · have e : sl (rl h b) i (lineE (rl h b) i) ∈ lns (rl h a) := by
          rcases Classical.em (sl (rl h b) i (lineE (rl h b) i) ∈ lns (rl h a)) with q | q
          · exact q
          · rw [if_neg q] at c23; exact absurd rfl c23
        refine w_iload_n d139_28 rfl ?_
        refine w_iconst d139_29 (by decide) ?_
        refine w_iadd d139_30 (by constructor <;> omega) ?_
        refine w_istore2 d139_31 rfl ?_
        refine w_goto d139_32 ?_
        refine w_less ?_ (IH ((rl h b).length + 1 - (lineE (rl h b) i + 1)) (by omega) (lineE (rl h b) i + 1) rfl (by omega) (by rw [hi]; exact ⟨fun q => q.2, fun q => ⟨e, q⟩⟩))
        exact ⟨Or.inr rfl, Or.inr rfl, Or.inr rfl, Or.inl rfl, trivial⟩
      · have e : ¬ sl (rl h b) i (lineE (rl h b) i) ∈ lns (rl h a) := fun q => by rw [if_pos q] at c23; cases c23
        refine w_iconst d139_26 (by decide) ?_
        refine w_zreturn d139_27 (by decide) ?_
        exact qI (by rw [if_neg (fun q => e (hi.mp q).1)]) kk
  refine w_iconst d139_0 (by decide) ?_
  refine w_istore2 d139_1 rfl ?_
  exact L _ 0 rfl (Nat.zero_le _) Iff.rfl
