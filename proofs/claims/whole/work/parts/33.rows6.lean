/-! rows: rows to rows, digests -/
theorem addBs_eq {n : Nat} {cs l : List Nat} (h : l.length ≤ n) : addBs n l cs = l ++ cs.take (n - l.length) := by
  induction cs generalizing l with
  | nil => simp [addBs]
  | cons c cs ih =>
    show addBs n (addB n l c) cs = _
    unfold addB
    split
    · rename_i q
      rw [ih (by simp; omega)]
      simp
      rw [show n - l.length = (n - (l.length + 1)) + 1 by omega]
      simp
    · rename_i q
      rw [ih h, show n - l.length = 0 by omega]
      simp
def dstep (v : Int64) (c : Nat) : Int64 := (v ^^^ (i32 (c : Int)).toInt64) * 1099511628211
def dig (l : List Nat) : Int64 := l.foldl dstep (-3750763034362895579)
theorem dig_snoc {l : List Nat} {i : Nat} (h : i < l.length) : dig (l.take (i + 1)) = dstep (dig (l.take i)) (l.getD i 0) := by
  rw [take_succ h]
  unfold dig
  rw [List.foldl_append]
  rfl
def untold (c : Nat) : Nat := if c = 124 then 10 else c
theorem d107_6 : dc 107 6 = some (.iload_n 3, 7) := by decide +kernel
theorem d107_7 : dc 107 7 = some (.aload_n 0, 8) := by decide +kernel
theorem d107_8 : dc 107 8 = some (.getfield 641, 11) := by decide +kernel
theorem d107_11 : dc 107 11 = some (.if_icmp .ge ((38 : Nat) : Int), 14) := by decide +kernel
theorem d107_14 : dc 107 14 = some (.lload_n 1, 15) := by decide +kernel
theorem d107_15 : dc 107 15 = some (.aload_n 0, 16) := by decide +kernel
theorem d107_16 : dc 107 16 = some (.dload 640, 19) := by decide +kernel
theorem d107_19 : dc 107 19 = some (.iload_n 3, 20) := by decide +kernel
theorem d107_20 : dc 107 20 = some (.baload, 21) := by decide +kernel
theorem d107_21 : dc 107 21 = some (.sipush 255, 24) := by decide +kernel
theorem d107_24 : dc 107 24 = some (.iand, 25) := by decide +kernel
theorem d107_25 : dc 107 25 = some (.i2l, 26) := by decide +kernel
theorem d107_26 : dc 107 26 = some (.lxor, 27) := by decide +kernel
theorem d107_27 : dc 107 27 = some (.ldc2_w 1, 30) := by decide +kernel
theorem d107_30 : dc 107 30 = some (.lmul, 31) := by decide +kernel
theorem d107_31 : dc 107 31 = some (.lstore_n 1, 32) := by decide +kernel
theorem d107_32 : dc 107 32 = some (.iinc 3 1, 35) := by decide +kernel
theorem d107_35 : dc 107 35 = some (.goto ((6 : Nat) : Int), 38) := by decide +kernel
theorem d107_38 : dc 107 38 = some (.lload_n 1, 39) := by decide +kernel
theorem d107_39 : dc 107 39 = some (.lreturn, 40) := by decide +kernel
theorem d107_0 : dc 107 0 = some (.ldc2_w 0, 3) := by decide +kernel
theorem d107_3 : dc 107 3 = some (.lstore_n 1, 4) := by decide +kernel
theorem d107_4 : dc 107 4 = some (.iconst 0, 5) := by decide +kernel
theorem d107_5 : dc 107 5 = some (.istore_n 3, 6) := by decide +kernel
theorem c_Row_digest {G : Nat → Option Nat} {d : Nat} {h : Hp} {Q : Option MV → Hp → Prop} {a : Nat} (hR : RowsOk h) (ha : KD h a = 6) (kk : Q (some (vJ (dig (rl h a)))) h) : Cl G d 107 [vR (some a)] h Q := by
  show Wp G d 107 0 [some (vR (some a)), none, none, none] [] h Q
  have hl := rl_len (hR.1 a ha)
  obtain ⟨w1, w2, w3, w4⟩ := hR.1 a ha
  have hcp := hR.2.2.2.2 (rw0 h a)
  have hcq : LN h (rw0 h a) = cap h a := rfl
  have hca := rl_cap (hR.1 a ha)
  have L : ∀ (m : Nat) (i : Nat), (rl h a).length - i = m → i ≤ (rl h a).length → Wp G d 107 6 [some (vR (some a)), some (vJ (dig ((rl h a).take i))), none, some (vI (i : Nat))] [] h Q := by
    intro m
    induction m using Nat.strongRecOn with | ind m IH => ?_
    intro i hm i1
    refine w_iload_n d107_6 rfl ?_
    refine w_aload_n d107_7 rfl ?_
    refine w_getI d107_8 ha hl ?_
    refine w_icmpge d107_11 (fun c11 => ?_) (fun c11 => ?_)
    · refine w_lload_n d107_38 rfl ?_
      refine w_lreturn d107_39 ?_
      exact (show dig ((rl h a).take i) = dig (rl h a) by rw [List.take_of_length_le (by omega)]) ▸ kk
    · refine w_lload_n d107_14 rfl ?_
      refine w_aload_n d107_15 rfl ?_
      refine w_dloadS d107_16 ha w1 ?_
      refine w_iload_n d107_19 rfl ?_
      refine w_baload d107_20 ⟨by rw [w2]; rfl, by omega, by show (i : Int) < (cap h a : Int); omega⟩ ?_
      refine w_sipush d107_21 (by decide) ?_
      refine w_iand d107_24 ?_
      refine w_i2l d107_25 ?_
      refine w_lxor d107_26 ?_
      refine w_ldc2_w d107_27 ?_
      refine w_lmul d107_30 ?_
      have e : ((dig ((rl h a).take i)) ^^^ (i32 (i32 (AI h (rw0 h a) ((i : Nat) : Int).toNat) &&& i32 255).toInt).toInt64) * lngV 1 = dig ((rl h a).take (i + 1)) := by
        rw [dig_snoc (by omega), u8_and (hR.2.2.2.1 _ _ w2), rl_at (by omega)]
        rfl
      rw [e]
      refine w_lstore1 d107_31 rfl ?_
      refine w_iinc3 d107_32 rfl (by constructor <;> omega) ?_
      refine w_goto d107_35 ?_
      exact IH ((rl h a).length - (i + 1)) (by omega) (i + 1) rfl (by omega)
  refine w_ldc2_w d107_0 ?_
  refine w_lstore1 d107_3 rfl ?_
  refine w_iconst d107_4 (by decide) ?_
  refine w_istore3 d107_5 rfl ?_
  exact L _ 0 rfl (Nat.zero_le _)
theorem d109_0 : dc 109 0 = some (.aload_n 1, 1) := by decide +kernel
theorem d109_1 : dc 109 1 = some (.getfield 641, 4) := by decide +kernel
theorem d109_4 : dc 109 4 = some (.aload_n 0, 5) := by decide +kernel
theorem d109_5 : dc 109 5 = some (.dload 640, 8) := by decide +kernel
theorem d109_8 : dc 109 8 = some (.arraylength, 9) := by decide +kernel
theorem d109_9 : dc 109 9 = some (.aload_n 0, 10) := by decide +kernel
theorem d109_10 : dc 109 10 = some (.getfield 641, 13) := by decide +kernel
theorem d109_13 : dc 109 13 = some (.isub, 14) := by decide +kernel
theorem d109_14 : dc 109 14 = some (.invokestatic 4, 17) := by decide +kernel
theorem d109_17 : dc 109 17 = some (.istore_n 2, 18) := by decide +kernel
theorem d109_18 : dc 109 18 = some (.iload_n 2, 19) := by decide +kernel
theorem d109_19 : dc 109 19 = some (.ifCond .le ((49 : Nat) : Int), 22) := by decide +kernel
theorem d109_22 : dc 109 22 = some (.aload_n 1, 23) := by decide +kernel
theorem d109_23 : dc 109 23 = some (.dload 640, 26) := by decide +kernel
theorem d109_26 : dc 109 26 = some (.iconst 0, 27) := by decide +kernel
theorem d109_27 : dc 109 27 = some (.aload_n 0, 28) := by decide +kernel
theorem d109_28 : dc 109 28 = some (.dload 640, 31) := by decide +kernel
theorem d109_31 : dc 109 31 = some (.aload_n 0, 32) := by decide +kernel
theorem d109_32 : dc 109 32 = some (.getfield 641, 35) := by decide +kernel
theorem d109_35 : dc 109 35 = some (.iload_n 2, 36) := by decide +kernel
theorem d109_36 : dc 109 36 = some (.invokestatic 0, 39) := by decide +kernel
theorem d109_39 : dc 109 39 = some (.aload_n 0, 40) := by decide +kernel
theorem d109_40 : dc 109 40 = some (.dup, 41) := by decide +kernel
theorem d109_41 : dc 109 41 = some (.getfield 641, 44) := by decide +kernel
theorem d109_44 : dc 109 44 = some (.iload_n 2, 45) := by decide +kernel
theorem d109_45 : dc 109 45 = some (.iadd, 46) := by decide +kernel
theorem d109_46 : dc 109 46 = some (.putfield 641, 49) := by decide +kernel
theorem d109_49 : dc 109 49 = some (.return_, 50) := by decide +kernel
theorem c_Row_addRow {G : Nat → Option Nat} {d : Nat} {h : Hp} {Q : Option MV → Hp → Prop} {a b : Nat} (h1 : 1 ≤ d) (hR : RowsOk h) (ha : KD h a = 6) (hb : KD h b = 6) (hab : b ≠ a) (kk : ∀ h', RSt h h' a (addBs (cap h a) (rl h a) (rl h b)) → Q none h') : Cl G d 109 [vR (some a), vR (some b)] h Q := by
  show Wp G d 109 0 [some (vR (some a)), some (vR (some b)), none] [] h Q
  have hl := rl_len (hR.1 a ha)
  obtain ⟨w1, w2, w3, w4⟩ := hR.1 a ha
  have hcp := hR.2.2.2.2 (rw0 h a)
  have hcq : LN h (rw0 h a) = cap h a := rfl
  have hca := rl_cap (hR.1 a ha)
  have hlb := rl_len (hR.1 b hb)
  obtain ⟨v1, v2, v3, v4⟩ := hR.1 b hb
  have hcv := hR.2.2.2.2 (rw0 h b)
  have hcw : LN h (rw0 h b) = cap h b := rfl
  have hcb := rl_cap (hR.1 b hb)
  refine w_aload_n d109_0 rfl ?_
  refine w_getI d109_1 hb hlb ?_
  refine w_aload_n d109_4 rfl ?_
  refine w_dloadS d109_5 ha w1 ?_
  refine w_arraylength d109_8 (by rw [w2]; rfl) ?_
  refine w_aload_n d109_9 rfl ?_
  refine w_getI d109_10 ha hl ?_
  refine w_isub d109_13 (by rw [hcq]; constructor <;> omega) ?_
  refine w_min d109_14 (by refine ⟨by simp, ?_⟩; omega) ?_
  have eC : (if ((LN h (rw0 h a) : Nat) : Int) - ((rl h a).length : Int) < ((rl h b).length : Int) then ((LN h (rw0 h a) : Nat) : Int) - ((rl h a).length : Int) else ((rl h b).length : Int)) = ((min (cap h a - (rl h a).length) (rl h b).length : Nat) : Int) := by
    rw [hcq]
    split <;> omega
  rw [eC]
  generalize hC : min (cap h a - (rl h a).length) (rl h b).length = C
  refine w_istore2 d109_17 rfl ?_
  refine w_iload_n d109_18 rfl ?_
  refine w_ifle d109_19 (fun c19 => ?_) (fun c19 => ?_)
  · have eL : addBs (cap h a) (rl h a) (rl h b) = rl h a := by
      rw [addBs_eq hca]
      have : (rl h b).take (cap h a - (rl h a).length) = [] := by
        rcases Nat.eq_zero_or_pos (rl h b).length with q | q
        · rw [List.length_eq_zero_iff.mp q]; exact List.take_nil
        · rw [show cap h a - (rl h a).length = 0 by omega]; rfl
      rw [this, List.append_nil]
    refine w_return d109_49 ?_
    exact kk _ (by rw [eL]; exact RSt.refl hR)
  · refine w_aload_n d109_22 rfl ?_
    refine w_dloadS d109_23 hb v1 ?_
    refine w_iconst d109_26 (by decide) ?_
    refine w_aload_n d109_27 rfl ?_
    refine w_dloadS d109_28 ha w1 ?_
    refine w_aload_n d109_31 rfl ?_
    refine w_getI d109_32 ha hl ?_
    refine w_iload_n d109_35 rfl ?_
    refine w_arraycopy d109_36 ⟨⟨⟨fun q => hab (hR.2.1 b a hb ha q), by rw [v2, w2], Or.inr (Or.inl w2)⟩, by simp, by omega⟩, by omega, by omega, by omega, by rw [hcw]; omega, by rw [hcq]; omega⟩ ?_
    rw [if_neg (by rw [w2]; decide)]
    have s1 := rst_cpy (s := rw0 h b) (sp := 0) (tp := (rl h a).length) (n := C) hR ha v2
    have e1 : cpI h (rw0 h b) (Int.toNat 0) (rw0 h a) (((rl h a).length : Nat) : Int).toNat ((C : Nat) : Int).toNat = cpI h (rw0 h b) 0 (rw0 h a) (rl h a).length C := rfl
    rw [e1]
    have hA : ∀ j, AI (cpI h (rw0 h b) 0 (rw0 h a) (rl h a).length C) (rw0 h a) j = if (rl h a).length ≤ j ∧ j < (rl h a).length + C then AI h (rw0 h b) (0 + (j - (rl h a).length)) else AI h (rw0 h a) j := fun j => by
      show (if rw0 h a = rw0 h a ∧ _ then _ else _) = _
      by_cases hj : (rl h a).length ≤ j ∧ j < (rl h a).length + C
      · rw [if_pos ⟨rfl, hj⟩, if_pos hj]
      · rw [if_neg (fun q => hj q.2), if_neg hj]
    have k1 : KD (cpI h (rw0 h b) 0 (rw0 h a) (rl h a).length C) a = 6 := ha
    have f1 : FI (cpI h (rw0 h b) 0 (rw0 h a) (rl h a).length C) 641 a = ((rl h a).length : Int) := hl
    have r1 : rw0 (cpI h (rw0 h b) 0 (rw0 h a) (rl h a).length C) a = rw0 h a := rfl
    generalize cpI h (rw0 h b) 0 (rw0 h a) (rl h a).length C = h1 at s1 hA k1 f1 r1
    refine w_aload_n d109_39 rfl ?_
    refine w_dupR d109_40 ?_
    refine w_getI d109_41 k1 f1 ?_
    refine w_iload_n d109_44 rfl ?_
    refine w_iadd d109_45 (by constructor <;> omega) ?_
    refine w_putfield d109_46 ⟨k1, by decide⟩ ?_
    have s2 := rst_sz (v := ((rl h a).length : Int) + ((C : Nat) : Int)) s1.1.1 k1 (by rw [s1.2.2 a ha]; omega)
    refine w_return d109_49 ?_
    refine kk _ ?_
    have s3 := RSt.trans hR s1 s2
    have e : ((List.range (((rl h a).length : Int) + ((C : Nat) : Int)).toNat).map fun j => u8 (AI h1 (rw0 h1 a) j)) = addBs (cap h a) (rl h a) (rl h b) := by
      rw [addBs_eq hca, show (((rl h a).length : Int) + ((C : Nat) : Int)).toNat = (rl h a).length + C by omega]
      have eT : (rl h b).take (cap h a - (rl h a).length) = (rl h b).take C := by
        rcases Nat.le_total (rl h b).length (cap h a - (rl h a).length) with q | q
        · rw [List.take_of_length_le q, List.take_of_length_le (by omega)]
        · rw [show C = cap h a - (rl h a).length by omega]
      rw [eT]
      refine List.ext_getElem (by simp; omega) fun i i1 i2 => ?_
      simp at i1
      rw [List.getElem_map, List.getElem_range, r1, hA]
      by_cases hi : i < (rl h a).length
      · rw [if_neg (by omega), List.getElem_append_left hi]
        simp [rl]
      · rw [if_pos (by omega), List.getElem_append_right (by omega)]
        simp [rl]
    rw [← e]
    exact s3
theorem d90_10 : dc 90 10 = some (.iload 4, 12) := by decide +kernel
theorem d90_12 : dc 90 12 = some (.aload_n 0, 13) := by decide +kernel
theorem d90_13 : dc 90 13 = some (.getfield 641, 16) := by decide +kernel
theorem d90_16 : dc 90 16 = some (.if_icmp .ge ((46 : Nat) : Int), 19) := by decide +kernel
theorem d90_19 : dc 90 19 = some (.aload_n 0, 20) := by decide +kernel
theorem d90_20 : dc 90 20 = some (.dload 640, 23) := by decide +kernel
theorem d90_23 : dc 90 23 = some (.iload 4, 25) := by decide +kernel
theorem d90_25 : dc 90 25 = some (.baload, 26) := by decide +kernel
theorem d90_26 : dc 90 26 = some (.bipush 124, 28) := by decide +kernel
theorem d90_28 : dc 90 28 = some (.if_icmp .ne ((40 : Nat) : Int), 31) := by decide +kernel
theorem d90_31 : dc 90 31 = some (.aload_n 0, 32) := by decide +kernel
theorem d90_32 : dc 90 32 = some (.dload 640, 35) := by decide +kernel
theorem d90_35 : dc 90 35 = some (.iload 4, 37) := by decide +kernel
theorem d90_37 : dc 90 37 = some (.bipush 10, 39) := by decide +kernel
theorem d90_39 : dc 90 39 = some (.bastore, 40) := by decide +kernel
theorem d90_46 : dc 90 46 = some (.return_, 47) := by decide +kernel
theorem range_set {n i v : Nat} {g : Nat → Nat} : (List.range n).map (fun j => if j = i then v else g j) = ((List.range n).map g).set i v := by
  refine List.ext_getElem (by simp) fun j j1 j2 => ?_
  rw [List.getElem_map, List.getElem_range, List.getElem_set, List.getElem_map, List.getElem_range]
  by_cases h : j = i
  · rw [if_pos h, if_pos h.symm]
  · rw [if_neg h, if_neg (fun q => h q.symm)]
theorem set_mid {A B : List Nat} {c v i : Nat} (h : A.length = i) : (A ++ c :: B).set i v = A ++ v :: B := by
  subst h
  rw [List.set_append_right _ _ (Nat.le_refl _), Nat.sub_self]
  rfl
theorem drop_at {l : List Nat} {i : Nat} (h : i < l.length) : l.drop i = l.getD i 0 :: l.drop (i + 1) := by
  rw [List.drop_eq_getElem_cons h, List.getD_eq_getElem?_getD, List.getElem?_eq_getElem h]
  rfl
theorem d90_40 : dc 90 40 = some (.iinc 4 1, 43) := by decide +kernel
theorem d90_43 : dc 90 43 = some (.goto ((10 : Nat) : Int), 46) := by decide +kernel
theorem w90 {G : Nat → Option Nat} {d : Nat} {h : Hp} {Q : Option MV → Hp → Prop} {a b : Nat} {f e : Int} (hR : RowsOk h) (ha : KD h a = 6) (kk : ∀ h', RSt h h' a ((rl h a).map untold) → Q none h') : Wp G d 90 10 [some (vR (some a)), some (vR (some b)), some (vI f), some (vI e), some (vI 0)] [] h Q := by
  have L : ∀ (m : Nat) (h1 : Hp) (i : Nat), (rl h a).length - i = m → i ≤ (rl h a).length → RSt h h1 a (((rl h a).take i).map untold ++ (rl h a).drop i) → Wp G d 90 10 [some (vR (some a)), some (vR (some b)), some (vI f), some (vI e), some (vI (i : Nat))] [] h1 Q := by
    intro m
    induction m using Nat.strongRecOn with | ind m IH => ?_
    intro h1 i hm i1 hs
    have ka := hs.1.kd ha (by decide)
    obtain ⟨u1, u2, u3, u4⟩ := hs.ok.1 a ka
    have l1 := rl_len (hs.ok.1 a ka)
    have ll : (rl h1 a).length = (rl h a).length := by rw [hs.2.1]; simp; omega
    rw [ll] at l1
    have hcp := hs.ok.2.2.2.2 (rw0 h1 a)
    have hcq : LN h1 (rw0 h1 a) = cap h1 a := rfl
    have g0 : i < (rl h a).length → (rl h a).getD i 0 = u8 (AI h1 (rw0 h1 a) i) := fun q => by
      rw [← rl_at (by rw [ll]; exact q), hs.2.1]
      rw [List.getD_eq_getElem?_getD, List.getD_eq_getElem?_getD, List.getElem?_append_right (by simp; omega)]
      simp
      congr 2
      omega
    refine w_iload d90_10 rfl ?_
    refine w_aload_n d90_12 rfl ?_
    refine w_getfield d90_13 (by assumption) ?_
    refine w_icmpge d90_16 (fun c16 => ?_) (fun c16 => ?_)
    · refine w_return d90_46 ?_
      exact kk _ (by rw [List.take_of_length_le (by omega), List.drop_eq_nil_of_le (by omega), List.append_nil] at hs; exact hs)
    · refine w_aload_n d90_19 rfl ?_
      refine w_dloadS d90_20 ka u1 ?_
      refine w_iload d90_23 rfl ?_
      refine w_baload d90_25 ⟨by rw [u2]; rfl, by omega, by show (i : Int) < (cap h1 a : Int); omega⟩ ?_
      refine w_bipush d90_26 (by decide) ?_
      refine w_icmpne d90_28 (fun c28 => ?_) (fun c28 => ?_)
      · have c28 : AI h1 (rw0 h1 a) i ≠ 124 := c28
        have eg : untold ((rl h a).getD i 0) = (rl h a).getD i 0 := if_neg (fun q => c28 ((u8_eq (c := 124) (hs.ok.2.2.2.1 _ _ u2) (by decide)).mp ((g0 (by omega)).symm.trans q)))
        refine w_iinc4 d90_40 rfl (by constructor <;> omega) ?_
        refine w_goto d90_43 ?_
        exact IH ((rl h a).length - (i + 1)) (by omega) h1 (i + 1) rfl (by omega) (by rw [take_succ (by omega), List.map_append, List.map_singleton, eg, List.append_assoc, List.singleton_append, ← drop_at (by omega)]; exact hs)
      · have c28 : AI h1 (rw0 h1 a) i = 124 := c28
        have eg : untold ((rl h a).getD i 0) = 10 := if_pos ((g0 (by omega)).trans (by rw [c28]; rfl))
        refine w_aload_n d90_31 rfl ?_
        refine w_dloadS d90_32 (by assumption) (by assumption) ?_
        refine w_iload d90_35 rfl ?_
        refine w_bipush d90_37 (by decide) ?_
        refine w_bastore d90_39 ⟨Or.inl ⟨u2, by decide⟩, by omega, by show (i : Int) < (cap h1 a : Int); omega⟩ ?_
        have s2 := rst_put (j := i) (v := 10) hs.ok ka (by decide) (by omega)
        refine w_iinc4 d90_40 rfl (by constructor <;> omega) ?_
        refine w_goto d90_43 ?_
        refine IH ((rl h a).length - (i + 1)) (by omega) _ (i + 1) rfl (by omega) ?_
        have s3 := RSt.trans hR hs s2
        have e1 : (List.range (FI h1 641 a).toNat).map (fun j => if j = i then u8 10 else u8 (AI h1 (rw0 h1 a) j)) = ((rl h a).take (i + 1)).map untold ++ (rl h a).drop (i + 1) := by
          rw [range_set]
          have e0 : (List.range (FI h1 641 a).toNat).map (fun j => u8 (AI h1 (rw0 h1 a) j)) = ((rl h a).take i).map untold ++ (rl h a).drop i := hs.2.1
          rw [e0, drop_at (by omega), set_mid (by simp; omega), take_succ (by omega), List.map_append, List.map_singleton, eg, List.append_assoc]
          rfl
        rw [e1] at s3
        exact s3
  exact L _ h 0 rfl (Nat.zero_le _) (RSt.refl hR)
theorem d90_0 : dc 90 0 = some (.aload_n 0, 1) := by decide +kernel
theorem d90_1 : dc 90 1 = some (.aload_n 1, 2) := by decide +kernel
theorem d90_2 : dc 90 2 = some (.iload_n 2, 3) := by decide +kernel
theorem d90_3 : dc 90 3 = some (.iload_n 3, 4) := by decide +kernel
theorem d90_4 : dc 90 4 = some (.invokevirtual 17, 7) := by decide +kernel
theorem d90_7 : dc 90 7 = some (.iconst 0, 8) := by decide +kernel
theorem d90_8 : dc 90 8 = some (.istore 4, 10) := by decide +kernel
theorem c_Row_setTold {G : Nat → Option Nat} {d : Nat} {h : Hp} {Q : Option MV → Hp → Prop} {a b : Nat} {f e : Int} (hR : RowsOk h) (h1 : 2 ≤ d) (ha : KD h a = 6) (hb : KD h b = 6) (hab : b ≠ a) (hfe : InR f ∧ InR e ∧ f ≤ 1000000000 ∧ -1000000000 ≤ e) (hg : (min e ((rl h b).length : Int)).toNat - f.toNat ≤ cap h a ∨ (min e ((rl h b).length : Int)).toNat - f.toNat ≤ 608)
    (kk : ∀ h', Rw (fun x => x = a) h h' → rl h' a = (sl (rl h b) f.toNat (min e ((rl h b).length : Int)).toNat).map untold → ((min e ((rl h b).length : Int)).toNat - f.toNat ≤ cap h a → ∀ x, KD h x = 6 → cap h' x = cap h x) → Q none h') : Cl G d 90 [vR (some a), vR (some b), vI f, vI e] h Q := by
  show Wp G d 90 0 [some (vR (some a)), some (vR (some b)), some (vI f), some (vI e), none] [] h Q
  refine w_aload_n d90_0 rfl ?_
  refine w_aload_n d90_1 rfl ?_
  refine w_iload_n d90_2 rfl ?_
  refine w_iload_n d90_3 rfl ?_
  refine w_callv4 d90_4 (by omega) rfl ha (by simp) (Nat.le_of_ble_eq_true rfl) ?_
  refine c_Row_set hR (by omega) ha hb hab hfe hg (fun h2 r2 e2 q2 => ?_)
  refine w_iconst d90_7 (by decide) ?_
  refine w_istore4 d90_8 rfl ?_
  refine w90 r2.1 (r2.kd ha (by decide)) (fun h3 s3 => ?_)
  refine kk h3 (r2.trans hR s3.1) (by rw [s3.2.1, e2]) (fun q x hx => (s3.2.2 x (r2.kd hx (by decide))).trans (q2 q x hx))
