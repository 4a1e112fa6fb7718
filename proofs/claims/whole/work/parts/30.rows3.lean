/-! rows: lines, order -/
theorem u8_eq {x : Int} {c : Nat} (h : -128 ≤ x ∧ x < 128) (hc : c < 128) : u8 x = c ↔ x = (c : Int) := by
  unfold u8
  omega
theorem atv_in {l : List Nat} {i : Int} (h : 0 ≤ i ∧ i < (l.length : Int)) : atv l i = ((l.getD i.toNat 0 : Nat) : Int) := if_pos h
def lineE (l : List Nat) (i : Nat) : Nat := i + ((l.drop i).takeWhile fun c => c != 10).length
theorem lineE_stop {l : List Nat} {i : Nat} (h : l.length ≤ i ∨ l.getD i 0 = 10) : lineE l i = i := by
  unfold lineE
  rcases Nat.lt_or_ge i l.length with q | q
  · have h2 : l.getD i 0 = 10 := by omega
    rw [List.drop_eq_getElem_cons q]
    rw [List.getD_eq_getElem?_getD, List.getElem?_eq_getElem q] at h2
    simp at h2
    simp [h2]
  · rw [List.drop_eq_nil_of_le q]
    rfl
theorem lineE_go {l : List Nat} {i : Nat} (h : i < l.length) (h2 : l.getD i 0 ≠ 10) : lineE l i = lineE l (i + 1) := by
  unfold lineE
  rw [List.getD_eq_getElem?_getD, List.getElem?_eq_getElem h] at h2
  have h3 : (l[i] != 10) = true := by simpa using h2
  rw [List.drop_eq_getElem_cons h, List.takeWhile_cons, if_pos h3, List.length_cons]
  omega
theorem lineE_ge (l : List Nat) (i : Nat) : i ≤ lineE l i := Nat.le_add_right _ _
theorem lineE_le {l : List Nat} {i : Nat} (h : i ≤ l.length) : lineE l i ≤ l.length := by
  unfold lineE
  have h1 := (List.takeWhile_prefix (p := fun c => c != 10) (l := l.drop i)).length_le
  rw [List.length_drop] at h1
  omega
/-- a part of a list -/
def sl (l : List Nat) (f e : Nat) : List Nat := (l.drop f).take (e - f)
def cmpL : List Nat → List Nat → Int
  | [], B => -(B.length : Int)
  | A, [] => (A.length : Int)
  | a :: A, b :: B => if a = b then cmpL A B else (a : Int) - (b : Int)
theorem sl_len {l : List Nat} {f e : Nat} (h : f ≤ e ∧ e ≤ l.length) : (sl l f e).length = e - f := by
  unfold sl
  rw [List.length_take, List.length_drop]
  omega
theorem sl_at {l : List Nat} {f e i : Nat} (h : f ≤ e ∧ e ≤ l.length) (hi : i < e - f) : (sl l f e).drop i = l.getD (f + i) 0 :: (sl l f e).drop (i + 1) := by
  have hl := sl_len h
  rw [List.drop_eq_getElem_cons (by omega)]
  congr 1
  rw [List.getD_eq_getElem?_getD, List.getElem?_eq_getElem (by omega)]
  simp [sl]
theorem cmpL_nil (A : List Nat) : cmpL A [] = (A.length : Int) := by cases A <;> simp [cmpL]
theorem cmpL_eq {A B : List Nat} : cmpL A B = 0 ↔ A = B := by
  induction A generalizing B with
  | nil => cases B with
    | nil => simp [cmpL]
    | cons b B => simp [cmpL]; omega
  | cons a A ih => cases B with
    | nil => simp [cmpL]; omega
    | cons b B =>
      unfold cmpL
      split
      · rename_i q
        rw [ih, q]
        simp
      · rename_i q
        constructor
        · intro z; omega
        · intro z; cases z; exact absurd rfl q
theorem d117_6 : dc 117 6 = some (.iload_n 2, 7) := by decide +kernel
theorem d117_7 : dc 117 7 = some (.aload_n 0, 8) := by decide +kernel
theorem d117_8 : dc 117 8 = some (.getfield 641, 11) := by decide +kernel
theorem d117_11 : dc 117 11 = some (.if_icmp .ge ((31 : Nat) : Int), 14) := by decide +kernel
theorem d117_14 : dc 117 14 = some (.aload_n 0, 15) := by decide +kernel
theorem d117_15 : dc 117 15 = some (.dload 640, 18) := by decide +kernel
theorem d117_18 : dc 117 18 = some (.iload_n 2, 19) := by decide +kernel
theorem d117_19 : dc 117 19 = some (.baload, 20) := by decide +kernel
theorem d117_20 : dc 117 20 = some (.bipush 10, 22) := by decide +kernel
theorem d117_22 : dc 117 22 = some (.if_icmp .eq ((31 : Nat) : Int), 25) := by decide +kernel
theorem d117_25 : dc 117 25 = some (.iinc 2 1, 28) := by decide +kernel
theorem d117_28 : dc 117 28 = some (.goto ((6 : Nat) : Int), 31) := by decide +kernel
theorem d117_31 : dc 117 31 = some (.iload_n 2, 32) := by decide +kernel
theorem d117_32 : dc 117 32 = some (.ireturn, 33) := by decide +kernel
theorem d117_0 : dc 117 0 = some (.iload_n 1, 1) := by decide +kernel
theorem d117_1 : dc 117 1 = some (.iconst 0, 2) := by decide +kernel
theorem d117_2 : dc 117 2 = some (.invokestatic 3, 5) := by decide +kernel
theorem d117_5 : dc 117 5 = some (.istore_n 2, 6) := by decide +kernel
theorem c_Row_lineEnd {G : Nat → Option Nat} {d : Nat} {h : Hp} {Q : Option MV → Hp → Prop} {a : Nat} {f : Int} (h1 : 1 ≤ d) (hR : RowsOk h) (ha : KD h a = 6) (hf : InR f) (kk : Q (some (vI (lineE (rl h a) f.toNat : Nat))) h) : Cl G d 117 [vR (some a), vI f] h Q := by
  show Wp G d 117 0 [some (vR (some a)), some (vI f), none] [] h Q
  have hw := hR.1 a ha
  have hl := rl_len hw
  obtain ⟨w1, w2, w3, w4⟩ := hw
  have hcp := hR.2.2.2.2 (rw0 h a)
  have hcq : LN h (rw0 h a) = cap h a := rfl
  have L : ∀ (m : Nat) (i : Nat), (rl h a).length - i = m → lineE (rl h a) i = lineE (rl h a) f.toNat → ((i : Int) = (if f < 0 then 0 else f) ∨ i ≤ (rl h a).length) → InR (i : Int) → Wp G d 117 6 [some (vR (some a)), some (vI f), some (vI (i : Int))] [] h Q := by
    intro m
    induction m using Nat.strongRecOn with | ind m IH => ?_
    intro i hm hi hj hr
    refine w_iload_n d117_6 rfl ?_
    refine w_aload_n d117_7 rfl ?_
    refine w_getI d117_8 ha hl ?_
    refine w_icmpge d117_11 (fun c11 => ?_) (fun c11 => ?_)
    · refine w_iload_n d117_31 rfl ?_
      refine w_ireturn d117_32 ?_
      exact qI (by rw [← hi, lineE_stop (by omega)]) kk
    · refine w_aload_n d117_14 rfl ?_
      refine w_dloadS d117_15 ha w1 ?_
      refine w_iload_n d117_18 rfl ?_
      refine w_baload d117_19 ⟨by rw [w2]; rfl, by omega, by show (i : Int) < (cap h a : Int); omega⟩ ?_
      refine w_bipush d117_20 (by decide) ?_
      refine w_icmpeq d117_22 (fun c22 => ?_) (fun c22 => ?_)
      · have c22 : AI h (rw0 h a) i = 10 := c22
        refine w_iload_n d117_31 rfl ?_
        refine w_ireturn d117_32 ?_
        exact qI (by rw [← hi, lineE_stop (Or.inr (by rw [rl_at (by omega), c22]; rfl))]) kk
      · have c22 : AI h (rw0 h a) i ≠ 10 := c22
        have e : lineE (rl h a) i = lineE (rl h a) (i + 1) := lineE_go (by omega) (by rw [rl_at (by omega)]; intro q; exact c22 ((u8_eq (c := 10) (hR.2.2.2.1 _ _ w2) (by decide)).mp q))
        refine w_iinc2 d117_25 rfl (by constructor <;> omega) ?_
        refine w_goto d117_28 ?_
        exact IH ((rl h a).length - (i + 1)) (by omega) (i + 1) rfl (e ▸ hi) (by omega) (by constructor <;> omega)
  refine w_iload_n d117_0 rfl ?_
  refine w_iconst d117_1 (by decide) ?_
  refine w_max d117_2 (by refine ⟨by simp, ?_⟩; omega) ?_
  refine w_istore2 d117_5 rfl ?_
  refine (show ((f.toNat : Nat) : Int) = (if f < 0 then 0 else f) from ?_) ▸ (L _ f.toNat rfl rfl ?_ ?_)
  · split <;> omega
  · exact Or.inl (by first | (split <;> omega) | omega)
  · constructor <;> omega
theorem d118_23 : dc 118 23 = some (.iload 8, 25) := by decide +kernel
theorem d118_25 : dc 118 25 = some (.iload 6, 27) := by decide +kernel
theorem d118_27 : dc 118 27 = some (.if_icmp .ge ((71 : Nat) : Int), 30) := by decide +kernel
theorem d118_30 : dc 118 30 = some (.iload 8, 32) := by decide +kernel
theorem d118_32 : dc 118 32 = some (.iload 7, 34) := by decide +kernel
theorem d118_34 : dc 118 34 = some (.if_icmp .ge ((71 : Nat) : Int), 37) := by decide +kernel
theorem d118_37 : dc 118 37 = some (.aload_n 0, 38) := by decide +kernel
theorem d118_38 : dc 118 38 = some (.iload_n 1, 39) := by decide +kernel
theorem d118_39 : dc 118 39 = some (.iload 8, 41) := by decide +kernel
theorem d118_41 : dc 118 41 = some (.iadd, 42) := by decide +kernel
theorem d118_42 : dc 118 42 = some (.invokevirtual 23, 45) := by decide +kernel
theorem d118_45 : dc 118 45 = some (.aload_n 3, 46) := by decide +kernel
theorem d118_46 : dc 118 46 = some (.iload 4, 48) := by decide +kernel
theorem d118_48 : dc 118 48 = some (.iload 8, 50) := by decide +kernel
theorem d118_50 : dc 118 50 = some (.iadd, 51) := by decide +kernel
theorem d118_51 : dc 118 51 = some (.invokevirtual 23, 54) := by decide +kernel
theorem d118_54 : dc 118 54 = some (.isub, 55) := by decide +kernel
theorem d118_55 : dc 118 55 = some (.istore 9, 57) := by decide +kernel
theorem d118_57 : dc 118 57 = some (.iload 9, 59) := by decide +kernel
theorem d118_59 : dc 118 59 = some (.ifCond .eq ((65 : Nat) : Int), 62) := by decide +kernel
theorem d118_62 : dc 118 62 = some (.iload 9, 64) := by decide +kernel
theorem d118_64 : dc 118 64 = some (.ireturn, 65) := by decide +kernel
theorem d118_65 : dc 118 65 = some (.iinc 8 1, 68) := by decide +kernel
theorem d118_68 : dc 118 68 = some (.goto ((23 : Nat) : Int), 71) := by decide +kernel
theorem d118_71 : dc 118 71 = some (.iload 6, 73) := by decide +kernel
theorem d118_73 : dc 118 73 = some (.iload 7, 75) := by decide +kernel
theorem d118_75 : dc 118 75 = some (.isub, 76) := by decide +kernel
theorem d118_76 : dc 118 76 = some (.ireturn, 77) := by decide +kernel
theorem rl_lt {h : Hp} {a : Nat} (hR : RowsOk h) (ha : KD h a = 6) (j : Nat) : (rl h a).getD j 0 < 256 := by
  rcases Nat.lt_or_ge j (rl h a).length with q | q
  · rw [rl_at q]
    exact u8_lt _
  · rw [List.getD_eq_getElem?_getD, List.getElem?_eq_none q]
    decide
theorem d118_0 : dc 118 0 = some (.iload_n 2, 1) := by decide +kernel
theorem d118_1 : dc 118 1 = some (.iload_n 1, 2) := by decide +kernel
theorem d118_2 : dc 118 2 = some (.isub, 3) := by decide +kernel
theorem d118_3 : dc 118 3 = some (.iconst 0, 4) := by decide +kernel
theorem d118_4 : dc 118 4 = some (.invokestatic 3, 7) := by decide +kernel
theorem d118_7 : dc 118 7 = some (.istore 6, 9) := by decide +kernel
theorem d118_9 : dc 118 9 = some (.iload 5, 11) := by decide +kernel
theorem d118_11 : dc 118 11 = some (.iload 4, 13) := by decide +kernel
theorem d118_13 : dc 118 13 = some (.isub, 14) := by decide +kernel
theorem d118_14 : dc 118 14 = some (.iconst 0, 15) := by decide +kernel
theorem d118_15 : dc 118 15 = some (.invokestatic 3, 18) := by decide +kernel
theorem d118_18 : dc 118 18 = some (.istore 7, 20) := by decide +kernel
theorem d118_20 : dc 118 20 = some (.iconst 0, 21) := by decide +kernel
theorem d118_21 : dc 118 21 = some (.istore 8, 23) := by decide +kernel
theorem c_Row_order {G : Nat → Option Nat} {d : Nat} {h : Hp} {Q : Option MV → Hp → Prop} {a b f e f2 e2 : Nat} (h1 : 1 ≤ d) (hR : RowsOk h) (ha : KD h a = 6) (hbk : KD h b = 6) (hf : f ≤ e ∧ e ≤ (rl h a).length) (hg : f2 ≤ e2 ∧ e2 ≤ (rl h b).length) (kk : Q (some (vI (cmpL (sl (rl h a) f e) (sl (rl h b) f2 e2)))) h) : Cl G d 118 [vR (some a), vI (f : Nat), vI (e : Nat), vR (some b), vI (f2 : Nat), vI (e2 : Nat)] h Q := by
  show Wp G d 118 0 [some (vR (some a)), some (vI (f : Nat)), some (vI (e : Nat)), some (vR (some b)), some (vI (f2 : Nat)), some (vI (e2 : Nat)), none, none, none, none] [] h Q
  have hw := hR.1 a ha
  have hl := rl_len hw
  obtain ⟨w1, w2, w3, w4⟩ := hw
  have hcp := hR.2.2.2.2 (rw0 h a)
  have hcq : LN h (rw0 h a) = cap h a := rfl
  obtain ⟨hf1, hf2⟩ := hf
  obtain ⟨hg1, hg2⟩ := hg
  have hwb := hR.1 b hbk
  have hlb := rl_len hwb
  have hcb := rl_cap hwb
  have hca := rl_cap (hR.1 a ha)
  have hcr := hR.2.2.2.2 (rw0 h b)
  have hcs : LN h (rw0 h b) = cap h b := rfl
  generalize hA : sl (rl h a) f e = A at kk
  generalize hB : sl (rl h b) f2 e2 = B at kk
  have lA : A.length = e - f := by rw [← hA]; exact sl_len ⟨hf1, hf2⟩
  have lB : B.length = e2 - f2 := by rw [← hB]; exact sl_len ⟨hg1, hg2⟩
  have L : ∀ (m : Nat) (i : Nat), A.length - i = m → i ≤ A.length → i ≤ B.length → cmpL A B = cmpL (A.drop i) (B.drop i) → Wp G d 118 23 [some (vR (some a)), some (vI (f : Nat)), some (vI (e : Nat)), some (vR (some b)), some (vI (f2 : Nat)), some (vI (e2 : Nat)), some (vI (A.length : Nat)), some (vI (B.length : Nat)), some (vI (i : Nat)), none] [] h Q := by
    intro m
    induction m using Nat.strongRecOn with | ind m IH => ?_
    intro i hm i1 i2 hi
    refine w_iload d118_23 rfl ?_
    refine w_iload d118_25 rfl ?_
    refine w_icmpge d118_27 (fun c27 => ?_) (fun c27 => ?_)
    · have e0 : A.drop i = [] := List.drop_eq_nil_of_le (by omega)
      refine w_iload d118_71 rfl ?_
      refine w_iload d118_73 rfl ?_
      refine w_isub d118_75 (by constructor <;> omega) ?_
      refine w_ireturn d118_76 ?_
      exact qI (by rw [hi, e0, cmpL, List.length_drop]; omega) kk
    · refine w_iload d118_30 rfl ?_
      refine w_iload d118_32 rfl ?_
      refine w_icmpge d118_34 (fun c34 => ?_) (fun c34 => ?_)
      · have e0 : B.drop i = [] := List.drop_eq_nil_of_le (by omega)
        refine w_iload d118_71 rfl ?_
        refine w_iload d118_73 rfl ?_
        refine w_isub d118_75 (by constructor <;> omega) ?_
        refine w_ireturn d118_76 ?_
        exact qI (by rw [hi, e0, cmpL_nil, List.length_drop]; omega) kk
      · refine w_aload_n d118_37 rfl ?_
        refine w_iload_n d118_38 rfl ?_
        refine w_iload d118_39 rfl ?_
        refine w_iadd d118_41 (by constructor <;> omega) ?_
        refine w_callv2 d118_42 (by omega) rfl ha (by simp) (Nat.le_of_ble_eq_true rfl) ?_
        refine c_Row_at hR ha ?_
        rw [atv_in (by omega)]
        refine w_aload_n d118_45 rfl ?_
        refine w_iload d118_46 rfl ?_
        refine w_iload d118_48 rfl ?_
        refine w_iadd d118_50 (by constructor <;> omega) ?_
        refine w_callv2 d118_51 (by omega) rfl hbk (by simp) (Nat.le_of_ble_eq_true rfl) ?_
        refine c_Row_at hR hbk ?_
        rw [atv_in (by omega)]
        refine w_isub d118_54 (by have := rl_lt hR ha (((f : Nat) : Int) + i).toNat; have := rl_lt hR hbk (((f2 : Nat) : Int) + i).toNat; constructor <;> omega) ?_
        have ea : (((f : Nat) : Int) + ((i : Nat) : Int)).toNat = f + i := by omega
        have eb : (((f2 : Nat) : Int) + ((i : Nat) : Int)).toNat = f2 + i := by omega
        rw [ea, eb]
        have da : A.drop i = (rl h a).getD (f + i) 0 :: A.drop (i + 1) := by rw [← hA]; exact sl_at ⟨hf1, hf2⟩ (by omega)
        have db : B.drop i = (rl h b).getD (f2 + i) 0 :: B.drop (i + 1) := by rw [← hB]; exact sl_at ⟨hg1, hg2⟩ (by omega)
        rw [da, db, cmpL] at hi
        refine w_istore9 d118_55 rfl ?_
        refine w_iload d118_57 rfl ?_
        refine w_ifeq d118_59 (fun c59 => ?_) (fun c59 => ?_)
        · rw [if_pos (by omega)] at hi
          refine w_iinc8 d118_65 rfl (by constructor <;> omega) ?_
          refine w_goto d118_68 ?_
          refine w_less ?_ (IH (A.length - (i + 1)) (by omega) (i + 1) rfl (by omega) (by omega) hi)
          exact ⟨Or.inr rfl, Or.inr rfl, Or.inr rfl, Or.inr rfl, Or.inr rfl, Or.inr rfl, Or.inr rfl, Or.inr rfl, Or.inr rfl, Or.inl rfl, trivial⟩
        · rw [if_neg (by omega)] at hi
          refine w_iload d118_62 rfl ?_
          refine w_ireturn d118_64 ?_
          exact qI hi.symm kk
  refine w_iload_n d118_0 rfl ?_
  refine w_iload_n d118_1 rfl ?_
  refine w_isub d118_2 (by constructor <;> omega) ?_
  refine w_iconst d118_3 (by decide) ?_
  refine w_max d118_4 (by refine ⟨by simp, ?_⟩; omega) ?_
  refine w_istore6 d118_7 rfl ?_
  refine w_iload d118_9 rfl ?_
  refine w_iload d118_11 rfl ?_
  refine w_isub d118_13 (by constructor <;> omega) ?_
  refine w_iconst d118_14 (by decide) ?_
  refine w_max d118_15 (by refine ⟨by simp, ?_⟩; omega) ?_
  refine w_istore7 d118_18 rfl ?_
  refine w_iconst d118_20 (by decide) ?_
  refine w_istore8 d118_21 rfl ?_
  have ea : (if ((e : Nat) : Int) - ((f : Nat) : Int) < 0 then 0 else ((e : Nat) : Int) - ((f : Nat) : Int)) = ((A.length : Nat) : Int) := by split <;> omega
  have eb : (if ((e2 : Nat) : Int) - ((f2 : Nat) : Int) < 0 then 0 else ((e2 : Nat) : Int) - ((f2 : Nat) : Int)) = ((B.length : Nat) : Int) := by split <;> omega
  rw [ea, eb]
  exact L _ 0 rfl (Nat.zero_le _) (Nat.zero_le _) rfl
