/-! rows: words and numbers in a row -/
def scan (l : List Nat) (p : Nat → Bool) (i n : Nat) : Nat := i + (((l.drop i).take n).takeWhile p).length
theorem scan_stop {l : List Nat} {p : Nat → Bool} {i n : Nat} (h : l.length ≤ i ∨ n = 0 ∨ p (l.getD i 0) = false) : scan l p i n = i := by
  unfold scan
  rcases Nat.lt_or_ge i l.length with q | q
  · rcases h with h | h | h
    · omega
    · subst h; simp
    · cases n with
      | zero => simp
      | succ n =>
        rw [drop_at q, List.take_succ_cons, List.takeWhile_cons, if_neg (by rw [h]; decide)]
        rfl
  · rw [List.drop_eq_nil_of_le q]
    simp
theorem scan_go {l : List Nat} {p : Nat → Bool} {i n : Nat} (h : i < l.length) (h2 : p (l.getD i 0) = true) : scan l p i (n + 1) = scan l p (i + 1) n := by
  unfold scan
  rw [drop_at h, List.take_succ_cons, List.takeWhile_cons, if_pos h2, List.length_cons]
  omega
theorem scan_ge (l : List Nat) (p : Nat → Bool) (i n : Nat) : i ≤ scan l p i n := Nat.le_add_right _ _
theorem scan_le {l : List Nat} {p : Nat → Bool} {i n : Nat} (h : i ≤ l.length) : scan l p i n ≤ l.length ∧ scan l p i n ≤ i + n := by
  unfold scan
  have h1 := (List.takeWhile_prefix (p := p) (l := (l.drop i).take n)).length_le
  rw [List.length_take, List.length_drop] at h1
  omega
def isDig (c : Nat) : Bool := decide (48 ≤ c) && decide (c ≤ 57)
theorem isDig_t {c : Nat} : isDig c = true ↔ 48 ≤ c ∧ c ≤ 57 := by simp [isDig]
theorem isDig_f {c : Nat} : isDig c = false ↔ ¬ (48 ≤ c ∧ c ≤ 57) := by rw [← isDig_t]; simp
def isLet (c : Nat) : Bool := decide (97 ≤ c) && decide (c ≤ 122)
def isLater (lo : Nat) (c : Nat) : Bool := isLet c || (decide (lo ≤ c) && decide (c ≤ 57)) || decide (c = 95)
/-- where a number ends that begins at f -/
def numE (l : List Nat) (f : Nat) : Nat := scan l isDig f (if f < l.length ∧ l.getD f 0 = 48 then 1 else 4)
/-- where a word ends that begins at f -/
def wordE (l : List Nat) (f most lo : Nat) : Nat := if f < l.length ∧ 0 < most ∧ isLet (l.getD f 0) = true then scan l (isLater lo) (f + 1) (most - 1) else f
def numV (l : List Nat) : Nat := l.foldl (fun n c => n * 10 + (c - 48)) 0
theorem numV_snoc (l : List Nat) (c : Nat) : numV (l ++ [c]) = numV l * 10 + (c - 48) := by unfold numV; rw [List.foldl_append]; rfl
theorem d36_31 : dc 36 31 = some (.iload_n 2, 32) := by decide +kernel
theorem d36_32 : dc 36 32 = some (.aload_n 0, 33) := by decide +kernel
theorem d36_33 : dc 36 33 = some (.getfield 641, 36) := by decide +kernel
theorem d36_36 : dc 36 36 = some (.if_icmp .ge ((74 : Nat) : Int), 39) := by decide +kernel
theorem d36_39 : dc 36 39 = some (.iload_n 2, 40) := by decide +kernel
theorem d36_40 : dc 36 40 = some (.iload_n 1, 41) := by decide +kernel
theorem d36_41 : dc 36 41 = some (.isub, 42) := by decide +kernel
theorem d36_42 : dc 36 42 = some (.iload_n 3, 43) := by decide +kernel
theorem d36_43 : dc 36 43 = some (.if_icmp .ge ((74 : Nat) : Int), 46) := by decide +kernel
theorem d36_46 : dc 36 46 = some (.aload_n 0, 47) := by decide +kernel
theorem d36_47 : dc 36 47 = some (.dload 640, 50) := by decide +kernel
theorem d36_50 : dc 36 50 = some (.iload_n 2, 51) := by decide +kernel
theorem d36_51 : dc 36 51 = some (.baload, 52) := by decide +kernel
theorem d36_52 : dc 36 52 = some (.bipush 48, 54) := by decide +kernel
theorem d36_54 : dc 36 54 = some (.if_icmp .lt ((74 : Nat) : Int), 57) := by decide +kernel
theorem d36_57 : dc 36 57 = some (.aload_n 0, 58) := by decide +kernel
theorem d36_58 : dc 36 58 = some (.dload 640, 61) := by decide +kernel
theorem d36_61 : dc 36 61 = some (.iload_n 2, 62) := by decide +kernel
theorem d36_62 : dc 36 62 = some (.baload, 63) := by decide +kernel
theorem d36_63 : dc 36 63 = some (.bipush 57, 65) := by decide +kernel
theorem d36_65 : dc 36 65 = some (.if_icmp .gt ((74 : Nat) : Int), 68) := by decide +kernel
theorem d36_68 : dc 36 68 = some (.iinc 2 1, 71) := by decide +kernel
theorem d36_71 : dc 36 71 = some (.goto ((31 : Nat) : Int), 74) := by decide +kernel
theorem d36_74 : dc 36 74 = some (.iload_n 2, 75) := by decide +kernel
theorem d36_75 : dc 36 75 = some (.ireturn, 76) := by decide +kernel
theorem w36 {G : Nat → Option Nat} {d : Nat} {h : Hp} {Q : Option MV → Hp → Prop} {a f n : Nat} (hR : RowsOk h) (ha : KD h a = 6) (hn : n ≤ 4) (hf : f ≤ 100000000) (kk : Q (some (vI (scan (rl h a) isDig f n : Nat))) h) : Wp G d 36 31 [some (vR (some a)), some (vI (f : Nat)), some (vI (f : Nat)), some (vI (n : Nat))] [] h Q := by
  have hl := rl_len (hR.1 a ha)
  obtain ⟨w1, w2, w3, w4⟩ := hR.1 a ha
  have hcp := hR.2.2.2.2 (rw0 h a)
  have hcq : LN h (rw0 h a) = cap h a := rfl
  have hca := rl_cap (hR.1 a ha)
  have L : ∀ (m : Nat) (i : Nat), f + n - i = m → f ≤ i → i ≤ f + n → (i ≤ (rl h a).length ∨ i = f) → scan (rl h a) isDig f n = scan (rl h a) isDig i (n - (i - f)) → Wp G d 36 31 [some (vR (some a)), some (vI (f : Nat)), some (vI (i : Nat)), some (vI (n : Nat))] [] h Q := by
    intro m
    induction m using Nat.strongRecOn with | ind m IH => ?_
    intro i hm i1 i2 i3 hi
    refine w_iload_n d36_31 rfl ?_
    refine w_aload_n d36_32 rfl ?_
    refine w_getI d36_33 ha hl ?_
    refine w_icmpge d36_36 (fun c36 => ?_) (fun c36 => ?_)
    · refine w_iload_n d36_74 rfl ?_
      refine w_ireturn d36_75 ?_
      exact qI (by rw [hi, scan_stop (Or.inl (by omega))]) kk
    · refine w_iload_n d36_39 rfl ?_
      refine w_iload_n d36_40 rfl ?_
      refine w_isub d36_41 (by constructor <;> omega) ?_
      refine w_iload_n d36_42 rfl ?_
      refine w_icmpge d36_43 (fun c43 => ?_) (fun c43 => ?_)
      · refine w_iload_n d36_74 rfl ?_
        refine w_ireturn d36_75 ?_
        exact qI (by rw [hi, scan_stop (Or.inr (Or.inl (by omega)))]) kk
      · have g0 := rl_at (h := h) (a := a) (j := i) (by omega)
        unfold u8 at g0
        have hx := hR.2.2.2.1 (rw0 h a) i w2
        refine w_aload_n d36_46 rfl ?_
        refine w_dloadS d36_47 ha w1 ?_
        refine w_iload_n d36_50 rfl ?_
        refine w_baload d36_51 ⟨by rw [w2]; rfl, by omega, by show (i : Int) < (cap h a : Int); omega⟩ ?_
        refine w_bipush d36_52 (by decide) ?_
        refine w_icmplt d36_54 (fun c54 => ?_) (fun c54 => ?_)
        · have c54 : AI h (rw0 h a) i < 48 := c54
          refine w_iload_n d36_74 rfl ?_
          refine w_ireturn d36_75 ?_
          exact qI (by rw [hi, scan_stop (Or.inr (Or.inr (isDig_f.mpr (by omega))))]) kk
        · have c54 : 48 ≤ AI h (rw0 h a) i := c54
          refine w_aload_n d36_57 rfl ?_
          refine w_dloadS d36_58 ha w1 ?_
          refine w_iload_n d36_61 rfl ?_
          refine w_baload d36_62 ⟨by rw [w2]; rfl, by omega, by show (i : Int) < (cap h a : Int); omega⟩ ?_
          refine w_bipush d36_63 (by decide) ?_
          refine w_icmpgt d36_65 (fun c65 => ?_) (fun c65 => ?_)
          · have c65 : 57 < AI h (rw0 h a) i := c65
            refine w_iload_n d36_74 rfl ?_
            refine w_ireturn d36_75 ?_
            exact qI (by rw [hi, scan_stop (Or.inr (Or.inr (isDig_f.mpr (by omega))))]) kk
          · have c65 : AI h (rw0 h a) i ≤ 57 := c65
            refine w_iinc2 d36_68 rfl (by constructor <;> omega) ?_
            refine w_goto d36_71 ?_
            refine IH (f + n - (i + 1)) (by omega) (i + 1) rfl (by omega) (by omega) (by omega) ?_
            rw [hi, show n - (i - f) = (n - (i + 1 - f)) + 1 by omega]
            exact scan_go (by omega) (isDig_t.mpr (by omega))
  exact L _ f rfl (Nat.le_refl _) (by omega) (Or.inr rfl) (by rw [Nat.sub_self, Nat.sub_zero])
theorem d36_0 : dc 36 0 = some (.iload_n 1, 1) := by decide +kernel
theorem d36_1 : dc 36 1 = some (.iconst 0, 2) := by decide +kernel
theorem d36_2 : dc 36 2 = some (.invokestatic 3, 5) := by decide +kernel
theorem d36_5 : dc 36 5 = some (.istore_n 2, 6) := by decide +kernel
theorem d36_6 : dc 36 6 = some (.iload_n 2, 7) := by decide +kernel
theorem d36_7 : dc 36 7 = some (.aload_n 0, 8) := by decide +kernel
theorem d36_8 : dc 36 8 = some (.getfield 641, 11) := by decide +kernel
theorem d36_11 : dc 36 11 = some (.if_icmp .ge ((29 : Nat) : Int), 14) := by decide +kernel
theorem d36_14 : dc 36 14 = some (.aload_n 0, 15) := by decide +kernel
theorem d36_15 : dc 36 15 = some (.dload 640, 18) := by decide +kernel
theorem d36_18 : dc 36 18 = some (.iload_n 2, 19) := by decide +kernel
theorem d36_19 : dc 36 19 = some (.baload, 20) := by decide +kernel
theorem d36_20 : dc 36 20 = some (.bipush 48, 22) := by decide +kernel
theorem d36_22 : dc 36 22 = some (.if_icmp .ne ((29 : Nat) : Int), 25) := by decide +kernel
theorem d36_25 : dc 36 25 = some (.iconst 1, 26) := by decide +kernel
theorem d36_26 : dc 36 26 = some (.goto ((30 : Nat) : Int), 29) := by decide +kernel
theorem d36_29 : dc 36 29 = some (.iconst 4, 30) := by decide +kernel
theorem d36_30 : dc 36 30 = some (.istore_n 3, 31) := by decide +kernel
theorem c_Row_numberEnd {G : Nat → Option Nat} {d : Nat} {h : Hp} {Q : Option MV → Hp → Prop} {a f : Nat} (h1 : 1 ≤ d) (hR : RowsOk h) (ha : KD h a = 6) (hf : f ≤ 100000000) (kk : Q (some (vI (numE (rl h a) f : Nat))) h) : Cl G d 36 [vR (some a), vI (f : Nat)] h Q := by
  show Wp G d 36 0 [some (vR (some a)), some (vI (f : Nat)), none, none] [] h Q
  have hl := rl_len (hR.1 a ha)
  obtain ⟨w1, w2, w3, w4⟩ := hR.1 a ha
  have hcp := hR.2.2.2.2 (rw0 h a)
  have hcq : LN h (rw0 h a) = cap h a := rfl
  have hca := rl_cap (hR.1 a ha)
  refine w_iload_n d36_0 rfl ?_
  refine w_iconst d36_1 (by decide) ?_
  refine w_max d36_2 (by refine ⟨by simp, ?_⟩; omega) ?_
  have e0 : (if ((f : Nat) : Int) < 0 then 0 else ((f : Nat) : Int)) = ((f : Nat) : Int) := if_neg (by omega)
  rw [e0]
  refine w_istore2 d36_5 rfl ?_
  refine w_iload_n d36_6 rfl ?_
  refine w_aload_n d36_7 rfl ?_
  refine w_getI d36_8 ha hl ?_
  refine w_icmpge d36_11 (fun c11 => ?_) (fun c11 => ?_)
  · refine w_iconst d36_29 (by decide) ?_
    refine w_istore3 d36_30 rfl ?_
    exact w36 (n := 4) hR ha (by omega) hf (by unfold numE at kk; rw [if_neg (by omega)] at kk; exact kk)
  · have g0 := rl_at (h := h) (a := a) (j := f) (by omega)
    unfold u8 at g0
    have hx := hR.2.2.2.1 (rw0 h a) f w2
    refine w_aload_n d36_14 rfl ?_
    refine w_dloadS d36_15 ha w1 ?_
    refine w_iload_n d36_18 rfl ?_
    refine w_baload d36_19 ⟨by rw [w2]; rfl, by omega, by show (f : Int) < (cap h a : Int); omega⟩ ?_
    refine w_bipush d36_20 (by decide) ?_
    refine w_icmpne d36_22 (fun c22 => ?_) (fun c22 => ?_)
    · have c22 : AI h (rw0 h a) f ≠ 48 := c22
      refine w_iconst d36_29 (by decide) ?_
      refine w_istore3 d36_30 rfl ?_
      exact w36 (n := 4) hR ha (by omega) hf (by unfold numE at kk; rw [if_neg (by omega)] at kk; exact kk)
    · have c22 : AI h (rw0 h a) f = 48 := c22
      refine w_iconst d36_25 (by decide) ?_
      refine w_goto d36_26 ?_
      refine w_istore3 d36_30 rfl ?_
      exact w36 (n := 1) hR ha (by omega) hf (by unfold numE at kk; rw [if_pos (by omega)] at kk; exact kk)
theorem d37_9 : dc 37 9 = some (.iload 4, 11) := by decide +kernel
theorem d37_11 : dc 37 11 = some (.iload_n 2, 12) := by decide +kernel
theorem d37_12 : dc 37 12 = some (.if_icmp .ge ((46 : Nat) : Int), 15) := by decide +kernel
theorem d37_15 : dc 37 15 = some (.iload 4, 17) := by decide +kernel
theorem d37_17 : dc 37 17 = some (.aload_n 0, 18) := by decide +kernel
theorem d37_18 : dc 37 18 = some (.getfield 641, 21) := by decide +kernel
theorem d37_21 : dc 37 21 = some (.if_icmp .ge ((46 : Nat) : Int), 24) := by decide +kernel
theorem d37_24 : dc 37 24 = some (.iload_n 3, 25) := by decide +kernel
theorem d37_25 : dc 37 25 = some (.bipush 10, 27) := by decide +kernel
theorem d37_27 : dc 37 27 = some (.imul, 28) := by decide +kernel
theorem d37_28 : dc 37 28 = some (.aload_n 0, 29) := by decide +kernel
theorem d37_29 : dc 37 29 = some (.dload 640, 32) := by decide +kernel
theorem d37_32 : dc 37 32 = some (.iload 4, 34) := by decide +kernel
theorem d37_34 : dc 37 34 = some (.baload, 35) := by decide +kernel
theorem d37_35 : dc 37 35 = some (.iadd, 36) := by decide +kernel
theorem d37_36 : dc 37 36 = some (.bipush 48, 38) := by decide +kernel
theorem d37_38 : dc 37 38 = some (.isub, 39) := by decide +kernel
theorem d37_39 : dc 37 39 = some (.istore_n 3, 40) := by decide +kernel
theorem d37_40 : dc 37 40 = some (.iinc 4 1, 43) := by decide +kernel
theorem d37_43 : dc 37 43 = some (.goto ((9 : Nat) : Int), 46) := by decide +kernel
theorem d37_46 : dc 37 46 = some (.iload_n 3, 47) := by decide +kernel
theorem d37_47 : dc 37 47 = some (.ireturn, 48) := by decide +kernel
theorem d37_0 : dc 37 0 = some (.iconst 0, 1) := by decide +kernel
theorem d37_1 : dc 37 1 = some (.istore_n 3, 2) := by decide +kernel
theorem d37_2 : dc 37 2 = some (.iload_n 1, 3) := by decide +kernel
theorem d37_3 : dc 37 3 = some (.iconst 0, 4) := by decide +kernel
theorem d37_4 : dc 37 4 = some (.invokestatic 3, 7) := by decide +kernel
theorem d37_7 : dc 37 7 = some (.istore 4, 9) := by decide +kernel
theorem c_Row_numberIn {G : Nat → Option Nat} {d : Nat} {h : Hp} {Q : Option MV → Hp → Prop} {a f e : Nat} (h1 : 1 ≤ d) (hR : RowsOk h) (ha : KD h a = 6) (hfe : f ≤ e ∧ e ≤ (rl h a).length ∧ e - f ≤ 7) (hdg : ∀ i, f ≤ i → i < e → isDig ((rl h a).getD i 0) = true) (kk : Q (some (vI (numV (sl (rl h a) f e) : Nat))) h) : Cl G d 37 [vR (some a), vI (f : Nat), vI (e : Nat)] h Q := by
  show Wp G d 37 0 [some (vR (some a)), some (vI (f : Nat)), some (vI (e : Nat)), none, none] [] h Q
  have hl := rl_len (hR.1 a ha)
  obtain ⟨w1, w2, w3, w4⟩ := hR.1 a ha
  have hcp := hR.2.2.2.2 (rw0 h a)
  have hcq : LN h (rw0 h a) = cap h a := rfl
  have hca := rl_cap (hR.1 a ha)
  have L : ∀ (m : Nat) (i : Nat), e - i = m → f ≤ i → i ≤ e → numV (sl (rl h a) f i) < 10 ^ (i - f) → Wp G d 37 9 [some (vR (some a)), some (vI (f : Nat)), some (vI (e : Nat)), some (vI (numV (sl (rl h a) f i) : Nat)), some (vI (i : Nat))] [] h Q := by
    intro m
    induction m using Nat.strongRecOn with | ind m IH => ?_
    intro i hm i1 i2 hi
    refine w_iload d37_9 rfl ?_
    refine w_iload_n d37_11 rfl ?_
    refine w_icmpge d37_12 (fun c12 => ?_) (fun c12 => ?_)
    · refine w_iload_n d37_46 rfl ?_
      refine w_ireturn d37_47 ?_
      exact (show i = e by omega) ▸ kk
    · have g0 := rl_at (h := h) (a := a) (j := i) (by omega)
      unfold u8 at g0
      have hx := hR.2.2.2.1 (rw0 h a) i w2
      have hd := isDig_t.mp (hdg i i1 (by omega))
      have hp : 10 ^ (i - f) ≤ 10 ^ 7 := Nat.pow_le_pow_right (by decide) (by omega)
      have ex : AI h (rw0 h a) i = ((rl h a).getD i 0 : Nat) := by omega
      refine w_iload d37_15 rfl ?_
      refine w_aload_n d37_17 rfl ?_
      refine w_getfield d37_18 (by assumption) ?_
      refine w_icmpge d37_21 (fun c21 => ?_) (fun c21 => ?_)
      · omega
      · refine w_iload_n d37_24 rfl ?_
        refine w_bipush d37_25 (by decide) ?_
        refine w_imul d37_27 (by constructor <;> omega) ?_
        refine w_aload_n d37_28 rfl ?_
        refine w_dloadS d37_29 (by assumption) (by assumption) ?_
        refine w_iload d37_32 rfl ?_
        refine w_baload d37_34 ⟨by rw [w2]; rfl, by omega, by show (i : Int) < (cap h a : Int); omega⟩ ?_
        rw [show AI h (rw0 h a) ((i : Nat) : Int).toNat = AI h (rw0 h a) i from rfl, ex]
        refine w_iadd d37_35 (by constructor <;> omega) ?_
        refine w_bipush d37_36 (by decide) ?_
        refine w_isub d37_38 (by constructor <;> omega) ?_
        have ev : ((numV (sl (rl h a) f i) : Nat) : Int) * 10 + (((rl h a).getD i 0 : Nat) : Int) - 48 = ((numV (sl (rl h a) f (i + 1)) : Nat) : Int) := by rw [sl_snoc i1 (by omega), numV_snoc]; omega
        rw [ev]
        refine w_istore3 d37_39 rfl ?_
        refine w_iinc4 d37_40 rfl (by constructor <;> omega) ?_
        refine w_goto d37_43 ?_
        refine IH (e - (i + 1)) (by omega) (i + 1) rfl (by omega) (by omega) ?_
        rw [sl_snoc i1 (by omega), numV_snoc, show i + 1 - f = (i - f) + 1 by omega, Nat.pow_succ]
        omega
  refine w_iconst d37_0 (by decide) ?_
  refine w_istore3 d37_1 rfl ?_
  refine w_iload_n d37_2 rfl ?_
  refine w_iconst d37_3 (by decide) ?_
  refine w_max d37_4 (by refine ⟨by simp, ?_⟩; omega) ?_
  refine w_istore4 d37_7 rfl ?_
  rw [show (if ((f : Nat) : Int) < 0 then 0 else ((f : Nat) : Int)) = ((f : Nat) : Int) from if_neg (by omega)]
  have L0 := L _ f rfl (Nat.le_refl _) hfe.1 (by rw [sl_nil]; exact Nat.pow_pos (by decide))
  rw [show numV (sl (rl h a) f f) = 0 by rw [sl_nil]; rfl] at L0
  exact L0
