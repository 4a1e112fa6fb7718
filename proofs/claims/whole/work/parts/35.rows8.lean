/-! rows: where a word ends, names -/
theorem isLet_t {c : Nat} : isLet c = true ↔ 97 ≤ c ∧ c ≤ 122 := by simp [isLet]
theorem isLater_t {lo c : Nat} : isLater lo c = true ↔ (97 ≤ c ∧ c ≤ 122) ∨ (lo ≤ c ∧ c ≤ 57) ∨ c = 95 := by simp [isLater, isLet, or_assoc]
theorem isLater_f {lo c : Nat} : isLater lo c = false ↔ ¬ ((97 ≤ c ∧ c ≤ 122) ∨ (lo ≤ c ∧ c ≤ 57) ∨ c = 95) := by rw [← isLater_t]; simp
def pk (l : List Nat) : Int64 := l.foldl (fun (v : Int64) (c : Nat) => (v <<< 8) ||| (i32 (c : Int)).toInt64) 0
/-- eight signs, what is wanting is 0 -/
def pad8 (l : List Nat) (f e : Nat) : List Nat := (List.range 8).map fun j => if f + j < e then l.getD (f + j) 0 else 0
def nameV (l : List Nat) (f e : Nat) : Int64 := pk (pad8 l f e)
theorem pk_snoc (l : List Nat) (c : Nat) : pk (l ++ [c]) = (pk l <<< 8) ||| (i32 (c : Int)).toInt64 := by unfold pk; rw [List.foldl_append]; rfl
theorem pad8_at {l : List Nat} {f e j : Nat} (h : j < 8) : (pad8 l f e).take (j + 1) = (pad8 l f e).take j ++ [if f + j < e then l.getD (f + j) 0 else 0] := by
  rw [take_succ (by simpa [pad8] using h)]
  congr 2
  rw [List.getD_eq_getElem?_getD, List.getElem?_eq_getElem (by simpa [pad8] using h)]
  simp [pad8]
theorem d31_64 : dc 31 64 = some (.istore 6, 66) := by decide +kernel
theorem d31_66 : dc 31 66 = some (.iload 5, 68) := by decide +kernel
theorem d31_68 : dc 31 68 = some (.bipush 97, 70) := by decide +kernel
theorem d31_70 : dc 31 70 = some (.if_icmp .lt ((80 : Nat) : Int), 73) := by decide +kernel
theorem d31_73 : dc 31 73 = some (.iload 5, 75) := by decide +kernel
theorem d31_75 : dc 31 75 = some (.bipush 122, 77) := by decide +kernel
theorem d31_77 : dc 31 77 = some (.if_icmp .le ((88 : Nat) : Int), 80) := by decide +kernel
theorem d31_80 : dc 31 80 = some (.iload 6, 82) := by decide +kernel
theorem d31_82 : dc 31 82 = some (.ifCond .ne ((88 : Nat) : Int), 85) := by decide +kernel
theorem d31_85 : dc 31 85 = some (.iload 4, 87) := by decide +kernel
theorem d31_87 : dc 31 87 = some (.ireturn, 88) := by decide +kernel
theorem d31_7 : dc 31 7 = some (.iload 4, 9) := by decide +kernel
theorem d31_9 : dc 31 9 = some (.aload_n 0, 10) := by decide +kernel
theorem d31_10 : dc 31 10 = some (.getfield 641, 13) := by decide +kernel
theorem d31_13 : dc 31 13 = some (.if_icmp .ge ((94 : Nat) : Int), 16) := by decide +kernel
theorem d31_16 : dc 31 16 = some (.iload 4, 18) := by decide +kernel
theorem d31_18 : dc 31 18 = some (.iload_n 1, 19) := by decide +kernel
theorem d31_19 : dc 31 19 = some (.isub, 20) := by decide +kernel
theorem d31_20 : dc 31 20 = some (.iload_n 2, 21) := by decide +kernel
theorem d31_21 : dc 31 21 = some (.if_icmp .ge ((94 : Nat) : Int), 24) := by decide +kernel
theorem d31_24 : dc 31 24 = some (.aload_n 0, 25) := by decide +kernel
theorem d31_25 : dc 31 25 = some (.dload 640, 28) := by decide +kernel
theorem d31_28 : dc 31 28 = some (.iload 4, 30) := by decide +kernel
theorem d31_30 : dc 31 30 = some (.baload, 31) := by decide +kernel
theorem d31_31 : dc 31 31 = some (.istore 5, 33) := by decide +kernel
theorem d31_33 : dc 31 33 = some (.iload 4, 35) := by decide +kernel
theorem d31_35 : dc 31 35 = some (.iload_n 1, 36) := by decide +kernel
theorem d31_36 : dc 31 36 = some (.if_icmp .le ((63 : Nat) : Int), 39) := by decide +kernel
theorem d31_39 : dc 31 39 = some (.iload 5, 41) := by decide +kernel
theorem d31_41 : dc 31 41 = some (.iload_n 3, 42) := by decide +kernel
theorem d31_42 : dc 31 42 = some (.if_icmp .lt ((52 : Nat) : Int), 45) := by decide +kernel
theorem d31_45 : dc 31 45 = some (.iload 5, 47) := by decide +kernel
theorem d31_47 : dc 31 47 = some (.bipush 57, 49) := by decide +kernel
theorem d31_49 : dc 31 49 = some (.if_icmp .le ((59 : Nat) : Int), 52) := by decide +kernel
theorem d31_52 : dc 31 52 = some (.iload 5, 54) := by decide +kernel
theorem d31_54 : dc 31 54 = some (.bipush 95, 56) := by decide +kernel
theorem d31_56 : dc 31 56 = some (.if_icmp .ne ((63 : Nat) : Int), 59) := by decide +kernel
theorem d31_59 : dc 31 59 = some (.iconst 1, 60) := by decide +kernel
theorem d31_60 : dc 31 60 = some (.goto ((64 : Nat) : Int), 63) := by decide +kernel
theorem d31_63 : dc 31 63 = some (.iconst 0, 64) := by decide +kernel
theorem d31_94 : dc 31 94 = some (.iload 4, 96) := by decide +kernel
theorem d31_96 : dc 31 96 = some (.ireturn, 97) := by decide +kernel
theorem d31_88 : dc 31 88 = some (.iinc 4 1, 91) := by decide +kernel
theorem d31_91 : dc 31 91 = some (.goto ((7 : Nat) : Int), 94) := by decide +kernel
theorem d31_0 : dc 31 0 = some (.iload_n 1, 1) := by decide +kernel
theorem d31_1 : dc 31 1 = some (.iconst 0, 2) := by decide +kernel
theorem d31_2 : dc 31 2 = some (.invokestatic 3, 5) := by decide +kernel
theorem d31_5 : dc 31 5 = some (.istore 4, 7) := by decide +kernel
theorem c_Row_wordEnd {G : Nat → Option Nat} {d : Nat} {h : Hp} {Q : Option MV → Hp → Prop} {a f most lo : Nat} (h1 : 1 ≤ d) (hR : RowsOk h) (ha : KD h a = 6) (hf : f ≤ 100000000 ∧ most ≤ 1000 ∧ 1 ≤ lo ∧ lo ≤ 57) (kk : Q (some (vI (wordE (rl h a) f most lo : Nat))) h) : Cl G d 31 [vR (some a), vI (f : Nat), vI (most : Nat), vI (lo : Nat)] h Q := by
  show Wp G d 31 0 [some (vR (some a)), some (vI (f : Nat)), some (vI (most : Nat)), some (vI (lo : Nat)), none, none, none] [] h Q
  have hl := rl_len (hR.1 a ha)
  obtain ⟨w1, w2, w3, w4⟩ := hR.1 a ha
  have hcp := hR.2.2.2.2 (rw0 h a)
  have hcq : LN h (rw0 h a) = cap h a := rfl
  have hca := rl_cap (hR.1 a ha)
  have L : ∀ (m i : Nat), f + most - i = m → f ≤ i → i ≤ f + most → (i ≤ (rl h a).length ∨ i = f) → (i = f ∨ f < i ∧ wordE (rl h a) f most lo = scan (rl h a) (isLater lo) i (most - (i - f))) → Wp G d 31 7 [some (vR (some a)), some (vI (f : Nat)), some (vI (most : Nat)), some (vI (lo : Nat)), some (vI (i : Nat)), none, none] [] h Q := by
    intro m
    induction m using Nat.strongRecOn with | ind m IH => ?_
    intro i hm i1 i2 i3 hi
    refine w_iload d31_7 rfl ?_
    refine w_aload_n d31_9 rfl ?_
    refine w_getfield d31_10 (by assumption) ?_
    refine w_icmpge d31_13 (fun c13 => ?_) (fun c13 => ?_)
    · refine w_iload d31_94 rfl ?_
      refine w_ireturn d31_96 ?_
      refine qI ?_ kk
      rcases hi with q | ⟨q, hi⟩
      · subst q
        unfold wordE
        rw [if_neg (fun z => by omega)]
      · rw [hi, scan_stop (Or.inl (by omega))]
    · refine w_iload d31_16 rfl ?_
      refine w_iload_n d31_18 rfl ?_
      refine w_isub d31_19 (by constructor <;> omega) ?_
      refine w_iload_n d31_20 rfl ?_
      refine w_icmpge d31_21 (fun c21 => ?_) (fun c21 => ?_)
      · refine w_iload d31_94 rfl ?_
        refine w_ireturn d31_96 ?_
        refine qI ?_ kk
        rcases hi with q | ⟨q, hi⟩
        · subst q
          unfold wordE
          rw [if_neg (fun z => by omega)]
        · rw [hi, scan_stop (Or.inr (Or.inl (by omega)))]
      · have g0 := rl_at (h := h) (a := a) (j := i) (by omega)
        unfold u8 at g0
        have hx := hR.2.2.2.1 (rw0 h a) i w2
        have go : (i = f → isLet ((rl h a).getD i 0) = true) → (f < i → isLater lo ((rl h a).getD i 0) = true) → wordE (rl h a) f most lo = scan (rl h a) (isLater lo) (i + 1) (most - (i + 1 - f)) := fun q1 q2 => by
          rcases hi with q | ⟨q, hi⟩
          · subst q
            unfold wordE
            rw [if_pos ⟨by omega, by omega, q1 rfl⟩, show i + 1 - i = 1 by omega]
          · rw [hi, show most - (i - f) = (most - (i + 1 - f)) + 1 by omega]
            exact scan_go (by omega) (q2 q)
        refine w_aload_n d31_24 rfl ?_
        refine w_dloadS d31_25 ha w1 ?_
        refine w_iload d31_28 rfl ?_
        refine w_baload d31_30 ⟨by rw [w2]; rfl, by omega, by show (i : Int) < (cap h a : Int); omega⟩ ?_
        rw [show AI h (rw0 h a) ((i : Nat) : Int).toNat = AI h (rw0 h a) i from rfl]
        generalize AI h (rw0 h a) i = x at g0 hx
        have J : ∀ lt : Int, (lt = 1 ∧ f < i ∧ (((lo : Int) ≤ x ∧ x ≤ 57) ∨ x = 95)) ∨ (lt = 0 ∧ ¬ (f < i ∧ (((lo : Int) ≤ x ∧ x ≤ 57) ∨ x = 95))) → Wp G d 31 64 [some (vR (some a)), some (vI (f : Nat)), some (vI (most : Nat)), some (vI (lo : Nat)), some (vI (i : Nat)), some (vI x), none] [vI lt] h Q := by
          intro lt hlt
          refine w_istore6 d31_64 rfl ?_
          refine w_iload d31_66 rfl ?_
          refine w_bipush d31_68 (by decide) ?_
          refine w_icmplt d31_70 (fun c70 => ?_) (fun c70 => ?_)
          · refine w_iload d31_80 rfl ?_
            refine w_ifne d31_82 (fun c82 => ?_) (fun c82 => ?_)
            · refine w_iinc4 d31_88 rfl (by constructor <;> omega) ?_
              refine w_goto d31_91 ?_
              refine w_less ?_ (IH (f + most - (i + 1)) (by omega) (i + 1) rfl (by omega) (by omega) (by omega) (Or.inr ⟨by omega, go (fun q => isLet_t.mpr (by omega)) (fun q => isLater_t.mpr (by omega))⟩))
              exact ⟨Or.inr rfl, Or.inr rfl, Or.inr rfl, Or.inr rfl, Or.inr rfl, Or.inl rfl, Or.inl rfl, trivial⟩
            · refine w_iload d31_85 rfl ?_
              refine w_ireturn d31_87 ?_
              refine qI ?_ kk
              rcases hi with q | ⟨q, hi⟩
              · subst q
                unfold wordE
                rw [if_neg (fun z => by have := isLet_t.mp z.2.2; omega)]
              · rw [hi, scan_stop (Or.inr (Or.inr (isLater_f.mpr (by omega))))]
          · refine w_iload d31_73 rfl ?_
            refine w_bipush d31_75 (by decide) ?_
            refine w_icmple d31_77 (fun c77 => ?_) (fun c77 => ?_)
            · refine w_iinc4 d31_88 rfl (by constructor <;> omega) ?_
              refine w_goto d31_91 ?_
              refine w_less ?_ (IH (f + most - (i + 1)) (by omega) (i + 1) rfl (by omega) (by omega) (by omega) (Or.inr ⟨by omega, go (fun q => isLet_t.mpr (by omega)) (fun q => isLater_t.mpr (by omega))⟩))
              exact ⟨Or.inr rfl, Or.inr rfl, Or.inr rfl, Or.inr rfl, Or.inr rfl, Or.inl rfl, Or.inl rfl, trivial⟩
            · refine w_iload d31_80 rfl ?_
              refine w_ifne d31_82 (fun c82 => ?_) (fun c82 => ?_)
              · refine w_iinc4 d31_88 rfl (by constructor <;> omega) ?_
                refine w_goto d31_91 ?_
                refine w_less ?_ (IH (f + most - (i + 1)) (by omega) (i + 1) rfl (by omega) (by omega) (by omega) (Or.inr ⟨by omega, go (fun q => isLet_t.mpr (by omega)) (fun q => isLater_t.mpr (by omega))⟩))
                exact ⟨Or.inr rfl, Or.inr rfl, Or.inr rfl, Or.inr rfl, Or.inr rfl, Or.inl rfl, Or.inl rfl, trivial⟩
              · refine w_iload d31_85 rfl ?_
                refine w_ireturn d31_87 ?_
                refine qI ?_ kk
                rcases hi with q | ⟨q, hi⟩
                · subst q
                  unfold wordE
                  rw [if_neg (fun z => by have := isLet_t.mp z.2.2; omega)]
                · rw [hi, scan_stop (Or.inr (Or.inr (isLater_f.mpr (by omega))))]
        refine w_istore5 d31_31 rfl ?_
        refine w_iload d31_33 rfl ?_
        refine w_iload_n d31_35 rfl ?_
        refine w_icmple d31_36 (fun c36 => ?_) (fun c36 => ?_)
        · refine w_iconst d31_63 (by decide) ?_
          exact J _ (Or.inr ⟨rfl, by omega⟩)
        · refine w_iload d31_39 rfl ?_
          refine w_iload_n d31_41 rfl ?_
          refine w_icmplt d31_42 (fun c42 => ?_) (fun c42 => ?_)
          · refine w_iload d31_52 rfl ?_
            refine w_bipush d31_54 (by decide) ?_
            refine w_icmpne d31_56 (fun c56 => ?_) (fun c56 => ?_)
            · refine w_iconst d31_63 (by decide) ?_
              exact J _ (Or.inr ⟨rfl, by omega⟩)
            · refine w_iconst d31_59 (by decide) ?_
              refine w_goto d31_60 ?_
              exact J _ (Or.inl ⟨rfl, by omega⟩)
          · refine w_iload d31_45 rfl ?_
            refine w_bipush d31_47 (by decide) ?_
            refine w_icmple d31_49 (fun c49 => ?_) (fun c49 => ?_)
            · refine w_iconst d31_59 (by decide) ?_
              refine w_goto d31_60 ?_
              exact J _ (Or.inl ⟨rfl, by omega⟩)
            · refine w_iload d31_52 rfl ?_
              refine w_bipush d31_54 (by decide) ?_
              refine w_icmpne d31_56 (fun c56 => ?_) (fun c56 => ?_)
              · refine w_iconst d31_63 (by decide) ?_
                exact J _ (Or.inr ⟨rfl, by omega⟩)
              · refine w_iconst d31_59 (by decide) ?_
                refine w_goto d31_60 ?_
                exact J _ (Or.inl ⟨rfl, by omega⟩)
  refine w_iload_n d31_0 rfl ?_
  refine w_iconst d31_1 (by decide) ?_
  refine w_max d31_2 (by refine ⟨by simp, ?_⟩; omega) ?_
  refine w_istore4 d31_5 rfl ?_
  rw [show (if ((f : Nat) : Int) < 0 then 0 else ((f : Nat) : Int)) = ((f : Nat) : Int) from if_neg (by omega)]
  exact L _ f rfl (Nat.le_refl _) (by omega) (Or.inr rfl) (Or.inl rfl)
