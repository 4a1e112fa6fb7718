/-! the workshop: grep, sort -/
theorem nmB_lj {x : Int64} : ∀ j, (nmB x j).length ≤ j
  | 0 => Nat.le_refl _
  | j + 1 => by
    have := nmB_lj (x := x) j
    rw [nmB_snoc, List.length_append]
    split <;> simp <;> omega
theorem nmB_le (x : Int64) : (nmB x 8).length ≤ 8 := nmB_lj 8
/-- where a line comes among lines that are in order: behind the last one that is not above it -/
def sPos (c : Nat → Int) : Nat → Nat
  | 0 => 0
  | k + 1 => if 0 < c k then sPos c k else k + 1
theorem sPos_le {c : Nat → Int} : ∀ {k : Nat}, sPos c k ≤ k
  | 0 => Nat.le_refl _
  | k + 1 => by
    unfold sPos
    split
    · exact Nat.le_trans sPos_le (Nat.le_succ k)
    · exact Nat.le_refl _
theorem sPos_dn {c : Nat → Int} {k : Nat} (h : 0 < k) (q : 0 < c (k - 1)) : sPos c k = sPos c (k - 1) := by
  obtain ⟨m, rfl⟩ : ∃ m, k = m + 1 := ⟨k - 1, by omega⟩
  rw [sPos, if_pos (by exact q)]
  rfl
theorem sPos_at {c : Nat → Int} {k : Nat} (h : k = 0 ∨ ¬ 0 < c (k - 1)) : sPos c k = k := by
  rcases k with - | m
  · rfl
  · rw [sPos, if_neg (by rcases h with h | h; cases h; exact h)]
def insW (ls : List (List Nat)) (x : List Nat) : List (List Nat) := ls.take (sPos (fun k => cmpL (ls.getD k []) x) ls.length) ++ x :: ls.drop (sPos (fun k => cmpL (ls.getD k []) x) ls.length)
theorem insW_len (ls : List (List Nat)) (x : List Nat) : (insW ls x).length = ls.length + 1 := by
  have := sPos_le (c := fun k => cmpL (ls.getD k []) x) (k := ls.length)
  unfold insW
  rw [List.length_append, List.length_cons, List.length_take, List.length_drop]
  omega
theorem ins_at {ls : List (List Nat)} {x : List Nat} {p : Nat} (hp : p ≤ ls.length) (i : Nat) : (ls.take p ++ x :: ls.drop p).getD i [] = if i < p then ls.getD i [] else if i = p then x else ls.getD (i - 1) [] := by
  have e : (ls.take p).length = p := by rw [List.length_take]; omega
  rw [List.getD_eq_getElem?_getD]
  by_cases q : i < p
  · rw [if_pos q, List.getElem?_append_left (by omega), List.getElem?_take_of_lt q, ← List.getD_eq_getElem?_getD]
  · rw [if_neg q, List.getElem?_append_right (by omega), e]
    by_cases q2 : i = p
    · rw [if_pos q2, show i - p = 0 by omega]; rfl
    · rw [if_neg q2, show i - p = (i - 1 - p) + 1 by omega, List.getElem?_cons_succ, List.getElem?_drop, show p + (i - 1 - p) = i - 1 by omega, ← List.getD_eq_getElem?_getD]
/-- lines, each ended -/
def enT (ls : List (List Nat)) : Nat → List Nat
  | 0 => []
  | i + 1 => enT ls i ++ (ls.getD i [] ++ [10])
def srtT (j : List Nat) : List Nat := if 600 < j.length then j else enT ((lns j).foldl insW []) ((lns j).foldl insW []).length
theorem d122_0 : dc 122 0 = some (.aload_n 0, 1) := by decide +kernel
theorem d122_1 : dc 122 1 = some (.dload 1156, 4) := by decide +kernel
theorem d122_4 : dc 122 4 = some (.invokevirtual 18, 7) := by decide +kernel
theorem d122_7 : dc 122 7 = some (.aload_n 0, 8) := by decide +kernel
theorem d122_8 : dc 122 8 = some (.dload 1156, 11) := by decide +kernel
theorem d122_11 : dc 122 11 = some (.lload_n 1, 12) := by decide +kernel
theorem d122_12 : dc 122 12 = some (.invokevirtual 104, 15) := by decide +kernel
theorem d122_15 : dc 122 15 = some (.aload_n 0, 16) := by decide +kernel
theorem d122_16 : dc 122 16 = some (.dload 1156, 19) := by decide +kernel
theorem d122_19 : dc 122 19 = some (.invokevirtual 13, 22) := by decide +kernel
theorem d122_22 : dc 122 22 = some (.istore_n 3, 23) := by decide +kernel
theorem d122_23 : dc 122 23 = some (.iconst 0, 24) := by decide +kernel
theorem d122_24 : dc 122 24 = some (.istore 4, 26) := by decide +kernel
theorem d122_26 : dc 122 26 = some (.iload 4, 28) := by decide +kernel
theorem d122_28 : dc 122 28 = some (.aload_n 0, 29) := by decide +kernel
theorem d122_29 : dc 122 29 = some (.dload 1154, 32) := by decide +kernel
theorem d122_32 : dc 122 32 = some (.invokevirtual 13, 35) := by decide +kernel
theorem d122_35 : dc 122 35 = some (.if_icmp .ge ((119 : Nat) : Int), 38) := by decide +kernel
theorem d122_38 : dc 122 38 = some (.aload_n 0, 39) := by decide +kernel
theorem d122_39 : dc 122 39 = some (.dload 1154, 42) := by decide +kernel
theorem d122_42 : dc 122 42 = some (.iload 4, 44) := by decide +kernel
theorem d122_44 : dc 122 44 = some (.invokevirtual 117, 47) := by decide +kernel
theorem d122_47 : dc 122 47 = some (.istore 5, 49) := by decide +kernel
theorem d122_49 : dc 122 49 = some (.iload 4, 51) := by decide +kernel
theorem d122_51 : dc 122 51 = some (.istore 6, 53) := by decide +kernel
theorem d122_53 : dc 122 53 = some (.iload 6, 55) := by decide +kernel
theorem d122_55 : dc 122 55 = some (.iload_n 3, 56) := by decide +kernel
theorem d122_56 : dc 122 56 = some (.iadd, 57) := by decide +kernel
theorem d122_57 : dc 122 57 = some (.iload 5, 59) := by decide +kernel
theorem d122_59 : dc 122 59 = some (.if_icmp .gt ((86 : Nat) : Int), 62) := by decide +kernel
theorem d122_62 : dc 122 62 = some (.aload_n 0, 63) := by decide +kernel
theorem d122_63 : dc 122 63 = some (.dload 1154, 66) := by decide +kernel
theorem d122_66 : dc 122 66 = some (.iload 6, 68) := by decide +kernel
theorem d122_68 : dc 122 68 = some (.iload 6, 70) := by decide +kernel
theorem d122_70 : dc 122 70 = some (.iload_n 3, 71) := by decide +kernel
theorem d122_71 : dc 122 71 = some (.iadd, 72) := by decide +kernel
theorem d122_72 : dc 122 72 = some (.invokevirtual 32, 75) := by decide +kernel
theorem d122_75 : dc 122 75 = some (.lload_n 1, 76) := by decide +kernel
theorem d122_76 : dc 122 76 = some (.lcmp, 77) := by decide +kernel
theorem d122_77 : dc 122 77 = some (.ifCond .eq ((86 : Nat) : Int), 80) := by decide +kernel
theorem d122_80 : dc 122 80 = some (.iinc 6 1, 83) := by decide +kernel
theorem d122_83 : dc 122 83 = some (.goto ((53 : Nat) : Int), 86) := by decide +kernel
theorem d122_86 : dc 122 86 = some (.iload 6, 88) := by decide +kernel
theorem d122_88 : dc 122 88 = some (.iload_n 3, 89) := by decide +kernel
theorem d122_89 : dc 122 89 = some (.iadd, 90) := by decide +kernel
theorem d122_90 : dc 122 90 = some (.iload 5, 92) := by decide +kernel
theorem d122_92 : dc 122 92 = some (.if_icmp .gt ((110 : Nat) : Int), 95) := by decide +kernel
theorem d122_95 : dc 122 95 = some (.aload_n 0, 96) := by decide +kernel
theorem d122_96 : dc 122 96 = some (.dload 1155, 99) := by decide +kernel
theorem d122_99 : dc 122 99 = some (.aload_n 0, 100) := by decide +kernel
theorem d122_100 : dc 122 100 = some (.dload 1154, 103) := by decide +kernel
theorem d122_103 : dc 122 103 = some (.iload 4, 105) := by decide +kernel
theorem d122_105 : dc 122 105 = some (.iload 5, 107) := by decide +kernel
theorem d122_107 : dc 122 107 = some (.invokevirtual 119, 110) := by decide +kernel
theorem d122_110 : dc 122 110 = some (.iload 5, 112) := by decide +kernel
theorem d122_112 : dc 122 112 = some (.iconst 1, 113) := by decide +kernel
theorem d122_113 : dc 122 113 = some (.iadd, 114) := by decide +kernel
theorem d122_114 : dc 122 114 = some (.istore 4, 116) := by decide +kernel
theorem d122_116 : dc 122 116 = some (.goto ((26 : Nat) : Int), 119) := by decide +kernel
theorem d122_119 : dc 122 119 = some (.return_, 120) := by decide +kernel
theorem k_Wk_grep {S : Shp} {G : Nat → Option Nat} {d : Nat} {h : Hp} {Q : Option MV → Hp → Prop} {w : Nat} {x : Int64}  (ok : Ok S h) (h1 : 2 ≤ d) (hw : sK S w = 10)  (hj : (rl h (sT S 1154 w)).length ≤ 100000)
    (kk : ∀ h', Mo S (fun y => y = sT S 1155 w ∨ y = sT S 1156 w) h h' → rl h' (sT S 1155 w) = addBs (cap h (sT S 1155 w)) (rl h (sT S 1155 w)) (gpT x ((nmB x 8).length) (lns (rl h (sT S 1154 w)))) → cap h' (sT S 1155 w) = cap h (sT S 1155 w) → Q none h') : Cl G d 122 [vR (some w), vJ x] h Q := by
  show Wp G d 122 0 [some (vR (some w)), some (vJ x), none, none, none, none, none] [] h Q
  have K54 := kT1154 ok hw
  have K55 := kT1155 ok hw
  have K56 := kT1156 ok hw
  have njo : sT S 1154 w ≠ sT S 1155 w := ok.so.ou (by decide) (by decide) (Or.inl (by decide))
  have nos : sT S 1155 w ≠ sT S 1156 w := ok.so.ou (by decide) (by decide) (Or.inl (by decide))
  have njs : sT S 1154 w ≠ sT S 1156 w := ok.so.ou (by decide) (by decide) (Or.inl (by decide))
  have c56 := cT1156 ok hw
  refine w_aload_n d122_0 rfl ?_
  refine w_dloadS d122_1 (ok.kd hw) (fr1156 ok hw) ?_
  refine w_callv1 d122_4 (by omega) rfl (ok.kd (kT1156 ok hw)) (by simp) (Nat.le_of_ble_eq_true rfl) ?_
  refine r_Row_clear ok (kT1156 ok hw) (fun h4 m4 e4_1 e4_2 => ?_)
  have ok4 := m4.ok
  have M4 := Mo.tr ok (Mo.refl (A := (fun x => x = (sT S 1155 w) ∨ x = (sT S 1156 w))) ok) m4 (fun x e => (Or.inr e))
  refine w_aload_n d122_7 rfl ?_
  refine w_dloadS d122_8 (ok4.kd hw) (fr1156 ok4 hw) ?_
  refine w_lload_n d122_11 rfl ?_
  refine w_callv2 d122_12 (by omega) rfl (ok4.kd (kT1156 ok4 hw)) (by simp) (Nat.le_of_ble_eq_true rfl) ?_
  refine r_Row_addName (by omega) ok4 (kT1156 ok4 hw) (fun h12 m12 e12_1 e12_2 => ?_)
  have ok12 := m12.ok
  have M12 := Mo.tr ok M4 m12 (fun x e => (Or.inr e))
  have n8 : (nmB x 8).length ≤ 8 := nmB_le x
  have ex : rl h12 (sT S 1156 w) = nmB x 8 := by rw [e12_1, e4_1, e4_2]; exact addBs_fit (by simp only [List.length_nil]; omega)
  have ro12 : rl h12 (sT S 1155 w) = rl h (sT S 1155 w) := by rw [m12.rb ok4 K55 nos, m4.rb ok K55 nos]
  have co12 : cap h12 (sT S 1155 w) = cap h (sT S 1155 w) := by rw [(m12.cp ok4 K55).2 nos, (m4.cp ok K55).2 nos]
  refine w_aload_n d122_15 rfl ?_
  refine w_dloadS d122_16 (ok12.kd hw) (fr1156 ok12 hw) ?_
  refine w_callv1 d122_19 (by omega) rfl (ok12.kd (kT1156 ok12 hw)) (by simp) (Nat.le_of_ble_eq_true rfl) ?_
  refine r_Row_size ok12 (kT1156 ok12 hw) ?_
  rw [ex]
  refine w_istore3 d122_22 rfl ?_
  refine w_iconst d122_23 (by decide) ?_
  refine w_istore4 d122_24 rfl ?_
  have L26 : ∀ (m26 : Nat) (g : Hp) (f : Nat), (rl h (sT S 1154 w)).length + 1 - f = m26 → Mo S (fun x => x = (sT S 1155 w) ∨ x = (sT S 1156 w)) h g → (f ≤ (rl h (sT S 1154 w)).length + 1) → (cap g (sT S 1155 w) = cap h (sT S 1155 w)) → (addBs (cap h (sT S 1155 w)) (rl g (sT S 1155 w)) (gpT x ((nmB x 8).length) (lns ((rl h (sT S 1154 w)).drop f))) = addBs (cap h (sT S 1155 w)) (rl h (sT S 1155 w)) (gpT x ((nmB x 8).length) (lns (rl h (sT S 1154 w))))) → Wp G d 122 26 [some (vR (some w)), some (vJ x), none, some (vI ((nmB x 8).length : Nat)), some (vI (f : Nat)), none, none] [] g Q := by
    intro m26
    induction m26 using Nat.strongRecOn with | ind m26 IH26 => ?_
    intro g f hm26 Mg i1 i3 i4
    have okg := Mg.ok
    have rg : rl g (sT S 1154 w) = rl h (sT S 1154 w) := Mg.rb ok K54 (by simp [njo, njs])
    refine w_iload d122_26 rfl ?_
    refine w_aload_n d122_28 rfl ?_
    refine w_dloadS d122_29 (okg.kd hw) (fr1154 okg hw) ?_
    refine w_callv1 d122_32 (by omega) rfl (okg.kd (kT1154 okg hw)) (by simp) (Nat.le_of_ble_eq_true rfl) ?_
    refine r_Row_size okg (kT1154 okg hw) ?_
    rw [rg]
    refine w_icmpge d122_35 (fun c35 => ?_) (fun c35 => ?_)
    · refine w_return d122_119 ?_
      rw [lns_end (by omega), gpT] at i4
      exact kk g Mg i4 i3
    · have le := lineE_le (l := (rl h (sT S 1154 w))) (i := f) (by omega)
      have lg := lineE_ge (rl h (sT S 1154 w)) f
      have sq := stB_sl (x := x) (n := (nmB x 8).length) lg le
      refine w_aload_n d122_38 rfl ?_
      refine w_dloadS d122_39 (okg.kd hw) (fr1154 okg hw) ?_
      refine w_iload d122_42 rfl ?_
      refine w_callv2 d122_44 (by omega) rfl (okg.kd (kT1154 okg hw)) (by simp) (Nat.le_of_ble_eq_true rfl) ?_
      refine r_Row_lineEndN (by omega) okg (kT1154 okg hw) (by omega) ?_
      rw [rg]
      refine w_istore5 d122_47 rfl ?_
      refine w_iload d122_49 rfl ?_
      refine w_istore6 d122_51 rfl ?_
      have L53 : ∀ (m53 : Nat) (i : Nat), (lineE (rl h (sT S 1154 w)) f) + 1 - i = m53 → (f ≤ i ∧ i ≤ (lineE (rl h (sT S 1154 w)) f) + 1) → (srF (fun i => nameV (rl h (sT S 1154 w)) i (i + (nmB x 8).length) == x) ((lineE (rl h (sT S 1154 w)) f) + 1 - (nmB x 8).length) f = srF (fun i => nameV (rl h (sT S 1154 w)) i (i + (nmB x 8).length) == x) ((lineE (rl h (sT S 1154 w)) f) + 1 - (nmB x 8).length) i) → Wp G d 122 53 [some (vR (some w)), some (vJ x), none, some (vI ((nmB x 8).length : Nat)), some (vI (f : Nat)), some (vI ((lineE (rl h (sT S 1154 w)) f) : Nat)), some (vI (i : Nat))] [] g Q := by
        intro m53
        induction m53 using Nat.strongRecOn with | ind m53 IH53 => ?_
        intro i hm53 k1 k2
        refine w_iload d122_53 rfl ?_
        refine w_iload_n d122_55 rfl ?_
        refine w_iadd d122_56 (by constructor <;> omega) ?_
        refine w_iload d122_57 rfl ?_
        refine w_icmpgt d122_59 (fun c59 => ?_) (fun c59 => ?_)
        · have sb : ¬ stB x ((nmB x 8).length) (sl (rl h (sT S 1154 w)) f (lineE (rl h (sT S 1154 w)) f)) = true := by rw [sq, k2, srF_end (by omega)]; decide
          refine w_iload d122_86 rfl ?_
          refine w_iload_n d122_88 rfl ?_
          refine w_iadd d122_89 (by constructor <;> omega) ?_
          refine w_iload d122_90 rfl ?_
          refine w_icmpgt d122_92 (fun c92 => ?_) (fun c92 => ?_)
          · refine w_iload d122_110 rfl ?_
            refine w_iconst d122_112 (by decide) ?_
            refine w_iadd d122_113 (by constructor <;> omega) ?_
            rw [show (((lineE (rl h (sT S 1154 w)) f) : Nat) : Int) + 1 = (((lineE (rl h (sT S 1154 w)) f) + 1 : Nat) : Int) by omega]
            refine w_istore4 d122_114 rfl ?_
            refine w_goto d122_116 ?_
            refine w_less ?_ (IH26 _ (by omega) g ((lineE (rl h (sT S 1154 w)) f) + 1) rfl Mg (by omega) i3 (by rw [lns_at (by omega), gpT, if_neg sb, List.nil_append] at i4; exact i4))
            exact ⟨Or.inr rfl, Or.inr rfl, Or.inl rfl, Or.inr rfl, Or.inr rfl, Or.inl rfl, Or.inl rfl, trivial⟩
          · omega
        · refine w_aload_n d122_62 rfl ?_
          refine w_dloadS d122_63 (okg.kd hw) (fr1154 okg hw) ?_
          refine w_iload d122_66 rfl ?_
          refine w_iload d122_68 rfl ?_
          refine w_iload_n d122_70 rfl ?_
          refine w_iadd d122_71 (by constructor <;> omega) ?_
          rw [show ((i : Nat) : Int) + (((nmB x 8).length : Nat) : Int) = ((i + (nmB x 8).length : Nat) : Int) by omega]
          refine w_callv3 d122_72 (by omega) rfl (okg.kd (kT1154 okg hw)) (by simp) (Nat.le_of_ble_eq_true rfl) ?_
          refine r_Row_nameIn okg (kT1154 okg hw) ⟨by omega, by rw [rg]; omega⟩ ?_
          rw [rg]
          refine w_lload_n d122_75 rfl ?_
          refine w_lcmp d122_76 ?_
          refine w_ifeq d122_77 (fun c77 => ?_) (fun c77 => ?_)
          · have pk : (fun i => nameV (rl h (sT S 1154 w)) i (i + (nmB x 8).length) == x) i = true := by simp [lcmp0.mp c77]
            have sb : stB x ((nmB x 8).length) (sl (rl h (sT S 1154 w)) f (lineE (rl h (sT S 1154 w)) f)) = true := by rw [sq, k2, srF_yes (by omega) pk]; exact decide_eq_true (by omega)
            refine w_iload d122_86 rfl ?_
            refine w_iload_n d122_88 rfl ?_
            refine w_iadd d122_89 (by constructor <;> omega) ?_
            refine w_iload d122_90 rfl ?_
            refine w_icmpgt d122_92 (fun c92 => ?_) (fun c92 => ?_)
            · omega
            · refine w_aload_n d122_95 rfl ?_
              refine w_dloadS d122_96 (okg.kd hw) (fr1155 okg hw) ?_
              refine w_aload_n d122_99 rfl ?_
              refine w_dloadS d122_100 (okg.kd hw) (fr1154 okg hw) ?_
              refine w_iload d122_103 rfl ?_
              refine w_iload d122_105 rfl ?_
              refine w_callv4 d122_107 (by omega) rfl (okg.kd (kT1155 okg hw)) (by simp) (Nat.le_of_ble_eq_true rfl) ?_
              refine r_Row_addLine (by omega) okg (kT1155 okg hw) (kT1154 okg hw) njo ⟨lg, by rw [rg]; exact le⟩ (fun h107 m107 e107_1 e107_2 => ?_)
              rw [rg] at e107_1
              have ok107 := m107.ok
              have M107 := Mo.tr ok Mg m107 (fun x e => (Or.inl e))
              refine w_iload d122_110 rfl ?_
              refine w_iconst d122_112 (by decide) ?_
              refine w_iadd d122_113 (by constructor <;> omega) ?_
              rw [show (((lineE (rl h (sT S 1154 w)) f) : Nat) : Int) + 1 = (((lineE (rl h (sT S 1154 w)) f) + 1 : Nat) : Int) by omega]
              refine w_istore4 d122_114 rfl ?_
              refine w_goto d122_116 ?_
              refine w_less ?_ (IH26 _ (by omega) h107 ((lineE (rl h (sT S 1154 w)) f) + 1) rfl M107 (by omega) (by rw [e107_2]; exact i3) (by rw [lns_at (by omega), gpT, if_pos sb] at i4; rw [e107_1, i3, addBs3]; exact i4))
              exact ⟨Or.inr rfl, Or.inr rfl, Or.inl rfl, Or.inr rfl, Or.inr rfl, Or.inl rfl, Or.inl rfl, trivial⟩
          · have pk : (fun i => nameV (rl h (sT S 1154 w)) i (i + (nmB x 8).length) == x) i = false := by simp; intro q; exact absurd (lcmp0.mpr q) c77
            refine w_iinc6 d122_80 rfl (by constructor <;> omega) ?_
            refine w_goto d122_83 ?_
            refine w_less ?_ (IH53 _ (by omega) (i + 1) rfl (by omega) (by rw [k2, srF_no (by omega) pk]))
            exact ⟨Or.inr rfl, Or.inr rfl, Or.inl rfl, Or.inr rfl, Or.inr rfl, Or.inr rfl, Or.inr rfl, trivial⟩
      refine w_less ?_ (L53 _ f rfl ⟨Nat.le_refl _, by omega⟩ rfl)
      exact ⟨Or.inr rfl, Or.inr rfl, Or.inl rfl, Or.inr rfl, Or.inr rfl, Or.inr rfl, Or.inr rfl, trivial⟩
  refine w_less ?_ (L26 _ h12 0 rfl M12 (by omega) co12 (by rw [ro12, List.drop_zero]))
  exact ⟨Or.inr rfl, Or.inr rfl, Or.inl rfl, Or.inr rfl, Or.inr rfl, Or.inl rfl, Or.inl rfl, trivial⟩
