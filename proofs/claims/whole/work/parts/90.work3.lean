/-! the workshop: upper, count, uniq, grep -/
def upC (b : Nat) : Nat := if 97 ≤ b ∧ b ≤ 122 then b - 32 else b
def upW (j : List Nat) : Nat → List Nat
  | 0 => []
  | i + 1 => upW j i ++ [upC (j.getD i 0)]
/-- lines, but one like the one ahead -/
def uqT : Option (List Nat) → List (List Nat) → List Nat
  | _, [] => []
  | p, x :: xs => (if p = some x then [] else x ++ [10]) ++ uqT (some x) xs
/-- a word stands in a line -/
def stB (x : Int64) (n : Nat) (y : List Nat) : Bool := decide (0 ≤ srF (fun i => nameV y i (i + n) == x) (y.length + 1 - n) 0)
def gpT (x : Int64) (n : Nat) : List (List Nat) → List Nat
  | [] => []
  | y :: ys => (if stB x n y = true then y ++ [10] else []) ++ gpT x n ys
theorem sl_gd {l : List Nat} {f e i : Nat} (h : f + i < e) : (sl l f e).getD i 0 = l.getD (f + i) 0 := by
  unfold sl
  rw [List.getD_eq_getElem?_getD, List.getD_eq_getElem?_getD, List.getElem?_take_of_lt (by omega), List.getElem?_drop]
theorem nameV_sl {l : List Nat} {f e i n : Nat} (h : f + i + n ≤ e) : nameV (sl l f e) i (i + n) = nameV l (f + i) (f + i + n) := by
  unfold nameV pad8
  congr 1
  refine List.map_congr_left (fun k _ => ?_)
  by_cases q : k < n
  · rw [if_pos (by omega), if_pos (by omega), sl_gd (by omega)]
    congr 1
    omega
  · rw [if_neg (by omega), if_neg (by omega)]
theorem stB_sl {l : List Nat} {f e n : Nat} {x : Int64} (hf : f ≤ e) (he : e ≤ l.length) : stB x n (sl l f e) = decide (0 ≤ srF (fun i => nameV l i (i + n) == x) (e + 1 - n) f) := by
  unfold stB
  rw [sl_len ⟨hf, he⟩]
  have key : srF (fun i => nameV (sl l f e) i (i + n) == x) (e - f + 1 - n) 0 = -1 ↔ srF (fun i => nameV l i (i + n) == x) (e + 1 - n) f = -1 := by
    rw [srF_none, srF_none]
    constructor
    · intro H j j1 j2
      have := H (j - f) (Nat.zero_le _) (by omega)
      rw [nameV_sl (by omega)] at this
      rw [show f + (j - f) = j by omega] at this
      exact this
    · intro H j j1 j2
      have := H (f + j) (by omega) (by omega)
      rw [nameV_sl (by omega)]
      exact this
  have r1 := srF_rg (p := fun i => nameV (sl l f e) i (i + n) == x) (n := e - f + 1 - n) (i := 0)
  have r2 := srF_rg (p := fun i => nameV l i (i + n) == x) (n := e + 1 - n) (i := f)
  apply decide_eq_decide.mpr
  rcases r1 with e1 | ⟨j, -, -, e1, -⟩ <;> rcases r2 with e2 | ⟨k, -, -, e2, -⟩ <;> rw [e1] at key <;> rw [e2] at key <;> rw [e1, e2]
  · have := key.mp rfl; omega
  · have := key.mpr rfl; omega
  · constructor <;> intro <;> omega
/-- the line ahead -/
def UqP (j : List Nat) (bI eI : Int) (pv : Option (List Nat)) : Prop := (bI = -1 ∧ pv = none) ∨ ∃ b e : Nat, bI = b ∧ eI = e ∧ (b ≤ e ∧ e ≤ j.length) ∧ pv = some (sl j b e)
theorem lns_end {l : List Nat} {i : Nat} (h : l.length ≤ i) : lns (l.drop i) = [] := by rw [List.drop_of_length_le h]; rfl
theorem d121_0 : dc 121 0 = some (.iconst 0, 1) := by decide +kernel
theorem d121_1 : dc 121 1 = some (.istore_n 1, 2) := by decide +kernel
theorem d121_2 : dc 121 2 = some (.iload_n 1, 3) := by decide +kernel
theorem d121_3 : dc 121 3 = some (.aload_n 0, 4) := by decide +kernel
theorem d121_4 : dc 121 4 = some (.dload 1154, 7) := by decide +kernel
theorem d121_7 : dc 121 7 = some (.invokevirtual 13, 10) := by decide +kernel
theorem d121_10 : dc 121 10 = some (.if_icmp .ge ((58 : Nat) : Int), 13) := by decide +kernel
theorem d121_13 : dc 121 13 = some (.aload_n 0, 14) := by decide +kernel
theorem d121_14 : dc 121 14 = some (.dload 1154, 17) := by decide +kernel
theorem d121_17 : dc 121 17 = some (.iload_n 1, 18) := by decide +kernel
theorem d121_18 : dc 121 18 = some (.invokevirtual 23, 21) := by decide +kernel
theorem d121_21 : dc 121 21 = some (.istore_n 2, 22) := by decide +kernel
theorem d121_22 : dc 121 22 = some (.aload_n 0, 23) := by decide +kernel
theorem d121_23 : dc 121 23 = some (.dload 1155, 26) := by decide +kernel
theorem d121_26 : dc 121 26 = some (.iload_n 2, 27) := by decide +kernel
theorem d121_27 : dc 121 27 = some (.bipush 97, 29) := by decide +kernel
theorem d121_29 : dc 121 29 = some (.if_icmp .lt ((48 : Nat) : Int), 32) := by decide +kernel
theorem d121_32 : dc 121 32 = some (.iload_n 2, 33) := by decide +kernel
theorem d121_33 : dc 121 33 = some (.bipush 122, 35) := by decide +kernel
theorem d121_35 : dc 121 35 = some (.if_icmp .gt ((48 : Nat) : Int), 38) := by decide +kernel
theorem d121_38 : dc 121 38 = some (.iload_n 2, 39) := by decide +kernel
theorem d121_39 : dc 121 39 = some (.bipush 97, 41) := by decide +kernel
theorem d121_41 : dc 121 41 = some (.isub, 42) := by decide +kernel
theorem d121_42 : dc 121 42 = some (.bipush 65, 44) := by decide +kernel
theorem d121_44 : dc 121 44 = some (.iadd, 45) := by decide +kernel
theorem d121_45 : dc 121 45 = some (.goto ((49 : Nat) : Int), 48) := by decide +kernel
theorem d121_48 : dc 121 48 = some (.iload_n 2, 49) := by decide +kernel
theorem d121_49 : dc 121 49 = some (.invokevirtual 15, 52) := by decide +kernel
theorem d121_52 : dc 121 52 = some (.iinc 1 1, 55) := by decide +kernel
theorem d121_55 : dc 121 55 = some (.goto ((2 : Nat) : Int), 58) := by decide +kernel
theorem d121_58 : dc 121 58 = some (.return_, 59) := by decide +kernel
theorem k_Wk_upper {S : Shp} {G : Nat → Option Nat} {d : Nat} {h : Hp} {Q : Option MV → Hp → Prop} {w : Nat}  (ok : Ok S h) (h1 : 1 ≤ d) (hw : sK S w = 10)  (hj : (rl h (sT S 1154 w)).length ≤ 100000)
    (kk : ∀ h', Mo S (fun y => y = sT S 1155 w) h h' → rl h' (sT S 1155 w) = addBs (cap h (sT S 1155 w)) (rl h (sT S 1155 w)) (upW (rl h (sT S 1154 w)) (rl h (sT S 1154 w)).length) → cap h' (sT S 1155 w) = cap h (sT S 1155 w) → Q none h') : Cl G d 121 [vR (some w)] h Q := by
  show Wp G d 121 0 [some (vR (some w)), none, none] [] h Q
  have K54 := kT1154 ok hw
  have K55 := kT1155 ok hw
  have njo : sT S 1154 w ≠ sT S 1155 w := ok.so.ou (by decide) (by decide) (Or.inl (by decide))
  refine w_iconst d121_0 (by decide) ?_
  refine w_istore1 d121_1 rfl ?_
  have L2 : ∀ (m2 : Nat) (g : Hp) (i : Nat), (rl h (sT S 1154 w)).length - i = m2 → Mo S (fun x => x = (sT S 1155 w)) h g → (i ≤ (rl h (sT S 1154 w)).length) → (rl g (sT S 1155 w) = addBs (cap h (sT S 1155 w)) (rl h (sT S 1155 w)) (upW (rl h (sT S 1154 w)) i)) → (cap g (sT S 1155 w) = cap h (sT S 1155 w)) → Wp G d 121 2 [some (vR (some w)), some (vI (i : Nat)), none] [] g Q := by
    intro m2
    induction m2 using Nat.strongRecOn with | ind m2 IH2 => ?_
    intro g i hm2 Mg i1 i2 i3
    have okg := Mg.ok
    have rg : rl g (sT S 1154 w) = rl h (sT S 1154 w) := Mg.rb ok K54 njo
    refine w_iload_n d121_2 rfl ?_
    refine w_aload_n d121_3 rfl ?_
    refine w_dloadS d121_4 (okg.kd hw) (fr1154 okg hw) ?_
    refine w_callv1 d121_7 (by omega) rfl (okg.kd (kT1154 okg hw)) (by simp) (Nat.le_of_ble_eq_true rfl) ?_
    refine r_Row_size okg (kT1154 okg hw) ?_
    rw [rg]
    refine w_icmpge d121_10 (fun c10 => ?_) (fun c10 => ?_)
    · refine w_return d121_58 ?_
      exact kk g Mg (by rw [i2, show (rl h (sT S 1154 w)).length = i by omega]) i3
    · have bl := rl_lt ok.ro (ok.kd K54) i
      refine w_aload_n d121_13 rfl ?_
      refine w_dloadS d121_14 (okg.kd hw) (fr1154 okg hw) ?_
      refine w_iload_n d121_17 rfl ?_
      refine w_callv2 d121_18 (by omega) rfl (okg.kd (kT1154 okg hw)) (by simp) (Nat.le_of_ble_eq_true rfl) ?_
      refine r_Row_at okg (kT1154 okg hw) ?_
      rw [rg, atv_in ⟨by omega, by omega⟩, show ((i : Nat) : Int).toNat = i from rfl]
      refine w_istore2 d121_21 rfl ?_
      refine w_aload_n d121_22 rfl ?_
      refine w_dloadS d121_23 (okg.kd hw) (fr1155 okg hw) ?_
      refine w_iload_n d121_26 rfl ?_
      refine w_bipush d121_27 (by decide) ?_
      refine w_icmplt d121_29 (fun c29 => ?_) (fun c29 => ?_)
      · have uc : upC ((rl h (sT S 1154 w)).getD i 0) = (rl h (sT S 1154 w)).getD i 0 := by unfold upC; rw [if_neg (by omega)]
        refine w_iload_n d121_48 rfl ?_
        refine w_callv2 d121_49 (by omega) rfl (okg.kd (kT1155 okg hw)) (by simp) (Nat.le_of_ble_eq_true rfl) ?_
        refine r_Row_add okg (kT1155 okg hw) (fun h49 m49 e49_1 e49_2 => ?_)
        have ok49 := m49.ok
        have M49 := Mo.tr ok Mg m49 (fun x e => e)
        refine w_iinc1 d121_52 rfl (by constructor <;> omega) ?_
        refine w_goto d121_55 ?_
        refine w_less ?_ (IH2 _ (by omega) h49 (i + 1) rfl M49 (by omega) (by rw [e49_1, i3, i2, addBs3, upW, uc]; congr 3; omega) (by rw [e49_2, i3]))
        exact ⟨Or.inr rfl, Or.inr rfl, Or.inl rfl, trivial⟩
      · refine w_iload_n d121_32 rfl ?_
        refine w_bipush d121_33 (by decide) ?_
        refine w_icmpgt d121_35 (fun c35 => ?_) (fun c35 => ?_)
        · have uc : upC ((rl h (sT S 1154 w)).getD i 0) = (rl h (sT S 1154 w)).getD i 0 := by unfold upC; rw [if_neg (by omega)]
          refine w_iload_n d121_48 rfl ?_
          refine w_callv2 d121_49 (by omega) rfl (okg.kd (kT1155 okg hw)) (by simp) (Nat.le_of_ble_eq_true rfl) ?_
          refine r_Row_add okg (kT1155 okg hw) (fun h49 m49 e49_1 e49_2 => ?_)
          have ok49 := m49.ok
          have M49 := Mo.tr ok Mg m49 (fun x e => e)
          refine w_iinc1 d121_52 rfl (by constructor <;> omega) ?_
          refine w_goto d121_55 ?_
          refine w_less ?_ (IH2 _ (by omega) h49 (i + 1) rfl M49 (by omega) (by rw [e49_1, i3, i2, addBs3, upW, uc]; congr 3; omega) (by rw [e49_2, i3]))
          exact ⟨Or.inr rfl, Or.inr rfl, Or.inl rfl, trivial⟩
        · have uc : upC ((rl h (sT S 1154 w)).getD i 0) = (rl h (sT S 1154 w)).getD i 0 - 32 := by unfold upC; rw [if_pos (by omega)]
          refine w_iload_n d121_38 rfl ?_
          refine w_bipush d121_39 (by decide) ?_
          refine w_isub d121_41 (by constructor <;> omega) ?_
          refine w_bipush d121_42 (by decide) ?_
          refine w_iadd d121_44 (by constructor <;> omega) ?_
          refine w_goto d121_45 ?_
          refine w_callv2 d121_49 (by omega) rfl (okg.kd (kT1155 okg hw)) (by simp) (Nat.le_of_ble_eq_true rfl) ?_
          refine r_Row_add okg (kT1155 okg hw) (fun h49 m49 e49_1 e49_2 => ?_)
          have ok49 := m49.ok
          have M49 := Mo.tr ok Mg m49 (fun x e => e)
          refine w_iinc1 d121_52 rfl (by constructor <;> omega) ?_
          refine w_goto d121_55 ?_
          refine w_less ?_ (IH2 _ (by omega) h49 (i + 1) rfl M49 (by omega) (by rw [e49_1, i3, i2, addBs3, upW, uc]; congr 3; omega) (by rw [e49_2, i3]))
          exact ⟨Or.inr rfl, Or.inr rfl, Or.inl rfl, trivial⟩
  have M0_ := Mo.refl (A := (fun x => x = (sT S 1155 w))) ok
  refine w_less ?_ (L2 _ h 0 rfl M0_ (by omega) rfl rfl)
  exact ⟨Or.inr rfl, Or.inr rfl, Or.inl rfl, trivial⟩
theorem d123_0 : dc 123 0 = some (.iconst 0, 1) := by decide +kernel
theorem d123_1 : dc 123 1 = some (.istore_n 1, 2) := by decide +kernel
theorem d123_2 : dc 123 2 = some (.iconst 0, 3) := by decide +kernel
theorem d123_3 : dc 123 3 = some (.istore_n 2, 4) := by decide +kernel
theorem d123_4 : dc 123 4 = some (.iload_n 2, 5) := by decide +kernel
theorem d123_5 : dc 123 5 = some (.aload_n 0, 6) := by decide +kernel
theorem d123_6 : dc 123 6 = some (.dload 1154, 9) := by decide +kernel
theorem d123_9 : dc 123 9 = some (.invokevirtual 13, 12) := by decide +kernel
theorem d123_12 : dc 123 12 = some (.if_icmp .ge ((32 : Nat) : Int), 15) := by decide +kernel
theorem d123_15 : dc 123 15 = some (.aload_n 0, 16) := by decide +kernel
theorem d123_16 : dc 123 16 = some (.dload 1154, 19) := by decide +kernel
theorem d123_19 : dc 123 19 = some (.iload_n 2, 20) := by decide +kernel
theorem d123_20 : dc 123 20 = some (.invokevirtual 117, 23) := by decide +kernel
theorem d123_23 : dc 123 23 = some (.iconst 1, 24) := by decide +kernel
theorem d123_24 : dc 123 24 = some (.iadd, 25) := by decide +kernel
theorem d123_25 : dc 123 25 = some (.istore_n 2, 26) := by decide +kernel
theorem d123_26 : dc 123 26 = some (.iinc 1 1, 29) := by decide +kernel
theorem d123_29 : dc 123 29 = some (.goto ((4 : Nat) : Int), 32) := by decide +kernel
theorem d123_32 : dc 123 32 = some (.aload_n 0, 33) := by decide +kernel
theorem d123_33 : dc 123 33 = some (.dload 1155, 36) := by decide +kernel
theorem d123_36 : dc 123 36 = some (.iload_n 1, 37) := by decide +kernel
theorem d123_37 : dc 123 37 = some (.invokevirtual 124, 40) := by decide +kernel
theorem d123_40 : dc 123 40 = some (.aload_n 0, 41) := by decide +kernel
theorem d123_41 : dc 123 41 = some (.dload 1155, 44) := by decide +kernel
theorem d123_44 : dc 123 44 = some (.bipush 10, 46) := by decide +kernel
theorem d123_46 : dc 123 46 = some (.invokevirtual 15, 49) := by decide +kernel
theorem d123_49 : dc 123 49 = some (.return_, 50) := by decide +kernel
theorem k_Wk_count {S : Shp} {G : Nat → Option Nat} {d : Nat} {h : Hp} {Q : Option MV → Hp → Prop} {w : Nat}  (ok : Ok S h) (h1 : 2 ≤ d) (hw : sK S w = 10)  (hj : (rl h (sT S 1154 w)).length ≤ 100000)
    (kk : ∀ h', Mo S (fun y => y = sT S 1155 w) h h' → rl h' (sT S 1155 w) = addBs (cap h (sT S 1155 w)) (rl h (sT S 1155 w)) (dec (lns (rl h (sT S 1154 w))).length ++ [10]) → cap h' (sT S 1155 w) = cap h (sT S 1155 w) → Q none h') : Cl G d 123 [vR (some w)] h Q := by
  show Wp G d 123 0 [some (vR (some w)), none, none] [] h Q
  have K54 := kT1154 ok hw
  have K55 := kT1155 ok hw
  have njo : sT S 1154 w ≠ sT S 1155 w := ok.so.ou (by decide) (by decide) (Or.inl (by decide))
  refine w_iconst d123_0 (by decide) ?_
  refine w_istore1 d123_1 rfl ?_
  refine w_iconst d123_2 (by decide) ?_
  refine w_istore2 d123_3 rfl ?_
  have L4 : ∀ (m4 : Nat) (g : Hp) (n f : Nat), (rl h (sT S 1154 w)).length + 1 - f = m4 → Mo S (fun x => x = (sT S 1155 w)) h g → (f ≤ (rl h (sT S 1154 w)).length + 1) → (n ≤ f) → (n + (lns ((rl h (sT S 1154 w)).drop f)).length = (lns (rl h (sT S 1154 w))).length) → (g = h) → Wp G d 123 4 [some (vR (some w)), some (vI (n : Nat)), some (vI (f : Nat))] [] g Q := by
    intro m4
    induction m4 using Nat.strongRecOn with | ind m4 IH4 => ?_
    intro g n f hm4 Mg i1 i2 i3 gh
    have okg := Mg.ok
    have rg : rl g (sT S 1154 w) = rl h (sT S 1154 w) := Mg.rb ok K54 njo
    refine w_iload_n d123_4 rfl ?_
    refine w_aload_n d123_5 rfl ?_
    refine w_dloadS d123_6 (okg.kd hw) (fr1154 okg hw) ?_
    refine w_callv1 d123_9 (by omega) rfl (okg.kd (kT1154 okg hw)) (by simp) (Nat.le_of_ble_eq_true rfl) ?_
    refine r_Row_size okg (kT1154 okg hw) ?_
    rw [rg]
    refine w_icmpge d123_12 (fun c12 => ?_) (fun c12 => ?_)
    · rw [lns_end (by omega)] at i3
      refine w_aload_n d123_32 rfl ?_
      refine w_dloadS d123_33 (okg.kd hw) (fr1155 okg hw) ?_
      refine w_iload_n d123_36 rfl ?_
      refine w_callv2 d123_37 (by omega) rfl (okg.kd (kT1155 okg hw)) (by simp) (Nat.le_of_ble_eq_true rfl) ?_
      refine r_Row_addNumber (by omega) okg (kT1155 okg hw) (by omega) (fun h37 m37 e37_1 e37_2 => ?_)
      have ok37 := m37.ok
      have M37 := Mo.tr ok Mg m37 (fun x e => e)
      refine w_aload_n d123_40 rfl ?_
      refine w_dloadS d123_41 (ok37.kd hw) (fr1155 ok37 hw) ?_
      refine w_bipush d123_44 (by decide) ?_
      refine w_callv2 d123_46 (by omega) rfl (ok37.kd (kT1155 ok37 hw)) (by simp) (Nat.le_of_ble_eq_true rfl) ?_
      refine r_Row_add ok37 (kT1155 ok37 hw) (fun h46 m46 e46_1 e46_2 => ?_)
      have ok46 := m46.ok
      have M46 := Mo.tr ok M37 m46 (fun x e => e)
      refine w_return d123_49 ?_
      have e0 : (lns (rl h (sT S 1154 w))).length = n := by rw [← i3]; rfl
      exact kk h46 M46 (by rw [e46_1, e37_1, e37_2, addBs3, e0, gh]; rfl) (by rw [e46_2, e37_2, gh])
    · have le := lineE_le (l := rl h (sT S 1154 w)) (i := f) (by omega)
      have lg := lineE_ge (rl h (sT S 1154 w)) f
      rw [lns_at (by omega), List.length_cons] at i3
      refine w_aload_n d123_15 rfl ?_
      refine w_dloadS d123_16 (okg.kd hw) (fr1154 okg hw) ?_
      refine w_iload_n d123_19 rfl ?_
      refine w_callv2 d123_20 (by omega) rfl (okg.kd (kT1154 okg hw)) (by simp) (Nat.le_of_ble_eq_true rfl) ?_
      refine r_Row_lineEndN (by omega) okg (kT1154 okg hw) (by omega) ?_
      rw [rg]
      refine w_iconst d123_23 (by decide) ?_
      refine w_iadd d123_24 (by constructor <;> omega) ?_
      rw [show ((lineE (rl h (sT S 1154 w)) f : Nat) : Int) + 1 = ((lineE (rl h (sT S 1154 w)) f + 1 : Nat) : Int) by omega]
      refine w_istore2 d123_25 rfl ?_
      refine w_iinc1 d123_26 rfl (by constructor <;> omega) ?_
      refine w_goto d123_29 ?_
      refine w_less ?_ (IH4 _ (by omega) g (n + 1) (lineE (rl h (sT S 1154 w)) f + 1) rfl Mg (by omega) (by omega) (by omega) gh)
      exact ⟨Or.inr rfl, Or.inr rfl, Or.inr rfl, trivial⟩
  have M0_ := Mo.refl (A := (fun x => x = (sT S 1155 w))) ok
  refine w_less ?_ (L4 _ h 0 0 rfl M0_ (by omega) (by omega) (by rw [List.drop_zero]; omega) rfl)
  exact ⟨Or.inr rfl, Or.inr rfl, Or.inr rfl, trivial⟩
theorem d120_0 : dc 120 0 = some (.iconst 0, 1) := by decide +kernel
theorem d120_1 : dc 120 1 = some (.istore_n 1, 2) := by decide +kernel
theorem d120_2 : dc 120 2 = some (.iconst (-1), 3) := by decide +kernel
theorem d120_3 : dc 120 3 = some (.istore_n 2, 4) := by decide +kernel
theorem d120_4 : dc 120 4 = some (.iconst (-1), 5) := by decide +kernel
theorem d120_5 : dc 120 5 = some (.istore_n 3, 6) := by decide +kernel
theorem d120_6 : dc 120 6 = some (.iload_n 1, 7) := by decide +kernel
theorem d120_7 : dc 120 7 = some (.aload_n 0, 8) := by decide +kernel
theorem d120_8 : dc 120 8 = some (.dload 1154, 11) := by decide +kernel
theorem d120_11 : dc 120 11 = some (.invokevirtual 13, 14) := by decide +kernel
theorem d120_14 : dc 120 14 = some (.if_icmp .ge ((77 : Nat) : Int), 17) := by decide +kernel
theorem d120_17 : dc 120 17 = some (.aload_n 0, 18) := by decide +kernel
theorem d120_18 : dc 120 18 = some (.dload 1154, 21) := by decide +kernel
theorem d120_21 : dc 120 21 = some (.iload_n 1, 22) := by decide +kernel
theorem d120_22 : dc 120 22 = some (.invokevirtual 117, 25) := by decide +kernel
theorem d120_25 : dc 120 25 = some (.istore 4, 27) := by decide +kernel
theorem d120_27 : dc 120 27 = some (.iload_n 2, 28) := by decide +kernel
theorem d120_28 : dc 120 28 = some (.ifCond .lt ((50 : Nat) : Int), 31) := by decide +kernel
theorem d120_31 : dc 120 31 = some (.aload_n 0, 32) := by decide +kernel
theorem d120_32 : dc 120 32 = some (.dload 1154, 35) := by decide +kernel
theorem d120_35 : dc 120 35 = some (.iload_n 2, 36) := by decide +kernel
theorem d120_36 : dc 120 36 = some (.iload_n 3, 37) := by decide +kernel
theorem d120_37 : dc 120 37 = some (.aload_n 0, 38) := by decide +kernel
theorem d120_38 : dc 120 38 = some (.dload 1154, 41) := by decide +kernel
theorem d120_41 : dc 120 41 = some (.iload_n 1, 42) := by decide +kernel
theorem d120_42 : dc 120 42 = some (.iload 4, 44) := by decide +kernel
theorem d120_44 : dc 120 44 = some (.invokevirtual 118, 47) := by decide +kernel
theorem d120_47 : dc 120 47 = some (.ifCond .eq ((64 : Nat) : Int), 50) := by decide +kernel
theorem d120_50 : dc 120 50 = some (.aload_n 0, 51) := by decide +kernel
theorem d120_51 : dc 120 51 = some (.dload 1155, 54) := by decide +kernel
theorem d120_54 : dc 120 54 = some (.aload_n 0, 55) := by decide +kernel
theorem d120_55 : dc 120 55 = some (.dload 1154, 58) := by decide +kernel
theorem d120_58 : dc 120 58 = some (.iload_n 1, 59) := by decide +kernel
theorem d120_59 : dc 120 59 = some (.iload 4, 61) := by decide +kernel
theorem d120_61 : dc 120 61 = some (.invokevirtual 119, 64) := by decide +kernel
theorem d120_64 : dc 120 64 = some (.iload_n 1, 65) := by decide +kernel
theorem d120_65 : dc 120 65 = some (.istore_n 2, 66) := by decide +kernel
theorem d120_66 : dc 120 66 = some (.iload 4, 68) := by decide +kernel
theorem d120_68 : dc 120 68 = some (.istore_n 3, 69) := by decide +kernel
theorem d120_69 : dc 120 69 = some (.iload 4, 71) := by decide +kernel
theorem d120_71 : dc 120 71 = some (.iconst 1, 72) := by decide +kernel
theorem d120_72 : dc 120 72 = some (.iadd, 73) := by decide +kernel
theorem d120_73 : dc 120 73 = some (.istore_n 1, 74) := by decide +kernel
theorem d120_74 : dc 120 74 = some (.goto ((6 : Nat) : Int), 77) := by decide +kernel
theorem d120_77 : dc 120 77 = some (.return_, 78) := by decide +kernel
theorem k_Wk_uniq {S : Shp} {G : Nat → Option Nat} {d : Nat} {h : Hp} {Q : Option MV → Hp → Prop} {w : Nat}  (ok : Ok S h) (h1 : 2 ≤ d) (hw : sK S w = 10)  (hj : (rl h (sT S 1154 w)).length ≤ 100000)
    (kk : ∀ h', Mo S (fun y => y = sT S 1155 w) h h' → rl h' (sT S 1155 w) = addBs (cap h (sT S 1155 w)) (rl h (sT S 1155 w)) (uqT none (lns (rl h (sT S 1154 w)))) → cap h' (sT S 1155 w) = cap h (sT S 1155 w) → Q none h') : Cl G d 120 [vR (some w)] h Q := by
  show Wp G d 120 0 [some (vR (some w)), none, none, none, none] [] h Q
  have K54 := kT1154 ok hw
  have K55 := kT1155 ok hw
  have njo : sT S 1154 w ≠ sT S 1155 w := ok.so.ou (by decide) (by decide) (Or.inl (by decide))
  refine w_iconst d120_0 (by decide) ?_
  refine w_istore1 d120_1 rfl ?_
  refine w_iconst d120_2 (by decide) ?_
  refine w_istore2 d120_3 rfl ?_
  refine w_iconst d120_4 (by decide) ?_
  refine w_istore3 d120_5 rfl ?_
  have L6 : ∀ (m6 : Nat) (g : Hp) (f : Nat) (bI eI : Int) (pv : Option (List Nat)), (rl h (sT S 1154 w)).length + 1 - f = m6 → Mo S (fun x => x = (sT S 1155 w)) h g → (f ≤ (rl h (sT S 1154 w)).length + 1) → (UqP (rl h (sT S 1154 w)) bI eI pv) → (cap g (sT S 1155 w) = cap h (sT S 1155 w)) → (addBs (cap h (sT S 1155 w)) (rl g (sT S 1155 w)) (uqT pv (lns ((rl h (sT S 1154 w)).drop f))) = addBs (cap h (sT S 1155 w)) (rl h (sT S 1155 w)) (uqT none (lns (rl h (sT S 1154 w))))) → Wp G d 120 6 [some (vR (some w)), some (vI (f : Nat)), some (vI bI), some (vI eI), none] [] g Q := by
    intro m6
    induction m6 using Nat.strongRecOn with | ind m6 IH6 => ?_
    intro g f bI eI pv hm6 Mg i1 i2 i3 i4
    have okg := Mg.ok
    have rg : rl g (sT S 1154 w) = rl h (sT S 1154 w) := Mg.rb ok K54 njo
    refine w_iload_n d120_6 rfl ?_
    refine w_aload_n d120_7 rfl ?_
    refine w_dloadS d120_8 (okg.kd hw) (fr1154 okg hw) ?_
    refine w_callv1 d120_11 (by omega) rfl (okg.kd (kT1154 okg hw)) (by simp) (Nat.le_of_ble_eq_true rfl) ?_
    refine r_Row_size okg (kT1154 okg hw) ?_
    rw [rg]
    refine w_icmpge d120_14 (fun c14 => ?_) (fun c14 => ?_)
    · refine w_return d120_77 ?_
      rw [lns_end (by omega), uqT] at i4
      exact kk g Mg i4 i3
    · have le := lineE_le (l := rl h (sT S 1154 w)) (i := f) (by omega)
      have lg := lineE_ge (rl h (sT S 1154 w)) f
      refine w_aload_n d120_17 rfl ?_
      refine w_dloadS d120_18 (okg.kd hw) (fr1154 okg hw) ?_
      refine w_iload_n d120_21 rfl ?_
      refine w_callv2 d120_22 (by omega) rfl (okg.kd (kT1154 okg hw)) (by simp) (Nat.le_of_ble_eq_true rfl) ?_
      refine r_Row_lineEndN (by omega) okg (kT1154 okg hw) (by omega) ?_
      rw [rg]
      refine w_istore4 d120_25 rfl ?_
      refine w_iload_n d120_27 rfl ?_
      refine w_iflt d120_28 (fun c28 => ?_) (fun c28 => ?_)
      · have pe : ¬ pv = some (sl (rl h (sT S 1154 w)) f (lineE (rl h (sT S 1154 w)) f)) := by rcases i2 with ⟨-, q⟩ | ⟨b, e, q, -⟩; rw [q]; exact (fun z => by cases z); exfalso; omega
        refine w_aload_n d120_50 rfl ?_
        refine w_dloadS d120_51 (okg.kd hw) (fr1155 okg hw) ?_
        refine w_aload_n d120_54 rfl ?_
        refine w_dloadS d120_55 (okg.kd hw) (fr1154 okg hw) ?_
        refine w_iload_n d120_58 rfl ?_
        refine w_iload d120_59 rfl ?_
        refine w_callv4 d120_61 (by omega) rfl (okg.kd (kT1155 okg hw)) (by simp) (Nat.le_of_ble_eq_true rfl) ?_
        refine r_Row_addLine (by omega) okg (kT1155 okg hw) (kT1154 okg hw) njo ⟨lg, by rw [rg]; exact le⟩ (fun h61 m61 e61_1 e61_2 => ?_)
        rw [rg] at e61_1
        have ok61 := m61.ok
        have M61 := Mo.tr ok Mg m61 (fun x e => e)
        refine w_iload_n d120_64 rfl ?_
        refine w_istore2 d120_65 rfl ?_
        refine w_iload d120_66 rfl ?_
        refine w_istore3 d120_68 rfl ?_
        refine w_iload d120_69 rfl ?_
        refine w_iconst d120_71 (by decide) ?_
        refine w_iadd d120_72 (by constructor <;> omega) ?_
        rw [show ((lineE (rl h (sT S 1154 w)) f : Nat) : Int) + 1 = ((lineE (rl h (sT S 1154 w)) f + 1 : Nat) : Int) by omega]
        refine w_istore1 d120_73 rfl ?_
        refine w_goto d120_74 ?_
        refine w_less ?_ (IH6 _ (by omega) h61 (lineE (rl h (sT S 1154 w)) f + 1) ((f : Nat) : Int) ((lineE (rl h (sT S 1154 w)) f : Nat) : Int) (some (sl (rl h (sT S 1154 w)) f (lineE (rl h (sT S 1154 w)) f))) rfl M61 (by omega) (Or.inr ⟨f, lineE (rl h (sT S 1154 w)) f, rfl, rfl, ⟨lg, le⟩, rfl⟩) (by rw [e61_2]; exact i3) (by rw [lns_at (by omega), uqT, if_neg pe] at i4; rw [e61_1, i3, addBs3]; exact i4))
        exact ⟨Or.inr rfl, Or.inr rfl, Or.inr rfl, Or.inr rfl, Or.inl rfl, trivial⟩
      · obtain ⟨b, e, q1, q2, q3, q4⟩ : ∃ b e : Nat, bI = b ∧ eI = e ∧ (b ≤ e ∧ e ≤ (rl h (sT S 1154 w)).length) ∧ pv = some (sl (rl h (sT S 1154 w)) b e) := by rcases i2 with ⟨q, -⟩ | q; omega; exact q
        subst q1
        subst q2
        refine w_aload_n d120_31 rfl ?_
        refine w_dloadS d120_32 (okg.kd hw) (fr1154 okg hw) ?_
        refine w_iload_n d120_35 rfl ?_
        refine w_iload_n d120_36 rfl ?_
        refine w_aload_n d120_37 rfl ?_
        refine w_dloadS d120_38 (okg.kd hw) (fr1154 okg hw) ?_
        refine w_iload_n d120_41 rfl ?_
        refine w_iload d120_42 rfl ?_
        refine w_callv6 d120_44 (by omega) rfl (okg.kd (kT1154 okg hw)) (by simp) (Nat.le_of_ble_eq_true rfl) ?_
        refine r_Row_order (by omega) okg (kT1154 okg hw) (kT1154 okg hw) ⟨q3.1, by rw [rg]; exact q3.2⟩ ⟨lg, by rw [rg]; exact le⟩ ?_
        rw [rg]
        refine w_ifeq d120_47 (fun c47 => ?_) (fun c47 => ?_)
        · have pe : pv = some (sl (rl h (sT S 1154 w)) f (lineE (rl h (sT S 1154 w)) f)) := by rw [q4, cmpL_eq.mp c47]
          refine w_iload_n d120_64 rfl ?_
          refine w_istore2 d120_65 rfl ?_
          refine w_iload d120_66 rfl ?_
          refine w_istore3 d120_68 rfl ?_
          refine w_iload d120_69 rfl ?_
          refine w_iconst d120_71 (by decide) ?_
          refine w_iadd d120_72 (by constructor <;> omega) ?_
          rw [show ((lineE (rl h (sT S 1154 w)) f : Nat) : Int) + 1 = ((lineE (rl h (sT S 1154 w)) f + 1 : Nat) : Int) by omega]
          refine w_istore1 d120_73 rfl ?_
          refine w_goto d120_74 ?_
          refine w_less ?_ (IH6 _ (by omega) g (lineE (rl h (sT S 1154 w)) f + 1) ((f : Nat) : Int) ((lineE (rl h (sT S 1154 w)) f : Nat) : Int) (some (sl (rl h (sT S 1154 w)) f (lineE (rl h (sT S 1154 w)) f))) rfl Mg (by omega) (Or.inr ⟨f, lineE (rl h (sT S 1154 w)) f, rfl, rfl, ⟨lg, le⟩, rfl⟩) i3 (by rw [lns_at (by omega), uqT, if_pos pe, List.nil_append] at i4; exact i4))
          exact ⟨Or.inr rfl, Or.inr rfl, Or.inr rfl, Or.inr rfl, Or.inl rfl, trivial⟩
        · have pe : ¬ pv = some (sl (rl h (sT S 1154 w)) f (lineE (rl h (sT S 1154 w)) f)) := fun z => c47 (cmpL_eq.mpr (by rw [q4] at z; exact Option.some.inj z))
          refine w_aload_n d120_50 rfl ?_
          refine w_dloadS d120_51 (okg.kd hw) (fr1155 okg hw) ?_
          refine w_aload_n d120_54 rfl ?_
          refine w_dloadS d120_55 (okg.kd hw) (fr1154 okg hw) ?_
          refine w_iload_n d120_58 rfl ?_
          refine w_iload d120_59 rfl ?_
          refine w_callv4 d120_61 (by omega) rfl (okg.kd (kT1155 okg hw)) (by simp) (Nat.le_of_ble_eq_true rfl) ?_
          refine r_Row_addLine (by omega) okg (kT1155 okg hw) (kT1154 okg hw) njo ⟨lg, by rw [rg]; exact le⟩ (fun h61 m61 e61_1 e61_2 => ?_)
          rw [rg] at e61_1
          have ok61 := m61.ok
          have M61 := Mo.tr ok Mg m61 (fun x e => e)
          refine w_iload_n d120_64 rfl ?_
          refine w_istore2 d120_65 rfl ?_
          refine w_iload d120_66 rfl ?_
          refine w_istore3 d120_68 rfl ?_
          refine w_iload d120_69 rfl ?_
          refine w_iconst d120_71 (by decide) ?_
          refine w_iadd d120_72 (by constructor <;> omega) ?_
          rw [show ((lineE (rl h (sT S 1154 w)) f : Nat) : Int) + 1 = ((lineE (rl h (sT S 1154 w)) f + 1 : Nat) : Int) by omega]
          refine w_istore1 d120_73 rfl ?_
          refine w_goto d120_74 ?_
          refine w_less ?_ (IH6 _ (by omega) h61 (lineE (rl h (sT S 1154 w)) f + 1) ((f : Nat) : Int) ((lineE (rl h (sT S 1154 w)) f : Nat) : Int) (some (sl (rl h (sT S 1154 w)) f (lineE (rl h (sT S 1154 w)) f))) rfl M61 (by omega) (Or.inr ⟨f, lineE (rl h (sT S 1154 w)) f, rfl, rfl, ⟨lg, le⟩, rfl⟩) (by rw [e61_2]; exact i3) (by rw [lns_at (by omega), uqT, if_neg pe] at i4; rw [e61_1, i3, addBs3]; exact i4))
          exact ⟨Or.inr rfl, Or.inr rfl, Or.inr rfl, Or.inr rfl, Or.inl rfl, trivial⟩
  have M0_ := Mo.refl (A := (fun x => x = (sT S 1155 w))) ok
  refine w_less ?_ (L6 _ h 0 (-1) (-1) none rfl M0_ (by omega) (Or.inl ⟨rfl, rfl⟩) rfl (by rw [List.drop_zero]))
  exact ⟨Or.inr rfl, Or.inr rfl, Or.inr rfl, Or.inr rfl, Or.inl rfl, trivial⟩
