/-! more rules: values that are known, places that are natural numbers; rows within the tree -/
section RULES4
variable {S : Shp} {h : Hp} {a f n j : Nat} {G : Nat → Option Nat} {d k pc pc' : Nat} {ls : List (Option MV)} {st : List MV} {Q : Option MV → Hp → Prop}
theorem w_floadV {x : Int64} (hd : dc k pc = some (.fload f, pc')) (hg : KD h a = kFld f) (hv : FL h f a = x) (kk : Wp G d k pc' ls (vJ x :: st) h Q) : Wp G d k pc ls (vR (some a) :: st) h Q := w_fload hd hg (by rw [hv]; exact kk)
theorem w_ialoadV {b : Nat} {i : Int} {x : Int} (hd : dc k pc = some (.iaload, pc')) (hg : isIA (KD h b) = true ∧ bnd i (LN h b)) (hv : AI h b i.toNat = x) (kk : Wp G d k pc' ls (vI x :: st) h Q) : Wp G d k pc ls (vI i :: vR (some b) :: st) h Q := w_iaload hd hg (by rw [hv]; exact kk)
theorem w_ialoadN {b : Nat} {j : Nat} (hd : dc k pc = some (.iaload, pc')) (hg : isIA (KD h b) = true ∧ bnd (j : Nat) (LN h b)) (kk : Wp G d k pc' ls (vI (AI h b j) :: st) h Q) : Wp G d k pc ls (vI (j : Nat) :: vR (some b) :: st) h Q := w_iaload hd hg kk
theorem w_baloadV {b : Nat} {i : Int} {x : Int} (hd : dc k pc = some (.baload, pc')) (hg : isBA (KD h b) = true ∧ bnd i (LN h b)) (hv : AI h b i.toNat = x) (kk : Wp G d k pc' ls (vI x :: st) h Q) : Wp G d k pc ls (vI i :: vR (some b) :: st) h Q := w_baload hd hg (by rw [hv]; exact kk)
theorem w_baloadN {b : Nat} {j : Nat} (hd : dc k pc = some (.baload, pc')) (hg : isBA (KD h b) = true ∧ bnd (j : Nat) (LN h b)) (kk : Wp G d k pc' ls (vI (AI h b j) :: st) h Q) : Wp G d k pc ls (vI (j : Nat) :: vR (some b) :: st) h Q := w_baload hd hg kk
theorem w_laloadV {b : Nat} {i : Int} {x : Int64} (hd : dc k pc = some (.laload, pc')) (hg : KD h b = 44 ∧ bnd i (LN h b)) (hv : AL h b i.toNat = x) (kk : Wp G d k pc' ls (vJ x :: st) h Q) : Wp G d k pc ls (vI i :: vR (some b) :: st) h Q := w_laload hd hg (by rw [hv]; exact kk)
theorem w_laloadN {b : Nat} {j : Nat} (hd : dc k pc = some (.laload, pc')) (hg : KD h b = 44 ∧ bnd (j : Nat) (LN h b)) (kk : Wp G d k pc' ls (vJ (AL h b j) :: st) h Q) : Wp G d k pc ls (vI (j : Nat) :: vR (some b) :: st) h Q := w_laload hd hg kk
theorem w_aaloadSN {b c j : Nat} (hd : dc k pc = some (.aaload, pc')) (hg : isRA (KD h b) = true ∧ bnd (j : Nat) (LN h b)) (hv : AR h b j = some c) (kk : Wp G d k pc' ls (vR (some c) :: st) h Q) : Wp G d k pc ls (vI (j : Nat) :: vR (some b) :: st) h Q := w_aaload hd hg (by show Wp G d k pc' ls (vR (AR h b j) :: st) h Q; rw [hv]; exact kk)
theorem Ok.frW (ok : Ok S h) (ha : sK S a = 7) : FR h 768 a = some (sT S 1288 (sX S)) := ok.st.2.2.2.2.2.1 a ha
theorem Ok.kX (ok : Ok S h) : sK S (sX S) = 11 := ok.so.2.2.2.2.1.1
theorem Ok.kM (ok : Ok S h) : sK S (sM S) = 14 := ok.so.2.2.2.2.1.2.1
theorem Ok.kW (ok : Ok S h) : sK S (sT S 1288 (sX S)) = 10 := kT1288 ok ok.kX
theorem wr514 {x : Option Nat} (hd : dc k pc = some (.dstore 514, pc')) (ok : Ok S h) (ha : sK S a = 5) (kk : ∀ h', h' = sFR h 514 a x → Mo S (fun y => y = a) h h' → Wp G d k pc' ls st h' Q) : Wp G d k pc ls (vR x :: vR (some a) :: st) h Q :=
  w_dstore hd ⟨(ok.kd ha : KD h a = 5), by decide⟩ (kk _ rfl (Mo.pFR ok ha))
theorem addBs_nil (n : Nat) (l : List Nat) : addBs n l [] = l := rfl
theorem addBs_app (n : Nat) (l a b : List Nat) : addBs n l (a ++ b) = addBs n (addBs n l a) b := List.foldl_append
theorem addBs_one (n : Nat) (l : List Nat) (c : Nat) : addBs n l [c] = addB n l c := rfl
theorem addBs_take {n : Nat} : ∀ (cs l : List Nat), l.length ≤ n → addBs n l cs = l ++ cs.take (n - l.length)
  | [], l, _ => by simp [addBs]
  | c :: cs, l, hl => by
    show addBs n (addB n l c) cs = _
    unfold addB
    split
    · rename_i q
      rw [addBs_take cs _ (by simp; omega), List.length_append, List.length_singleton, List.append_assoc, show n - l.length = (n - (l.length + 1)) + 1 by omega, List.take_succ_cons]
      rfl
    · rename_i q
      rw [addBs_take cs _ hl, show n - l.length = 0 by omega]
      simp
theorem addBs_fit {n : Nat} {l cs : List Nat} (hn : l.length + cs.length ≤ n) : addBs n l cs = l ++ cs := by
  rw [addBs_take cs l (by omega), List.take_of_length_le (by omega)]
theorem addB_fit {n : Nat} {l : List Nat} {c : Nat} (hn : l.length < n) : addB n l c = l ++ [c] := if_pos hn
theorem addBs_len {n : Nat} {l cs : List Nat} (hl : l.length ≤ n) : (addBs n l cs).length ≤ n := by
  rw [addBs_take cs l hl, List.length_append, List.length_take]
  omega
theorem Ok.rc (ok : Ok S h) (ha : sK S a = 6) : (rl h a).length ≤ cap h a := rl_cap (ok.ro.1 a (ok.kd ha))
theorem r_of {l : List Nat} {Q' : Hp → Prop} (ok : Ok S h) (ha : sK S a = 6) (kk : ∀ h', Mo S (fun x => x = a) h h' → rl h' a = l → cap h' a = cap h a → Q' h') : ∀ h', RSt h h' a l → Q' h' := fun h' r => kk h' (Mo.row ok r.1) r.2.1 (r.2.2 a (ok.kd ha))
section ROWS
variable {b g : Nat} {bs : List Nat}
theorem r_Row_size (ok : Ok S h) (ha : sK S a = 6) (kk : Q (some (vI (((rl h a).length : Nat) : Int))) h) : Cl G d 13 [vR (some a)] h Q := c_Row_size ok.ro (ok.kd ha) kk
theorem r_Row_at {i : Int} (ok : Ok S h) (ha : sK S a = 6) (kk : Q (some (vI (atv (rl h a) i))) h) : Cl G d 23 [vR (some a), vI i] h Q := c_Row_at ok.ro (ok.kd ha) kk
theorem r_Row_clear (ok : Ok S h) (ha : sK S a = 6) (kk : ∀ h', Mo S (fun x => x = a) h h' → rl h' a = [] → cap h' a = cap h a → Q none h') : Cl G d 18 [vR (some a)] h Q := c_Row_clear ok.ro (ok.kd ha) (r_of ok ha kk)
theorem r_Row_add {c : Int} (ok : Ok S h) (ha : sK S a = 6) (kk : ∀ h', Mo S (fun x => x = a) h h' → rl h' a = addBs (cap h a) (rl h a) [(c % 256).toNat] → cap h' a = cap h a → Q none h') : Cl G d 15 [vR (some a), vI c] h Q := c_Row_add ok.ro (ok.kd ha) (r_of ok ha kk)
theorem r_Row_addText (h1 : 4 ≤ d) (ok : Ok S h) (ha : sK S a = 6) (hS : St h g bs) (kk : ∀ h', Mo S (fun x => x = a) h h' → rl h' a = addBs (cap h a) (rl h a) bs → cap h' a = cap h a → Q none h') : Cl G d 84 [vR (some a), vR (some g)] h Q := c_Row_addText h1 ok.ro (ok.kd ha) hS (r_of ok ha kk)
theorem r_Row_lineEnd {f : Int} (h1 : 1 ≤ d) (ok : Ok S h) (ha : sK S a = 6) (hf : InR f) (kk : Q (some (vI (lineE (rl h a) f.toNat : Nat))) h) : Cl G d 117 [vR (some a), vI f] h Q := c_Row_lineEnd h1 ok.ro (ok.kd ha) hf kk
theorem r_Row_lineEndN {f : Nat} (h1 : 1 ≤ d) (ok : Ok S h) (ha : sK S a = 6) (hf : f ≤ 2000000000) (kk : Q (some (vI (lineE (rl h a) f : Nat))) h) : Cl G d 117 [vR (some a), vI (f : Nat)] h Q := c_Row_lineEnd h1 ok.ro (ok.kd ha) (by constructor <;> omega) kk
theorem r_Row_order {f e f2 e2 : Nat} (h1 : 1 ≤ d) (ok : Ok S h) (ha : sK S a = 6) (hb : sK S b = 6) (hf : f ≤ e ∧ e ≤ (rl h a).length) (hg : f2 ≤ e2 ∧ e2 ≤ (rl h b).length) (kk : Q (some (vI (cmpL (sl (rl h a) f e) (sl (rl h b) f2 e2)))) h) : Cl G d 118 [vR (some a), vI (f : Nat), vI (e : Nat), vR (some b), vI (f2 : Nat), vI (e2 : Nat)] h Q := c_Row_order h1 ok.ro (ok.kd ha) (ok.kd hb) hf hg kk
theorem r_Row_sameAs (h1 : 2 ≤ d) (ok : Ok S h) (ha : sK S a = 6) (hb : sK S b = 6) (kk : Q (some (vI (if rl h a = rl h b then 1 else 0))) h) : Cl G d 141 [vR (some a), vR (some b)] h Q := c_Row_sameAs h1 ok.ro (ok.kd ha) (ok.kd hb) kk
theorem r_Row_addLine {f e : Nat} (h1 : 1 ≤ d) (ok : Ok S h) (ha : sK S a = 6) (hb : sK S b = 6) (hab : b ≠ a) (hf : f ≤ e ∧ e ≤ (rl h b).length) (kk : ∀ h', Mo S (fun x => x = a) h h' → rl h' a = addBs (cap h a) (rl h a) (sl (rl h b) f e ++ [10]) → cap h' a = cap h a → Q none h') : Cl G d 119 [vR (some a), vR (some b), vI (f : Nat), vI (e : Nat)] h Q := c_Row_addLine h1 ok.ro (ok.kd ha) (ok.kd hb) hab hf (r_of ok ha kk)
theorem r_Row_addTold (h1 : 1 ≤ d) (ok : Ok S h) (ha : sK S a = 6) (hb : sK S b = 6) (hab : b ≠ a) (kk : ∀ h', Mo S (fun x => x = a) h h' → rl h' a = addBs (cap h a) (rl h a) ((rl h b).map told) → cap h' a = cap h a → Q none h') : Cl G d 170 [vR (some a), vR (some b)] h Q := c_Row_addTold h1 ok.ro (ok.kd ha) (ok.kd hb) hab (r_of ok ha kk)
theorem r_Row_hasLinesOf (h1 : 3 ≤ d) (ok : Ok S h) (ha : sK S a = 6) (hb : sK S b = 6) (kk : Q (some (vI (if ∀ t ∈ lns (rl h b), t ∈ lns (rl h a) then 1 else 0))) h) : Cl G d 139 [vR (some a), vR (some b)] h Q := c_Row_hasLinesOf h1 ok.ro (ok.kd ha) (ok.kd hb) kk
theorem r_Row_digest (ok : Ok S h) (ha : sK S a = 6) (kk : Q (some (vJ (dig (rl h a)))) h) : Cl G d 107 [vR (some a)] h Q := c_Row_digest ok.ro (ok.kd ha) kk
theorem r_Row_addRow (h1 : 1 ≤ d) (ok : Ok S h) (ha : sK S a = 6) (hb : sK S b = 6) (hab : b ≠ a) (kk : ∀ h', Mo S (fun x => x = a) h h' → rl h' a = addBs (cap h a) (rl h a) (rl h b) → cap h' a = cap h a → Q none h') : Cl G d 109 [vR (some a), vR (some b)] h Q := c_Row_addRow h1 ok.ro (ok.kd ha) (ok.kd hb) hab (r_of ok ha kk)
/-- a row takes a part of another one -/
theorem r_Row_set {f e : Nat} (h1 : 1 ≤ d) (ok : Ok S h) (ha : sK S a = 6) (hb : sK S b = 6) (hab : b ≠ a) (hfe : f ≤ 1000000000 ∧ e ≤ (rl h b).length) (hg : e - f ≤ sC S a ∨ e - f ≤ 608)
    (kk : ∀ h', Mo S (fun x => x = a) h h' → rl h' a = sl (rl h b) f e → Q none h') : Cl G d 17 [vR (some a), vR (some b), vI (f : Nat), vI (e : Nat)] h Q := by
  have hc := ok.cm ha
  have hl := rl_len (ok.ro.1 b (ok.kd hb))
  have hw := (ok.ro.1 b (ok.kd hb)).2.2.2
  have hx := ok.ro.2.2.2.2 (rw0 h b)
  have hy : LN h (rw0 h b) = cap h b := rfl
  have e1 : (min ((e : Nat) : Int) ((rl h b).length : Int)).toNat = e := by omega
  refine c_Row_set ok.ro h1 (ok.kd ha) (ok.kd hb) hab ⟨by constructor <;> omega, by constructor <;> omega, by omega, by omega⟩ (by rw [e1]; omega) (fun h' r l _ => kk h' (Mo.row ok r) ?_)
  rw [l, e1]
  rfl
theorem r_Row_setTold {f e : Nat} (h1 : 2 ≤ d) (ok : Ok S h) (ha : sK S a = 6) (hb : sK S b = 6) (hab : b ≠ a) (hfe : f ≤ 1000000000 ∧ e ≤ (rl h b).length) (hg : e - f ≤ sC S a ∨ e - f ≤ 608)
    (kk : ∀ h', Mo S (fun x => x = a) h h' → rl h' a = (sl (rl h b) f e).map untold → Q none h') : Cl G d 90 [vR (some a), vR (some b), vI (f : Nat), vI (e : Nat)] h Q := by
  have hc := ok.cm ha
  have hl := rl_len (ok.ro.1 b (ok.kd hb))
  have hw := (ok.ro.1 b (ok.kd hb)).2.2.2
  have hx := ok.ro.2.2.2.2 (rw0 h b)
  have hy : LN h (rw0 h b) = cap h b := rfl
  have e1 : (min ((e : Nat) : Int) ((rl h b).length : Int)).toNat = e := by omega
  refine c_Row_setTold ok.ro h1 (ok.kd ha) (ok.kd hb) hab ⟨by constructor <;> omega, by constructor <;> omega, by omega, by omega⟩ (by rw [e1]; omega) (fun h' r l _ => kk h' (Mo.row ok r) ?_)
  rw [l, e1]
  rfl
theorem r_Row_numberEnd {f : Nat} (h1 : 1 ≤ d) (ok : Ok S h) (ha : sK S a = 6) (hf : f ≤ 100000000) (kk : Q (some (vI (numE (rl h a) f : Nat))) h) : Cl G d 36 [vR (some a), vI (f : Nat)] h Q := c_Row_numberEnd h1 ok.ro (ok.kd ha) hf kk
theorem r_Row_numberIn {f e : Nat} (h1 : 1 ≤ d) (ok : Ok S h) (ha : sK S a = 6) (hfe : f ≤ e ∧ e ≤ (rl h a).length ∧ e - f ≤ 7) (hdg : ∀ i, f ≤ i → i < e → isDig ((rl h a).getD i 0) = true) (kk : Q (some (vI (numV (sl (rl h a) f e) : Nat))) h) : Cl G d 37 [vR (some a), vI (f : Nat), vI (e : Nat)] h Q := c_Row_numberIn h1 ok.ro (ok.kd ha) hfe hdg kk
theorem r_Row_wordEnd {f most lo : Nat} (h1 : 1 ≤ d) (ok : Ok S h) (ha : sK S a = 6) (hf : f ≤ 100000000 ∧ most ≤ 1000 ∧ 1 ≤ lo ∧ lo ≤ 57) (kk : Q (some (vI (wordE (rl h a) f most lo : Nat))) h) : Cl G d 31 [vR (some a), vI (f : Nat), vI (most : Nat), vI (lo : Nat)] h Q := c_Row_wordEnd h1 ok.ro (ok.kd ha) hf kk
theorem r_Row_nameIn {f e : Nat} (ok : Ok S h) (ha : sK S a = 6) (hf : f ≤ 100000000 ∧ e ≤ (rl h a).length) (kk : Q (some (vJ (nameV (rl h a) f e))) h) : Cl G d 32 [vR (some a), vI (f : Nat), vI (e : Nat)] h Q := c_Row_nameIn ok.ro (ok.kd ha) hf kk
theorem r_Row_addNumber {n : Nat} (h1 : 1 ≤ d) (ok : Ok S h) (ha : sK S a = 6) (hn : n ≤ 2147483647) (kk : ∀ h', Mo S (fun x => x = a) h h' → rl h' a = addBs (cap h a) (rl h a) (dec n) → cap h' a = cap h a → Q none h') : Cl G d 124 [vR (some a), vI (n : Nat)] h Q := c_Row_addNumber h1 ok.ro (ok.kd ha) hn (r_of ok ha kk)
theorem r_Row_addInt {n : Int} (h1 : 1 ≤ d) (ok : Ok S h) (ha : sK S a = 6) (kk : ∀ h', Mo S (fun x => x = a) h h' → rl h' a = addBs (cap h a) (rl h a) (by4 n) → cap h' a = cap h a → Q none h') : Cl G d 14 [vR (some a), vI n] h Q := c_Row_addInt h1 ok.ro (ok.kd ha) (r_of ok ha kk)
theorem r_Row_addName {x : Int64} (h1 : 1 ≤ d) (ok : Ok S h) (ha : sK S a = 6) (kk : ∀ h', Mo S (fun x => x = a) h h' → rl h' a = addBs (cap h a) (rl h a) (nmB x 8) → cap h' a = cap h a → Q none h') : Cl G d 104 [vR (some a), vJ x] h Q := c_Row_addName h1 ok.ro (ok.kd ha) (r_of ok ha kk)
theorem r_Row_addHex {x : Int64} (h1 : 1 ≤ d) (ok : Ok S h) (ha : sK S a = 6) (kk : ∀ h', Mo S (fun x => x = a) h h' → rl h' a = addBs (cap h a) (rl h a) (hxB x 16) → cap h' a = cap h a → Q none h') : Cl G d 125 [vR (some a), vJ x] h Q := c_Row_addHex h1 ok.ro (ok.kd ha) (r_of ok ha kk)
end ROWS
/-- texts stay -/
theorem Mo.St {A : Nat → Prop} {h' : Hp} {g : Nat} {bs : List Nat} (m : Mo S A h h') (hA : ∀ x, A x → KD h x ≠ 30 ∧ KD h x ≠ 81) (x : St h g bs) : St h' g bs := St.md m.1 hA x
end RULES4
