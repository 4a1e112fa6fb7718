/-! the start as a heap of the small machine -/
def kdS (b sw vl : Nat) (aK aV aB : Nat → Nat) (a : Nat) : Nat :=
  if a = b ∨ a = sw then 80 else if a = vl then 82 else if ((List.range 89).any fun i => a == aK i) = true then 30 else if ((List.range 89).any fun i => a == aV i) = true then 81 else if ((List.range 35).any fun i => a == aB i) = true then 31 else 0
theorem any_of {n : Nat} {f : Nat → Nat} {a : Nat} (h : ((List.range n).any fun i => a == f i) = true) : ∃ i, i < n ∧ a = f i := by
  obtain ⟨i, hi, he⟩ := List.any_eq_true.mp h
  exact ⟨i, List.mem_range.mp hi, beq_iff_eq.mp he⟩
theorem any_in {n : Nat} {f : Nat → Nat} {i : Nat} (h : i < n) : ((List.range n).any fun j => f i == f j) = true := List.any_eq_true.mpr ⟨i, List.mem_range.mpr h, beq_iff_eq.mpr rfl⟩
def lnS (s : State) (kd : Nat → Nat) (a : Nat) : Nat := if kd a < 80 then 0 else match s.heap[a]? with
  | some c => c.slots.size.toInt32.toInt.toNat
  | none => 0
def hS (s : State) (kd : Nat → Nat) : Hp :=
  (fun f a => if f = 2049 then vInt (s.fieldOf? a "java/lang/String" "coder" "B") else if f = 2178 then vInt (s.fieldOf? a "BuildHouse$Verb" "kind" "I") else if f = 2179 then vInt (s.fieldOf? a "java/lang/Enum" "ordinal" "I") else 0, fun _ _ => 0,
   fun f a => if f = 2048 then vRef (s.fieldOf? a "java/lang/String" "value" "[B") else if f = 2176 then vRef (s.fieldOf? a "BuildHouse$Verb" "word" "Ljava/lang/String;") else if f = 2177 then vRef (s.fieldOf? a "BuildHouse$Verb" "form" "Ljava/lang/String;") else none,
   fun b j => vInt (hIn s b j), fun _ _ => 0, fun b j => vRef (hIn s b j), kd, lnS s kd, s.heap.size, 0)
def gS (sw vl : Nat) (aK aB : Nat → Nat) (fm : Option Nat) (g : Nat) : Option Nat := if g < 35 then some (aB g) else if g = 40 then some sw else if g = 41 then some vl else if g = 42 then fm else if 50 ≤ g ∧ g < 139 then some (aK (g - 50)) else none
/-- the small machine's start: texts, verbs, the switch's map, the values, the script -/
def Ws (G : Nat → Option Nat) (h : Hp) (b L : Nat) (xs : Nat → Int) : Prop :=
  (∀ i, i < 89 → ∃ a v, G (50 + i) = some a ∧ KD h a = 30 ∧ FI h 2049 a = 0 ∧ FR h 2048 a = some v ∧ KD h v = 81 ∧ LN h v = (txt i).length ∧ ∀ j, j < (txt i).length → AI h v j = ((txt i).getD j 0 : Nat)) ∧
  (∀ t, t < 35 → ∃ a, G t = some a ∧ KD h a = 31 ∧ FI h 2179 a = (t : Nat) ∧ FI h 2178 a = (vbK.getD t 0 : Nat) ∧ FR h 2176 a = G (50 + vbW.getD t 0) ∧ FR h 2177 a = G (50 + vbF.getD t 0)) ∧
  (∃ w, G 40 = some w ∧ KD h w = 80 ∧ LN h w = 35 ∧ ∀ j, j < 35 → AI h w j = (swB.getD j 0 : Nat)) ∧
  (∃ v, G 41 = some v ∧ KD h v = 82 ∧ LN h v = 35 ∧ ∀ j, j < 35 → AR h v j = G j) ∧
  (KD h b = 80 ∧ LN h b = L ∧ ∀ j, j < L → AI h b j = xs j) ∧ (∀ j, InR (xs j)) ∧
  (∀ a, KD h a = 0 ∨ KD h a = 30 ∨ KD h a = 31 ∨ KD h a = 80 ∨ KD h a = 81 ∨ KD h a = 82) ∧ (∀ a, KD h a ≠ 0 → a < NX h) ∧ SL h = 0
section WORLD
variable {s : State} {args : Array Value}
theorem hS_T {kd : Nat → Nat} {ty : FieldType} {t N k : Nat} {g : Nat → Int32} {A : Nat → Prop} (h : va_T ty t N (fun j => .int (g j)) A s s.heap) (hN : N ≤ 60000000) (hk : kd t = k) (hk2 : k = 80 ∨ k = 81) :
    LN (hS s kd) t = N ∧ (∀ j, j < N → AI (hS s kd) t j = (g j).toInt) ∧ va_T ty t (LN (hS s kd) t) (aval (hS s kd) k t) A s s.heap := by
  obtain ⟨cell, h1, h2, h3, h4, h5, h6, h7⟩ := h
  have e1 : LN (hS s kd) t = N := by
    show lnS s kd t = N
    unfold lnS
    rw [if_neg (by omega), h1]
    show cell.slots.size.toInt32.toInt.toNat = N
    rw [h5, Int32.toInt_ofNat_of_lt (by omega)]
    rfl
  have e2 : ∀ j, j < N → AI (hS s kd) t j = (g j).toInt := fun j hj => by
    show vInt (hIn s t j) = _
    rw [hIn_of h1 (h6 j hj)]
    rfl
  refine ⟨e1, e2, cell, h1, h2, h3, by rw [e1]; exact h4, by rw [e1]; exact h5, fun j hj => ?_, h7⟩
  rw [e1] at hj
  rw [h6 j hj]
  unfold aval
  rw [if_neg (by omega), if_neg (by omega), e2 j hj, i32_of]
theorem ofNat_i {n : Nat} (h : n < 1000) : (Int32.ofNat n).toInt = (n : Int) := Int32.toInt_ofNat_of_lt (by omega)
theorem i32_nat {n : Nat} : i32 (n : Int) = Int32.ofNat n := rfl
theorem nest_on {w : Cond} (h : isNest w = true) : w.onTables = true := by
  unfold isNest at h
  split at h
  · rfl
  · rfl
  · cases h
set_option maxRecDepth 100000 in
theorem tab_c : (isW 50 (.arrayClass .byte) && isW 141 (.arrayClass .long) && isW 142 (.arrayClass .int) && isW 143 (.arrayClass .boolean) && isW 70 (.arrayOver (.object (onm 15))) && isW 225 (.arrayOver (.object (onm 5))) && isW 227 (.arrayOver (.object (onm 1))) && isW 368 (.arrayOver (.object (onm 2))) && isW 1527 (.arrayOver (.object (onm 12))) && isW 379 (.arrayOver (.array .int)) && isW 69 (.castable "[LBuildHouse$Verb;" "java/lang/Cloneable") && isW 806 (.declares ⟨"java/lang/Enum", "ordinal", "()I"⟩)) = true := by decide +kernel
/-- the tables' part -/
theorem gk_start (hts : ∀ w ∈ lw_tbl, w.before args s = true) (hs : startC.before args s = true) {G : Nat → Option Nat} {aK : Nat → Nat} (hK : ∀ i, i < 89 → (tX i).eval args s none [] s = some (.ref (aK i))) (hG : ∀ i, i < 89 → G (50 + i) = some (aK i)) :
    ∃ D : Dk, D.2.2.2 = s.heap.size ∧ GK D G s := by
  have htb : ∀ {w : Cond} {i : Nat}, isW i w = true → w.before args s = true := fun h => hts _ (List.mem_append_right _ (isW_in h))
  have htc := tab_c
  simp only [Bool.and_eq_true] at htc
  obtain ⟨⟨⟨⟨⟨⟨⟨⟨⟨⟨⟨t1, t2⟩, t3⟩, t4⟩, t5⟩, t6⟩, t7⟩, t8⟩, t9⟩, t10⟩, t11⟩, t12⟩ := htc
  have hcl : ∀ c : Nat, ∃ q : ClassId × (Nat → Nat), c < 14 → u_Kn s (onm c) (mT c) (mN c) q.1 q.2 := by
    intro c
    by_cases hc : c < 14
    · have hi := all_range ins_c hc
      rw [Bool.and_eq_true] at hi
      obtain ⟨cC, iS, hk⟩ := u_known (ws := mw) (s := s) (args := args) (C := onm c) (T := mT c) (N := mN c) (n := mN c) (fun w hw => hts w (mw_in w hw).1) (lay_in hc) (htb hi.1)
      exact ⟨(cC, iS), fun _ => hk⟩
    · exact ⟨(0, fun _ => 0), fun q => absurd q hc⟩
  obtain ⟨fc, hfc⟩ := Classical.axiomOfChoice hcl
  have prim : ∀ ty : FieldType, (∀ C, ty ≠ .object C) → (Cond.arrayClass ty).before args s = true → ∃ cA, ArrOfT s cA ty ∧ va_RA s cA ty := by
    intro ty hty hw
    obtain ⟨c, k, comp, f1, f2, f3⟩ := Cond.arrayClass_spec (args := args) (first := s) (o := none) (idx := []) hw
    refine ⟨c, fun N z => ⟨(fun k h => by cases h), k, f2, comp, f3⟩, ?_⟩
    cases ty <;> first | exact absurd rfl (hty _) | exact f1
  have objs : ∀ C : String, (Cond.arrayOver (.object C)).before args s = true → ∃ cA, ArrOfT s cA (.object C) ∧ va_RA s cA (.object C) := by
    intro C hw
    obtain ⟨comp, c, k, f1, f2, f3, f4, f5⟩ := Cond.arrayOver_spec (args := args) (first := s) (o := none) (idx := []) hw
    exact ⟨c, fun N z => ⟨(fun k h => by cases h), k, f3, comp, f4⟩, k, comp, f3, f4, f1, f5⟩
  have arrs : ∀ kd : Nat, ∃ cA : ClassId, kd ∈ aUs → ArrOfT s cA (kty kd) ∧ va_RA s cA (kty kd) := by
    intro kd
    by_cases hk : kd ∈ aUs
    · have : ∃ cA : ClassId, ArrOfT s cA (kty kd) ∧ va_RA s cA (kty kd) := by
        simp only [aUs, List.mem_cons, List.not_mem_nil, or_false] at hk
        rcases hk with rfl | rfl | rfl | rfl | rfl | rfl | rfl | rfl | rfl | rfl
        · exact prim _ (fun C q => by cases q) (htb t3)
        · exact prim _ (fun C q => by cases q) (htb t1)
        · exact prim _ (fun C q => by cases q) (htb t4)
        · exact prim _ (fun C q => by cases q) (htb t2)
        · exact objs _ (htb t5)
        · obtain ⟨comp, c, k, f1, f2, f3, f4⟩ := Cond.arrayOver_specA (args := args) (first := s) (o := none) (idx := []) (htb t10)
          exact ⟨c, fun N z => ⟨(fun k h => by cases h), k, f2, comp, f3⟩, f4⟩
        · exact objs _ (htb t7)
        · exact objs _ (htb t8)
        · exact objs _ (htb t6)
        · exact objs _ (htb t9)
      obtain ⟨cA, h⟩ := this
      exact ⟨cA, fun _ => h⟩
    · exact ⟨0, fun q => absurd q hk⟩
  obtain ⟨fa, hfa⟩ := Classical.axiomOfChoice arrs
  refine ⟨(fun c => (fc c).1, fun c => (fc c).2, fa, s.heap.size), rfl, ⟨fun c q hq => ?_, fun k q hk => ?_⟩, fun w hw => ?_, fun o ho => ?_, htb t10, va_Nw.of rfl (htb t11), va_Nw.of rfl (htb t12), fun o idx g pos hm => ?_⟩
  · have hc : c < 14 := by
      have := (List.getElem?_eq_some_iff.mp hq).1
      simpa [mcl] using this
    rw [mcl_get hc] at hq
    cases hq
    exact hfc c hc
  · unfold tysL at hk
    rw [List.getElem?_map] at hk
    obtain ⟨kd, hkd, rfl⟩ := Option.map_eq_some_iff.mp hk
    exact hfa kd (List.mem_of_getElem? hkd)
  · have hm := List.mem_filter.mp hw
    exact va_Nw.of (nest_on hm.2) (hts w (List.mem_append_right _ hm.1))
  · simp only [List.mem_cons, List.not_mem_nil, or_false] at ho
    rcases ho with rfl | rfl | rfl | rfl
    · exact va_AO.of (htb t7)
    · exact va_AO.of (htb t8)
    · exact va_AO.of (htb t6)
    · exact va_AO.of (htb t9)
  · have ho : o < 22 := by
      rcases Nat.lt_or_ge o 22 with q | q
      · exact q
      · rw [List.getD_eq_getElem?_getD, List.getElem?_eq_none (by exact q)] at hm
        cases hm
    have hb := fun a => men_ok (a := a) hs ho hm
    have hg : 50 ≤ g ∧ g < 139 := by
      obtain ⟨i, hi⟩ := List.getElem?_of_mem hm
      have h0 := all_range (all_range eqs_c ho) (List.getElem?_eq_some_iff.mp hi).1
      rw [hi] at h0
      unfold eqOk at h0
      simp only [Bool.and_eq_true, decide_eq_true_eq] at h0
      exact ⟨h0.1.1.1, h0.1.1.2⟩
    obtain ⟨-, -, h3, h4⟩ := hb (aK (g - 50)) (hK (g - 50) (by omega))
    refine ⟨_, aK (g - 50), ?_, vk_R.of (htb h3) h4⟩
    rw [← hG (g - 50) (by omega), show 50 + (g - 50) = g by omega]
end WORLD
