theorem lineE_lt {l : List Nat} {i j : Nat} (h : i ≤ j) (hj : j < l.length) (e : l.getD j 0 = 10) : lineE l i ≤ j := by
  by_cases q : l.getD i 0 = 10
  · rw [lineE_stop (Or.inr q)]; exact h
  · have : i < j := by
      rcases Nat.lt_or_ge i j with z | z
      · exact z
      · rw [show i = j by omega] at q; exact absurd e q
    rw [lineE_go (by omega) q]
    exact lineE_lt (by omega) hj e
termination_by j - i
/-! the reference: what an action gives, in the words of the class -/
theorem jnW_f {ins : List (List Nat)} : ∀ {n : Nat}, n ≤ ins.length → jnW false ins n = (ins.take n).flatten
  | 0, _ => rfl
  | n + 1, h => by
    rw [jnW, jnW_f (by omega), flt_succ (by omega)]
    unfold sepB
    rw [if_neg (by simp), List.append_nil]
theorem gp_eq {w : List Nat} (ow : okN w) : ∀ {ls : List (List Nat)}, (∀ y ∈ ls, ∀ j, y.getD j 0 < 256) → gpL w ls = gpT (hd w) (nmB (hd w) 8).length ls
  | [], _ => rfl
  | y :: ls, h => by
    have hb := h y List.mem_cons_self
    have e : wdL w y = stB (hd w) (nmB (hd w) 8).length y := by
      rw [nm_hd ow]
      unfold wdL stB
      have hw : ∀ j, w.getD j 0 < 256 := fun j => Nat.lt_trans (ow.at j).1 (by decide)
      rw [srF_congr (p := fun i => sl y i (i + w.length) == w) (p' := fun i => nameV y i (i + w.length) == hd w) (fun i hi => ?_)]
      have nl := sl_len (l := y) (f := i) (e := i + w.length) ⟨by omega, by omega⟩
      rw [Bool.eq_iff_iff, beq_iff_eq, beq_iff_eq]
      have ni := nameV_inj (l := y) (k := w) (a := i) (b := 0) ow.1 hb hw
      rw [Nat.zero_add] at ni
      unfold hd
      rw [ni]
      constructor
      · intro z j hj
        rw [Nat.zero_add, ← z, sl_gd (by omega)]
      · intro z
        refine list_ext (by omega) (fun j hj => ?_)
        rw [sl_gd (by omega)]
        have := z j (by omega)
        rwa [Nat.zero_add] at this
    rw [gpL, gpT, e, gp_eq ow (fun z hz => h z (List.mem_cons_of_mem _ hz))]
theorem lns_nil : lns [] = [] := rfl
theorem lns_cat {B : List Nat} : ∀ (n : Nat) {A : List Nat}, A.length = n → (A = [] ∨ A.getD (A.length - 1) 0 = 10) → lns (A ++ B) = lns A ++ lns B := by
  intro n
  induction n using Nat.strongRecOn with | ind n IH => ?_
  intro A hn h
  by_cases a : A = []
  · rw [a, List.nil_append, lns_nil, List.nil_append]
  · have a0 : 0 < A.length := List.length_pos_iff.mpr a
    have h := h.resolve_left a
    have c1 := lns_at (l := A ++ B) (i := 0) (by rw [List.length_append]; omega)
    have c2 := lns_at (l := A) (i := 0) a0
    rw [List.drop_zero] at c1 c2
    have ge := lineE_ge A 0
    have lt : lineE A 0 < A.length := by
      rcases Nat.lt_or_ge (lineE A 0) A.length with z | z
      · exact z
      · exfalso
        have al : ∀ j, j < A.length → A.getD j 0 ≠ 10 := fun j hj e => by
          have := lineE_lt (l := A) (i := 0) (j := j) (Nat.zero_le _) hj e
          omega
        exact al (A.length - 1) (by omega) h
    have e : lineE (A ++ B) 0 = lineE A 0 := by
      have t := lineE_take (l := A ++ B) (e := A.length) (by rw [List.length_append]; omega) _ 0 rfl (Nat.zero_le _)
      rw [List.take_left] at t
      omega
    have s : sl (A ++ B) 0 (lineE A 0) = sl A 0 (lineE A 0) := by
      have t := sl_take (l := A ++ B) (f := 0) (k := lineE A 0) (e := A.length) (by omega)
      rw [List.take_left] at t
      exact t.symm
    rw [c1, c2, e, s, List.cons_append, List.drop_append_of_le_length (by omega)]
    congr 1
    refine IH (A.drop (lineE A 0 + 1)).length (by rw [List.length_drop]; omega) rfl ?_
    by_cases z : lineE A 0 + 1 = A.length
    · exact Or.inl (List.drop_eq_nil_of_le (by omega))
    · refine Or.inr ?_
      rw [List.length_drop, List.getD_eq_getElem?_getD, List.getElem?_drop, show lineE A 0 + 1 + (A.length - (lineE A 0 + 1) - 1) = A.length - 1 by omega, ← List.getD_eq_getElem?_getD]
      exact h
/-- an input, ended -/
theorem sep_end {x : List Nat} : x ++ sepB true x = [] ∨ (x ++ sepB true x).getD ((x ++ sepB true x).length - 1) 0 = 10 := by
  unfold sepB
  by_cases x0 : x = []
  · subst x0; exact Or.inl rfl
  · have l0 : 0 < x.length := List.length_pos_iff.mpr x0
    refine Or.inr ?_
    have av : atv x ((x.length : Int) - 1) = ((x.getD (x.length - 1) 0 : Nat) : Int) := by
      rw [show (x.length : Int) - 1 = ((x.length - 1 : Nat) : Int) by omega, atvI, if_pos (by omega)]
    by_cases c : atv x ((x.length : Int) - 1) = 10
    · rw [if_neg (fun z => z.2.2 c), List.append_nil]
      omega
    · rw [if_pos ⟨rfl, l0, c⟩, List.length_append, List.length_singleton, Nat.add_sub_cancel, List.getD_eq_getElem?_getD, List.getElem?_append_right (Nat.le_refl _), Nat.sub_self]
      rfl
theorem lns_sep {x : List Nat} : lns (x ++ sepB true x) = lns x := by
  unfold sepB
  by_cases c : true = true ∧ 0 < x.length ∧ atv x ((x.length : Int) - 1) ≠ 10
  · rw [if_pos c]
    -- the last line is ended
    have key : ∀ (n f : Nat), x.length - f = n → f < x.length → lns ((x ++ [10]).drop f) = lns (x.drop f) := by
      intro n
      induction n using Nat.strongRecOn with | ind n IH => ?_
      intro f hn hf
      rw [lns_at hf, lns_at (l := x ++ [10]) (by simp; omega)]
      have t := lineE_take (l := x ++ [10]) (e := x.length) (by simp) _ f rfl (by omega)
      rw [List.take_left] at t
      have s := sl_take (l := x ++ [10]) (f := f) (k := lineE x f) (e := x.length) (lineE_le (by omega))
      rw [List.take_left] at s
      have ge := lineE_ge x f
      have le := lineE_le (l := x) (i := f) (by omega)
      rcases Nat.lt_or_ge (lineE x f) x.length with z | z
      · have e : lineE (x ++ [10]) f = lineE x f := by omega
        have nl : lineE x f + 1 < x.length := by
          rcases Nat.lt_or_ge (lineE x f + 1) x.length with u | u
          · exact u
          · exfalso
            have l10 := lineE_stops z
            apply c.2.2
            rw [show (x.length : Int) - 1 = ((x.length - 1 : Nat) : Int) by omega, atvI, if_pos (by omega), show x.length - 1 = lineE x f by omega, l10]
            rfl
        rw [e, ← s, IH (x.length - (lineE x f + 1)) (by omega) (lineE x f + 1) rfl nl]
      · have ex : lineE x f = x.length := by omega
        have e : lineE (x ++ [10]) f = x.length := by
          have g : ∀ i, f ≤ i → i ≤ x.length → lineE (x ++ [10]) f ≥ x.length := fun _ _ _ => by omega
          have l10 : (x ++ [10]).getD x.length 0 = 10 := by
            rw [List.getD_eq_getElem?_getD, List.getElem?_append_right (Nat.le_refl _), Nat.sub_self]; rfl
          have := lineE_lt (l := x ++ [10]) (i := f) (j := x.length) (by omega) (by simp) l10
          omega
        rw [e, ex, ← ex, ← s, ex, List.drop_eq_nil_of_le (by simp), List.drop_eq_nil_of_le (by omega)]
    have := key _ 0 rfl c.2.1
    rwa [List.drop_zero, List.drop_zero] at this
  · rw [if_neg c, List.append_nil]
theorem jnW_t {ins : List (List Nat)} : ∀ {n : Nat}, n ≤ ins.length → lns (jnW true ins n) = ((ins.take n).map lns).flatten ∧ (jnW true ins n = [] ∨ (jnW true ins n).getD ((jnW true ins n).length - 1) 0 = 10)
  | 0, _ => ⟨rfl, Or.inl rfl⟩
  | n + 1, h => by
    obtain ⟨h1, h2⟩ := jnW_t (ins := ins) (n := n) (by omega)
    rw [jnW]
    refine ⟨?_, ?_⟩
    · rw [lns_cat _ rfl h2, lns_sep, h1, List.take_succ, List.getElem?_eq_getElem (by omega), List.map_append, List.flatten_append, List.getD_eq_getElem?_getD, List.getElem?_eq_getElem (by omega)]
      simp
    · rcases sep_end (x := ins.getD n []) with z | z
      · rw [z, List.append_nil]; exact h2
      · by_cases e : ins.getD n [] ++ sepB true (ins.getD n []) = []
        · rw [e, List.append_nil]; exact h2
        · have l0 := List.length_pos_iff.mpr e
          refine Or.inr ?_
          rw [List.length_append, List.getD_eq_getElem?_getD, List.getElem?_append_right (by omega), show (jnW true ins n).length + (ins.getD n [] ++ sepB true (ins.getD n [])).length - 1 - (jnW true ins n).length = (ins.getD n [] ++ sepB true (ins.getD n [])).length - 1 by omega, ← List.getD_eq_getElem?_getD]
          exact z
theorem wt_ended {x : List Nat} (h : x = [] ∨ x.getD (x.length - 1) 0 = 10) : ∀ (n f : Nat), x.length - f = n → f ≤ x.length → wtL (lns (x.drop f)) = x.length - f := by
  intro n
  induction n using Nat.strongRecOn with | ind n IH => ?_
  intro f hn hf
  rcases Nat.lt_or_ge f x.length with q | q
  · rw [lns_at q]
    have g := lineE_ge x f
    have l := lineE_le (l := x) (i := f) hf
    have sn := sl_len (l := x) (f := f) (e := lineE x f) ⟨g, l⟩
    have h := h.resolve_left (fun z => by rw [z] at q; exact absurd q (Nat.not_lt_zero _))
    have lt : lineE x f < x.length := by
      have := lineE_lt (l := x) (i := f) (j := x.length - 1) (by omega) (by omega) h
      omega
    show (sl x f (lineE x f)).length + 1 + wtL (lns (x.drop (lineE x f + 1))) = _
    rw [IH (x.length - (lineE x f + 1)) (by omega) (lineE x f + 1) rfl (by omega)]
    omega
  · rw [lns_end q]
    have : wtL [] = 0 := rfl
    omega
theorem wtL_app (a b : List (List Nat)) : wtL (a ++ b) = wtL a + wtL b := by unfold wtL; rw [List.map_append, List.sum_append]
theorem wtL_ins (ls : List (List Nat)) (x : List Nat) : wtL (insW ls x) = wtL ls + (x.length + 1) := by
  unfold insW
  generalize sPos (fun k => cmpL (ls.getD k []) x) ls.length = p
  have e : wtL ls = wtL (ls.take p) + wtL (ls.drop p) := by rw [← wtL_app, List.take_append_drop]
  rw [wtL_app, e]
  show _ + (x.length + 1 + wtL (ls.drop p)) = _
  omega
theorem wtL_fold : ∀ (ls s : List (List Nat)), wtL (ls.foldl insW s) = wtL s + wtL ls
  | [], s => by show _ = _ + 0; rfl
  | x :: ls, s => by
    rw [List.foldl_cons, wtL_fold ls, wtL_ins]
    show _ = _ + (x.length + 1 + wtL ls)
    omega
theorem enT_len {ls : List (List Nat)} : ∀ {i : Nat}, i ≤ ls.length → (enT ls i).length = wtL (ls.take i)
  | 0, _ => rfl
  | i + 1, h => by
    rw [enT, List.length_append, List.length_append, enT_len (by omega), wtL_succ (by omega)]
    rfl
/-- what a rule gives is cut, or is what the class says -/
theorem ruM_ok {t : TgV} {ins : List (List Nat)} {r : Nat} {ls : List (List Nat)} (hr : rix (tgR t) = (r : Int)) (r7 : r < 7) (ow : okN (tgW t)) (hb : ∀ y ∈ ls, ∀ j, y.getD j 0 < 256) (hl : ls = if r = 1 then (ins.map lns).flatten else lns ins.flatten) : (600 < (ruM r (tgW t) ls ins.flatten).length ↔ 600 < (rulT t ins).length) ∧ ((rulT t ins).length ≤ 600 → ruM r (tgW t) ls ins.flatten = rulT t ins) := by
  have jf : jnW false ins ins.length = ins.flatten := by rw [jnW_f (Nat.le_refl _), List.take_length]
  unfold ruM rulT jnT
  rw [hr]
  by_cases r1 : r = 1
  · subst r1
    rw [if_pos rfl] at hl
    obtain ⟨t1, t2⟩ := jnW_t (ins := ins) (Nat.le_refl _)
    rw [List.take_length] at t1
    simp only [if_neg (show ¬ (1 : Nat) = 3 by decide), if_neg (show ¬ (1 : Nat) = 0 by decide), if_true]
    rw [show decide (((1 : Nat) : Int) = 1) = true from rfl]
    have wl : wtL (lns (jnW true ins ins.length)) = (jnW true ins ins.length).length := by
      have := wt_ended t2 _ 0 rfl (Nat.zero_le _)
      rwa [List.drop_zero, Nat.sub_zero] at this
    have en : (enT (ls.foldl insW []) (ls.foldl insW []).length).length = (jnW true ins ins.length).length := by
      rw [enT_len (Nat.le_refl _), List.take_length, wtL_fold, hl, ← t1, wl]
      show 0 + _ = _
      omega
    unfold srtT
    rw [t1, ← hl]
    by_cases c : 600 < (jnW true ins ins.length).length
    · rw [if_pos (by rfl), if_pos c, en]
      exact ⟨Iff.rfl, fun z => by omega⟩
    · rw [if_pos (by rfl), if_neg c]
      exact ⟨Iff.rfl, fun _ => rfl⟩
  · rw [if_neg r1] at hl
    rw [show decide (((r : Nat) : Int) = 1) = false from decide_eq_false (by omega), jf, if_neg (show ¬ ((r : Nat) : Int) = 1 by omega)]
    have e : (if r = 3 then upW ins.flatten ins.flatten.length else if r = 0 then ins.flatten else if r = 1 then enT (ls.foldl insW []) (ls.foldl insW []).length else if r = 2 then uqT none ls else if r = 4 then gpL (tgW t) ls else if r = 5 then dec ls.length ++ [10] else hxB (dig ins.flatten) 16 ++ [10]) = (if ((r : Nat) : Int) = 2 then uqT none (lns ins.flatten) else if ((r : Nat) : Int) = 3 then upW ins.flatten ins.flatten.length else if ((r : Nat) : Int) = 4 then gpT (hd (tgW t)) (nmB (hd (tgW t)) 8).length (lns ins.flatten) else if ((r : Nat) : Int) = 5 then dec (lns ins.flatten).length ++ [10] else if ((r : Nat) : Int) = 6 then hxB (dig ins.flatten) 16 ++ [10] else ins.flatten) := by
      have g := gp_eq ow hb
      rw [hl] at g
      subst hl
      rcases r with _ | _ | _ | _ | _ | _ | _ | r
      · rfl
      · exact absurd rfl r1
      · rfl
      · rfl
      · exact g
      · rfl
      · rfl
      · omega
    rw [e]
    exact ⟨Iff.rfl, fun _ => rfl⟩
