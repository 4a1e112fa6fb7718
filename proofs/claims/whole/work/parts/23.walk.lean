/-! walking the small machine: one rule an instruction (written by wip/tools/gen23.py) -/
def Wp (G : Nat → Option Nat) (d k pc : Nat) (ls : List (Option MV)) (st : List MV) (h : Hp) (Q : Option MV → Hp → Prop) : Prop := ∃ (n : Nat) (r : Option MV) (h' : Hp), rn G n d k pc ls st h = some (r, h') ∧ Q r h'
/-- a call of method j on the values vs comes to an end with Q -/
def Cl (G : Nat → Option Nat) (d j : Nat) (vs : List MV) (h : Hp) (Q : Option MV → Hp → Prop) : Prop := Wp G d j 0 (lay (mxl j) vs) [] h Q
theorem grd_yes {α : Type} {b : Prop} [Decidable b] {x : Option α} (h : b) : grd b x = x := if_pos h
theorem rn_fuel {G : Nat → Option Nat} : ∀ {n d k pc : Nat} {lo : List (Option MV)} {st : List MV} {h : Hp} {z : Option MV × Hp}, rn G n d k pc lo st h = some z → ∀ m, rn G (n + m) d k pc lo st h = some z
  | 0, _, _, _, _, _, _, _, hr => by cases hr
  | n + 1, d, k, pc, lo, st, h, z, hr => by
    intro m
    rw [show n + 1 + m = (n + m) + 1 by omega]
    unfold rn at hr ⊢
    obtain ⟨⟨I, pc'⟩, hd, hr⟩ := Option.bind_eq_some_iff.mp hr
    rw [hd, Option.bind_some]
    dsimp only at hr ⊢
    split at hr
    · rename_i he
      rw [if_pos he]
      exact hr
    · rename_i he
      rw [if_neg he]
      split at hr
      · rename_i j hc
        obtain ⟨b, hr⟩ := grd_inv hr
        rw [grd_yes b]
        obtain ⟨y, e1, e2⟩ := Option.bind_eq_some_iff.mp hr
        rw [rn_fuel e1 m, Option.bind_some]
        exact rn_fuel e2 m
      · rename_i hc
        obtain ⟨y, e1, e2⟩ := Option.bind_eq_some_iff.mp hr
        rw [e1, Option.bind_some]
        exact rn_fuel e2 m
section RULES
variable {G : Nat → Option Nat} {d k pc pc' : Nat} {ls : List (Option MV)} {st : List MV} {h : Hp} {Q : Option MV → Hp → Prop}
theorem Wp.mono {Q' : Option MV → Hp → Prop} (hq : ∀ r h', Q r h' → Q' r h') (w : Wp G d k pc ls st h Q) : Wp G d k pc ls st h Q' := by
  obtain ⟨n, r, h', e, q⟩ := w
  exact ⟨n, r, h', e, hq r h' q⟩
theorem w_step {I : Instr} {z : SR} (hd : dc k pc = some (I, pc')) (hs : sx G d I pc' ls st h = some z) (he : isEnd I = false) (hc : isCall I = none) (kk : Wp G d k z.1 z.2.1 z.2.2.1 z.2.2.2 Q) : Wp G d k pc ls st h Q := by
  obtain ⟨n, r, h', e, q⟩ := kk
  refine ⟨n + 1, r, h', ?_, q⟩
  unfold rn
  rw [hd, Option.bind_some]
  dsimp only
  rw [if_neg (by rw [he]; decide), hc]
  dsimp only
  rw [hs, Option.bind_some]
  exact e
theorem w_end {I : Instr} {r : Option MV} (hd : dc k pc = some (I, pc')) (he : isEnd I = true) (hr : rend I st = some r) (hq : Q r h) : Wp G d k pc ls st h Q := by
  refine ⟨1, r, h, ?_, hq⟩
  unfold rn
  rw [hd, Option.bind_some]
  dsimp only
  rw [if_pos he, hr]
  rfl
theorem w_call {j : Nat} {vs rest : List MV} (hd : dc k pc = some (.invokevirtual j, pc')) (h1 : 1 ≤ d) (hst : st.take (argN j) = vs.reverse ∧ st.drop (argN j) = rest ∧ argN j ≤ st.length ∧ st.length ≤ argN j + 4) (hrok : rok j vs h = true) (hlay : (lay 0 vs).length ≤ mxl j)
    (kk : Cl G (d - 1) j vs h (fun r h' => Wp G d k pc' ls (r.toList ++ rest) h' Q)) : Wp G d k pc ls st h Q := by
  obtain ⟨n1, r1, h1', e1, n2, r, h', e2, q⟩ := kk
  obtain ⟨s1, s2, s3, s4⟩ := hst
  have s5 : (st.take (argN j)).reverse = vs := by rw [s1, List.reverse_reverse]
  refine ⟨n1 + n2 + 1, r, h', ?_, q⟩
  unfold rn
  rw [hd, Option.bind_some]
  dsimp only
  rw [if_neg (show ¬ (isEnd (Instr.invokevirtual j) = true) from fun q => by cases q)]
  show grd _ _ = _
  rw [s5, s2, grd_yes ⟨h1, ⟨s3, s4⟩, hrok, hlay⟩, rn_fuel e1 n2, Option.bind_some]
  have := rn_fuel e2 n1
  rw [Nat.add_comm] at this
  exact this
/-- fewer locals known -/
def lsLe : List (Option MV) → List (Option MV) → Prop
  | [], [] => True
  | a :: l, b :: m => (a = none ∨ a = b) ∧ lsLe l m
  | _, _ => False

theorem lsLe_get {l m : List (Option MV)} (hl : lsLe l m) : l.length = m.length ∧ ∀ (i : Nat) (v : MV), l[i]? = some (some v) → m[i]? = some (some v) := by
  induction l generalizing m with
  | nil => cases m with
    | nil => exact ⟨rfl, fun i v q => q⟩
    | cons b m => cases hl
  | cons a l ih => cases m with
    | nil => cases hl
    | cons b m =>
      obtain ⟨h1, h2⟩ := hl
      obtain ⟨g1, g2⟩ := ih h2
      refine ⟨by simp [g1], fun i v q => ?_⟩
      cases i with
      | zero =>
        rcases h1 with rfl | rfl
        · cases q
        · exact q
      | succ i => exact g2 i v q
/-- the same of all places -/
def lsG (l m : List (Option MV)) : Prop := l.length = m.length ∧ ∀ (i : Nat) (v : MV), l[i]? = some (some v) → m[i]? = some (some v)
theorem lcl_ne {l : List (Option MV)} {i j : Nat} (hn : ¬ (j + 1 = i ∧ ∃ x, l[j]? = some (some (vJ x)))) : (lcl l i)[j]? = l[j]? := by
  unfold lcl
  split
  · rfl
  · rename_i p
    split
    · rename_i x e
      by_cases hj : j = p
      · subst hj
        exact absurd ⟨rfl, x, e⟩ hn
      · rw [List.getElem?_set_ne (by omega)]
    · rfl
theorem lcl_eq {l : List (Option MV)} {j : Nat} {x : Int64} (e : l[j]? = some (some (vJ x))) : (lcl l (j + 1))[j]? = some none := by
  unfold lcl
  dsimp only
  rw [e]
  exact List.getElem?_set_self (List.getElem?_eq_some_iff.mp e).1
theorem lsG_set {l m : List (Option MV)} (hl : lsG l m) (i : Nat) (v : Option MV) : lsG (l.set i v) (m.set i v) := by
  refine ⟨by rw [List.length_set, List.length_set]; exact hl.1, fun j w q => ?_⟩
  by_cases hj : i = j
  · subst hj
    have hi : i < l.length := by
      have := (List.getElem?_eq_some_iff.mp q).1
      rwa [List.length_set] at this
    rw [List.getElem?_set_self hi] at q
    rw [List.getElem?_set_self (by rw [← hl.1]; exact hi)]
    exact q
  · rw [List.getElem?_set_ne hj] at q ⊢
    exact hl.2 j w q
theorem lsG_st {l m : List (Option MV)} (hl : lsG l m) (i : Nat) (v : Option MV) : lsG ((lcl l i).set i v) ((lcl m i).set i v) := by
  refine ⟨by rw [List.length_set, List.length_set, lcl_len, lcl_len]; exact hl.1, fun j w q => ?_⟩
  by_cases hj : i = j
  · subst hj
    have hi : i < l.length := by
      have := (List.getElem?_eq_some_iff.mp q).1
      rwa [List.length_set, lcl_len] at this
    rw [List.getElem?_set_self (by rw [lcl_len]; exact hi)] at q
    rw [List.getElem?_set_self (by rw [lcl_len, ← hl.1]; exact hi)]
    exact q
  · rw [List.getElem?_set_ne hj] at q ⊢
    have h1 : ¬ (j + 1 = i ∧ ∃ x, l[j]? = some (some (vJ x))) := by
      rintro ⟨rfl, x, e⟩
      rw [lcl_eq e] at q
      cases q
    rw [lcl_ne h1] at q
    have h2 := hl.2 j w q
    rw [lcl_ne]
    · exact h2
    · rintro ⟨e1, x, e2⟩
      rw [h2] at e2
      cases e2
      exact h1 ⟨e1, x, q⟩
end RULES
