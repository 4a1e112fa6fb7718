/-! a session: its steps -/
/-- what is put, its parts, reasons, what is kept, the run -/
abbrev GoV : Type := (Nat → OutV) × (Nat → List Int64) × (Nat → Nat) × List (Int64 × OutV) × RunV
def goR (s : GoV) : RunV := s.2.2.2.2
def tkG (P : PlV) (w t : Nat) (s : GoV) : GoV := (s.1, s.2.1, tkE P s.1 s.2.1 s.2.2.1 s.2.2.2.1 t, s.2.2.2.1, tkR P s.1 s.2.2.2.1 (goR s) w t)
def fnG (L w t : Nat) (s : GoV) : GoV := (if (rB (goR s) w).1.1 = true then upO s.1 t (rB (goR s) w).1 else s.1, if (rB (goR s) w).1.1 = true then upO s.2.1 t (rB (goR s) w).2.1 else s.2.1, s.2.2.1, if rW (goR s) w = 2 then s.2.2.2.1 else kpL L s.2.2.2.1 (rB (goR s) w).2.2 (rB (goR s) w).1, fnR (goR s) w t)
/-- a step less is left -/
def ltR (r : RunV) (w : Nat) : RunV := rsL r (up (rL r) w (rL r w - 1))
def ltG (w : Nat) (s : GoV) : GoV := (s.1, s.2.1, s.2.2.1, s.2.2.2.1, ltR (goR s) w)
def wrR (P : PlV) (pu : Nat → OutV) (r : RunV) (w t : Nat) : RunV := rsB r (upO (rB r) w (wrkV (tD P.2.2 t) (tkI P pu t), (rB r w).2.1, (rB r w).2.2))
def wrG (P : PlV) (w t : Nat) (s : GoV) : GoV := if rW (goR s) w = 0 then (s.1, s.2.1, s.2.2.1, s.2.2.2.1, wrR P s.1 (goR s) w t) else s
def cho (P : PlV) (nd : Nat → Nat) (r : RunV) : Int := chs P.2.2 nd (rE r) (rH r)
def tn1 (P : PlV) (nd : Nat → Nat) (w : Nat) (s : GoV) : GoV := if rH (goR s) w < 0 ∧ 0 ≤ cho P nd (goR s) then tkG P w (cho P nd (goR s)).toNat s else s
def tn2 (P : PlV) (L w : Nat) (s : GoV) : GoV := if rH (goR s) w < 0 then s else if 0 < rL (goR s) w - 1 then ltG w s else fnG L w (rH (goR s) w).toNat (wrG P w (rH (goR s) w).toNat (ltG w s))
/-- a worker's turn -/
def trn (P : PlV) (nd : Nat → Nat) (L w : Nat) (s : GoV) : GoV := tn2 P L w (tn1 P nd w s)
def trs (P : PlV) (nd : Nat → Nat) (L : Nat) (s : GoV) : Nat → GoV
  | 0 => s
  | w + 1 => trn P nd L w (trs P nd L s w)
/-- it goes on -/
def onB (P : PlV) (nd : Nat → Nat) (s : GoV) : Bool := decide (0 ≤ rH (goR s) 0 ∨ 0 ≤ rH (goR s) 1 ∨ 0 ≤ cho P nd (goR s))
def goG (P : PlV) (nd : Nat → Nat) (L : Nat) : Nat → GoV → Bool → Nat → GoV × Bool × Nat
  | 0, s, g, k => (s, g, k)
  | n + 1, s, g, k => if g = true then goG P nd L n (trs P nd L s 2) (onB P nd (trs P nd L s 2)) (k + 1) else (s, g, k)
/-- what a run keeps; worker e aside -/
def SesI (P : PlV) (pu : Nat → OutV) (pp : Nat → List Int64) (r : RunV) (e : Nat) : Prop := (∀ w, w < 2 → -1 ≤ rH r w ∧ rH r w < P.2.2.length) ∧ (∀ w, w < 2 → w ≠ e → 0 ≤ rH r w → (rW r w = 0 → (rB r w).1 = (false, [], [], [])) ∧ (rW r w = 2 → (rB r w).1.1 = false) ∧ (rW r w ≠ 2 → 0 < (rB r w).2.1.length)) ∧ (∀ t, t < 14 → (pu t).1 = true → 0 < (pp t).length) ∧ rF r < P.2.2.length ∧ ∀ i, i < (rR r).length → (rR r).getD i 0 < P.2.2.length
def SesL (r : RunV) (e : Nat) : Prop := ∀ w, w < 2 → w ≠ e → 0 ≤ rH r w → 1 ≤ rL r w
section SESI
variable {P : PlV} {pu : Nat → OutV} {pp : Nat → List Int64} {ks : List (Int64 × OutV)} {r : RunV} {e w n y : Nat} {b : BeV} {s : Int}
theorem upN_at {f : Nat → Nat} {j x : Nat} : upN f j x j = x := if_pos rfl
theorem upN_ne {f : Nat → Nat} {j x i : Nat} (h : i ≠ j) : upN f j x i = f i := if_neg h
theorem up_at {f : Nat → Int} {j : Nat} {x : Int} : up f j x j = x := if_pos rfl
theorem up_ne {f : Nat → Int} {j i : Nat} {x : Int} (h : i ≠ j) : up f j x i = f i := if_neg h
theorem upO_at {α : Type} {f : Nat → α} {j : Nat} {x : α} : upO f j x j = x := if_pos rfl
theorem upO_ne {α : Type} {f : Nat → α} {j i : Nat} {x : α} (h : i ≠ j) : upO f j x i = f i := if_neg h
theorem tk1_I (I : SesI P pu pp r 2) (hn : n < P.2.2.length) (h0 : y = 0 → b.1 = (false, [], [], [])) (h2 : y = 2 → b.1.1 = false) (hp : y ≠ 2 → 0 < b.2.1.length) (hs : 1 ≤ s) : SesI P pu pp (tk1 r w n b y s) 2 ∧ (SesL r 2 → SesL (tk1 r w n b y s) 2) ∧ rH (tk1 r w n b y s) w = n := by
  obtain ⟨i1, i2, i3, i4, i5⟩ := I
  refine ⟨⟨fun v hv => ?_, fun v hv he h => ?_, i3, i4, i5⟩, fun l v hv he h => ?_, up_at⟩
  · show -1 ≤ up (rH r) w n v ∧ up (rH r) w n v < _
    by_cases q : v = w
    · rw [q, up_at]; omega
    · rw [up_ne q]; exact i1 v hv
  · change 0 ≤ up (rH r) w n v at h
    show (upN (rW r) w y v = 0 → (upO (rB r) w b v).1 = _) ∧ (upN (rW r) w y v = 2 → (upO (rB r) w b v).1.1 = false) ∧ (upN (rW r) w y v ≠ 2 → 0 < (upO (rB r) w b v).2.1.length)
    by_cases q : v = w
    · rw [q, upN_at, upO_at]; exact ⟨h0, h2, hp⟩
    · rw [upN_ne q, upO_ne q]; rw [up_ne q] at h; exact i2 v hv he h
  · change 0 ≤ up (rH r) w n v at h
    show 1 ≤ up (rL r) w s v
    by_cases q : v = w
    · rw [q, up_at]; exact hs
    · rw [up_ne q]; rw [up_ne q] at h; exact l v hv he h
theorem tkR_I (I : SesI P pu pp r 2) (hn : n < P.2.2.length) : SesI P pu pp (tkR P pu ks r w n) 2 ∧ (SesL r 2 → SesL (tkR P pu ks r w n) 2) ∧ rH (tkR P pu ks r w n) w = n ∧ rC (tkR P pu ks r w n) = rC r := by
  have pl : 0 < (tkP P pu n).length := by
    have := ptL_len (t := tD P.2.2 n) (ins := tkI P pu n) (tkI P pu n).length
    show 0 < (ptL _ _ _).length
    omega
  have ts : (1 : Int) ≤ (tkS P pu n : Nat) := by unfold tkS; omega
  unfold tkR
  split
  · obtain ⟨a1, a2, a3⟩ := tk1_I (w := w) (b := ((false, [], [], tkA P n), [], 0)) (y := 2) (s := 1) I hn (fun z => by omega) (fun _ => rfl) (fun z => absurd rfl z) (by omega)
    exact ⟨a1, a2, a3, rfl⟩
  · split
    · obtain ⟨a1, a2, a3⟩ := tk1_I (w := w) (b := (kO ks (kfd ks (tkK P pu n)).toNat, tkP P pu n, tkK P pu n)) (y := 1) (s := 1) I hn (fun z => by omega) (fun z => by omega) (fun _ => pl) (by omega)
      exact ⟨a1, a2, a3, rfl⟩
    · obtain ⟨a1, a2, a3⟩ := tk1_I (w := w) (b := ((false, [], [], []), tkP P pu n, tkK P pu n)) (y := 0) (s := (tkS P pu n : Nat)) I hn (fun _ => rfl) (fun z => by omega) (fun _ => pl) ts
      split
      · refine ⟨⟨a1.1, a1.2.1, a1.2.2.1, a1.2.2.2.1, fun i hi => ?_⟩, a2, a3, rfl⟩
        show (rR r ++ [n]).getD i 0 < _
        change i < (rR r ++ [n]).length at hi
        rw [List.length_append, List.length_singleton] at hi
        rw [getD_snoc]
        split
        · exact hn
        · exact I.2.2.2.2 i (by omega)
      · exact ⟨a1, a2, a3, rfl⟩
theorem fnR_I {t : Nat} (I : SesI P pu pp r w) (hw : w < 2) (ht : t < P.2.2.length) (hb : (rB r w).1.1 = true → 0 < (rB r w).2.1.length) : SesI P (if (rB r w).1.1 = true then upO pu t (rB r w).1 else pu) (if (rB r w).1.1 = true then upO pp t (rB r w).2.1 else pp) (fnR r w t) 2 ∧ (SesL r w → SesL (fnR r w t) 2) ∧ ∀ j, rC (fnR r w t) j ≤ rC r j + 1 := by
  obtain ⟨i1, i2, i3, i4, i5⟩ := I
  have eH : rH (fnR r w t) = up (rH r) w (-1) := by unfold fnR; (repeat' split) <;> rfl
  have eL : rL (fnR r w t) = rL r := by unfold fnR; (repeat' split) <;> rfl
  have eW : rW (fnR r w t) = rW r := by unfold fnR; (repeat' split) <;> rfl
  have eB : rB (fnR r w t) = rB r := by unfold fnR; (repeat' split) <;> rfl
  have eR : rR (fnR r w t) = rR r := by unfold fnR; (repeat' split) <;> rfl
  have eC : rC (fnR r w t) = upN (rC r) (rW r w) (rC r (rW r w) + 1) := by unfold fnR; (repeat' split) <;> rfl
  have eF : rF (fnR r w t) < P.2.2.length := by
    unfold fnR
    split
    · exact i4
    · split
      · show (t : Int) < _; omega
      · exact i4
  refine ⟨⟨fun v hv => ?_, fun v hv he h => ?_, fun u hu h => ?_, eF, by rw [eR]; exact i5⟩, fun l v hv he h => ?_, fun j => ?_⟩
  · rw [eH]
    by_cases q : v = w
    · rw [q, up_at]; omega
    · rw [up_ne q]; exact i1 v hv
  · rw [eH] at h
    rw [eW, eB]
    by_cases q : v = w
    · rw [q, up_at] at h; omega
    · rw [up_ne q] at h; exact i2 v hv q h
  · by_cases q : (rB r w).1.1 = true
    · rw [if_pos q] at h ⊢
      by_cases q2 : u = t
      · rw [q2, upO_at]; exact hb q
      · rw [upO_ne q2] at h ⊢; exact i3 u hu h
    · rw [if_neg q] at h ⊢; exact i3 u hu h
  · rw [eH] at h
    rw [eL]
    by_cases q : v = w
    · rw [q, up_at] at h; omega
    · rw [up_ne q] at h; exact l v hv q h
  · rw [eC]
    unfold upN
    split
    · rename_i q; rw [q]; omega
    · omega
theorem chs_rg (ts : List (Bool × TgV)) (nd E : Nat → Nat) (H : Nat → Int) : -1 ≤ chs ts nd E H ∧ chs ts nd E H < ts.length := by
  unfold chs
  rcases srF_rg (p := mayB ts nd E H) (n := ts.length) (i := 0) with e | ⟨j, -, j2, e, -⟩ <;> rw [e] <;> omega
end SESI
