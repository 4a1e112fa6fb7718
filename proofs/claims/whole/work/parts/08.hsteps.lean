/-! the steps that look at the heap, or change it -/
theorem kFld_own {f a : Nat} {h : Hp} (hf : f / 128 < 14) (hk : KD h a = kFld f) : KD h a = 1 + f / 128 := by
  unfold kFld at hk
  rw [if_pos hf] at hk
  omega
theorem fval_I {f a : Nat} {h : Hp} (hf : fty f = 0 ∨ fty f = 3 ∨ fty f = 4) : fval h (f / 128) (f % 128) a = cv (vI (FI h f a)) := by
  unfold fval
  rw [show (ftyT.getD (f / 128) []).getD (f % 128) 9 = fty f from rfl, f_split]
  rcases hf with e | e | e <;> rw [e] <;> rfl
theorem fval_J {f a : Nat} {h : Hp} (hf : fty f = 1) : fval h (f / 128) (f % 128) a = cv (vJ (FL h f a)) := by
  unfold fval
  rw [show (ftyT.getD (f / 128) []).getD (f % 128) 9 = fty f from rfl, f_split, hf]
  rfl
theorem fval_R {f a : Nat} {h : Hp} (hf : fty f = 2) : fval h (f / 128) (f % 128) a = cv (vR (FR h f a)) := by
  unfold fval
  rw [show (ftyT.getD (f / 128) []).getD (f % 128) 9 = fty f from rfl, f_split, hf]
  rfl
section HSTEP
variable {p : Program} {l : Launch} {e : Env} {R : Room} {s : State} {m : MethodId} {args : Array Value} {below : List Frame} {meth : Method} {c : Code} {H : Heap} {locs : List Loc} {cells slots : Nat} {Q : State → Prop}
variable {D : Dk} {G : Nat → Option Nat} {d k pc : Nat} {ls : Array Slot} {lo : List (Option MV)} {st : List MV} {h : Hp}
/-- reading a field that lies outside our own cells -/
theorem get_for {idx a f : Nat} {nest : Bool} {rest : List Value} {v : Value} (F : FrK D G p s m args meth c k) (hF : va_OF (fds f).1 (fds f).2.1 (fds f).2.2 v a (oA D) s H)
    (hw : if nest then wFld (ownOf k) idx f true ∈ nestL else wFld (ownOf k) idx f false ∈ mw) (hd : decode (codeOf k) pc = .ok (.getfield idx, 3))
    (kk : W p l e R s m args below meth c H locs cells slots Q (F0 m (pc + 3) ls (v :: rest))) : W p l e R s m args below meth c H locs cells slots Q (F0 m pc ls (.ref a :: rest)) := by
  obtain ⟨hx, hb, hml, hown, hts, hG, -⟩ := F
  obtain ⟨cf, kf, i, fd, cell, g1, g2, g3, g4, g5, -⟩ := hF
  cases nest with
  | true =>
    simp only [if_true] at hw
    exact va_Wgetf hx hb hown (va_Nw.use rfl (hG.2.1 _ hw)) g1 g2 g3 g4 g5 (g := F0 m pc ls (.ref a :: rest)) rfl rfl hd kk
  | false =>
    simp only [Bool.false_eq_true, if_false] at hw
    exact W.getf hx hb hown (hts _ hw) g1 g2 g3 g4 g5 (g := F0 m pc ls (.ref a :: rest)) rfl rfl hd kk
/-- reading a field -/
theorem get_any {idx a f : Nat} {nest : Bool} {rest : List Value} {v : MV} (F : FrK D G p s m args meth c k) (hR : Rel D G h s H)
    (hw : (if nest then wFld (ownOf k) idx f true ∈ nestL else wFld (ownOf k) idx f false ∈ mw) ∧ ((f / 128 < 14 ∧ f % 128 < mN (f / 128)) ∨ f = 2048 ∨ f = 2049 ∨ f = 2176 ∨ f = 2177 ∨ f = 2178 ∨ f = 2179)) (hk : KD h a = kFld f) (hd : decode (codeOf k) pc = .ok (.getfield idx, 3))
    (hv : ((fty f = 0 ∨ fty f = 3 ∨ fty f = 4) ∧ v = vI (FI h f a)) ∨ (fty f = 1 ∧ v = vJ (FL h f a)) ∨ (fty f = 2 ∧ v = vR (FR h f a)))
    (kk : W p l e R s m args below meth c H locs cells slots Q (F0 m (pc + 3) ls (cv v :: rest))) : W p l e R s m args below meth c H locs cells slots Q (F0 m pc ls (.ref a :: rest)) := by
  obtain ⟨hw, hf⟩ := hw
  rcases hf with ⟨hf, hf2⟩ | hf
  · refine get_own F hR hw hf hf2 (kFld_own hf hk) hd ?_
    rcases hv with ⟨e, rfl⟩ | ⟨e, rfl⟩ | ⟨e, rfl⟩
    · rw [fval_I e]; exact kk
    · rw [fval_J e]; exact kk
    · rw [fval_R e]; exact kk
  · obtain ⟨x1, x2, -⟩ := hR.2.2.2.2.2
    have t1 : fty 2048 = 2 := rfl
    have t2 : fty 2049 = 4 := rfl
    have t3 : fty 2176 = 2 := rfl
    have t4 : fty 2177 = 2 := rfl
    have t5 : fty 2178 = 0 := rfl
    have t6 : fty 2179 = 0 := rfl
    rcases hf with rfl | rfl | rfl | rfl | rfl | rfl
    · rcases hv with ⟨e, rfl⟩ | ⟨e, rfl⟩ | ⟨e, rfl⟩
      · rw [t1] at e; omega
      · rw [t1] at e; omega
      · exact get_for (f := 2048) F (x1 a hk).2.1 hw hd kk
    · rcases hv with ⟨e, rfl⟩ | ⟨e, rfl⟩ | ⟨e, rfl⟩
      · exact get_for (f := 2049) F (x1 a hk).2.2 hw hd kk
      · rw [t2] at e; omega
      · rw [t2] at e; omega
    · rcases hv with ⟨e, rfl⟩ | ⟨e, rfl⟩ | ⟨e, rfl⟩
      · rw [t3] at e; omega
      · rw [t3] at e; omega
      · exact get_for (f := 2176) F (x2 a hk).2.1 hw hd kk
    · rcases hv with ⟨e, rfl⟩ | ⟨e, rfl⟩ | ⟨e, rfl⟩
      · rw [t4] at e; omega
      · rw [t4] at e; omega
      · exact get_for (f := 2177) F (x2 a hk).2.2.1 hw hd kk
    · rcases hv with ⟨e, rfl⟩ | ⟨e, rfl⟩ | ⟨e, rfl⟩
      · exact get_for (f := 2178) F (x2 a hk).2.2.2.1 hw hd kk
      · rw [t5] at e; omega
      · rw [t5] at e; omega
    · rcases hv with ⟨e, rfl⟩ | ⟨e, rfl⟩ | ⟨e, rfl⟩
      · exact get_for (f := 2179) F (x2 a hk).2.2.2.2 hw hd kk
      · rw [t6] at e; omega
      · rw [t6] at e; omega
theorem gkI_inv {f : Nat} {I : Instr} (h : gkI f = some I) : ((fty f = 0 ∨ fty f = 3 ∨ fty f = 4) ∧ I = .getfield f) ∨ (fty f = 1 ∧ I = .fload f) ∨ (fty f = 2 ∧ I = .dload f) := by
  unfold gkI at h
  split at h
  · rename_i e; cases h; exact Or.inl ⟨Or.inl e, rfl⟩
  · rename_i e; cases h; exact Or.inl ⟨Or.inr (Or.inl e), rfl⟩
  · rename_i e; cases h; exact Or.inl ⟨Or.inr (Or.inr e), rfl⟩
  · rename_i e; cases h; exact Or.inr (Or.inl ⟨e, rfl⟩)
  · rename_i e; cases h; exact Or.inr (Or.inr ⟨e, rfl⟩)
  · cases h
theorem pkI_inv {f : Nat} {I : Instr} (h : pkI f = some I) : (fty f = 0 ∧ I = .putfield f) ∨ (fty f = 3 ∧ I = .putstatic f) ∨ (fty f = 1 ∧ I = .fstore f) ∨ (fty f = 2 ∧ I = .dstore f) := by
  unfold pkI at h
  split at h
  · rename_i e; cases h; exact Or.inl ⟨e, rfl⟩
  · rename_i e; cases h; exact Or.inr (Or.inl ⟨e, rfl⟩)
  · rename_i e; cases h; exact Or.inr (Or.inr (Or.inl ⟨e, rfl⟩))
  · rename_i e; cases h; exact Or.inr (Or.inr (Or.inr ⟨e, rfl⟩))
  · cases h
theorem fld_n {o idx f ps : Nat} {nest : Bool} (ho : o < 22) (h : (fldT.getD o []).lookup idx = some (f, ps, nest)) :
    (if nest then wFld o idx f true ∈ nestL else wFld o idx f false ∈ mw) ∧ ((f / 128 < 14 ∧ f % 128 < mN (f / 128)) ∨ f = 2048 ∨ f = 2049 ∨ f = 2176 ∨ f = 2177 ∨ f = 2178 ∨ f = 2179) := fld_of ho h
end HSTEP
theorem s_getfield (i : Nat) : Sok (.getfield i) := by
  intro p l e R s m args below meth c H locs cells slots Q D G d k pc ls lo st h I len z F P hml hd hl hr hx hroom hRd kk
  obtain rfl := len_of (n := 3) hl (fun _ => rfl)
  obtain ⟨⟨f, ps, nest⟩, hlk, hg⟩ := Option.bind_eq_some_iff.mp (show ((fldT.getD (ownOf k) []).lookup i).bind (fun e => gkI e.1) = some I from hr)
  have hw := fld_n F.2.2.2.2.2.2.2.1 hlk
  rcases gkI_inv hg with ⟨e, rfl⟩ | ⟨e, rfl⟩ | ⟨e, rfl⟩
  · obtain ⟨a, r, rfl, hx⟩ := popA_inv hx
    obtain ⟨b, hx⟩ := grd_inv hx
    cases hx
    exact get_any F P.2.2.2.1 hw b hd (Or.inl ⟨e, rfl⟩) (st_push (v := vI (FI h f a)) P.tail (P.2.2.2.1.2.2.1.1 f a) kk)
  · obtain ⟨a, r, rfl, hx⟩ := popA_inv hx
    obtain ⟨b, hx⟩ := grd_inv hx
    cases hx
    exact get_any F P.2.2.2.1 hw b hd (Or.inr (Or.inl ⟨e, rfl⟩)) (st_push (v := vJ (FL h f a)) P.tail trivial kk)
  · obtain ⟨a, r, rfl, hx⟩ := popA_inv hx
    obtain ⟨b, hx⟩ := grd_inv hx
    cases hx
    exact get_any F P.2.2.2.1 hw b hd (Or.inr (Or.inr ⟨e, rfl⟩)) (st_push (v := vR (FR h f a)) P.tail trivial kk)
theorem up2_eq {α : Type} (F : Nat → Nat → α) (f a : Nat) (v : α) : up2 F f a v f a = v := if_pos ⟨rfl, rfl⟩
theorem up2_ne {α : Type} (F : Nat → Nat → α) {f a g b : Nat} (v : α) (h : g ≠ f ∨ b ≠ a) : up2 F f a v g b = F g b := if_neg (fun q => h.elim (fun z => z q.1) (fun z => z q.2))
theorem InR_up2 {F : Nat → Nat → Int} {f a : Nat} {v : Int} (h : ∀ g b, InR (F g b)) (hv : InR v) : ∀ g b, InR (up2 F f a v g b) := by
  intro g b
  unfold up2
  split
  · exact hv
  · exact h g b
theorem s_putfield (i : Nat) : Sok (.putfield i) := by
  intro p l e R s m args below meth c H locs cells slots Q D G d k pc ls lo st h I len z F P hml hd hl hr hx hroom hRd kk
  obtain rfl := len_of (n := 3) hl (fun _ => rfl)
  obtain ⟨⟨f, ps, nest⟩, hlk, hg⟩ := Option.bind_eq_some_iff.mp (show ((fldT.getD (ownOf k) []).lookup i).bind (fun e => if fin e.1 && !(knd k == 2 && ownOf k == e.1 / 128 && !e.2.2) then none else pkI e.1) = some I from hr)
  obtain ⟨hw, hw2⟩ := fld_n F.2.2.2.2.2.2.2.1 hlk
  dsimp only at hg
  split at hg
  · cases hg
  rename_i hfin
  have hfin' : fin f = true → knd k = 2 ∧ ownOf k = f / 128 ∧ nest = false := by
    intro q
    rw [q] at hfin
    simp only [Bool.true_and, Bool.not_eq_true', Bool.not_eq_false, Bool.and_eq_true, beq_iff_eq] at hfin
    refine ⟨hfin.1.1, hfin.1.2, ?_⟩
    cases nest
    · rfl
    · exact absurd hfin.2 (by decide)
  have hR := P.2.2.2.1
  have hk2 := hR.2.2.1
  rcases pkI_inv hg with ⟨e, rfl⟩ | ⟨e, rfl⟩ | ⟨e, rfl⟩ | ⟨e, rfl⟩
  · obtain ⟨x, r, rfl, hx⟩ := popI_inv hx
    obtain ⟨a, r, rfl, hx⟩ := popA_inv hx
    obtain ⟨⟨b1, b2⟩, hx⟩ := grd_inv hx
    cases hx
    have hxx : InR x := P.hd
    have hf2 : f % 128 < mN (f / 128) := by omega
    refine put_own F hR hw b2 hf2 (kFld_own b2 b1) hfin' (v := .int (i32 x)) (by rw [e]; exact ⟨x, rfl⟩) hd (fun H' q hq e1 e2 e3 => ?_)
    have hv : fval (sFI h f a x) (f / 128) (f % 128) a = .int (i32 x) := by rw [fval_I (Or.inl e)]; show Value.int (i32 (up2 (FI h) f a x f a)) = _; rw [up2_eq]
    refine W0 (kk ls H' (locs ++ [q]) P.1 P.2.1 P.tail.tail.2.2.1 (rel_put (f := f) hR b2 (kFld_own b2 b1) e2 e3 (by rw [hv]; exact e1) (fun g y hgy => ⟨up2_ne _ _ hgy, rfl, rfl⟩) ⟨rfl, rfl, rfl⟩ ⟨rfl, rfl, rfl⟩ ⟨InR_up2 hk2.1 hxx, hk2.2⟩) (fun w hw => (List.mem_append.mp hw).elim (P.2.2.2.2 w) (fun hw => by rw [List.mem_singleton.mp hw, hq]; exact (kd_own hR (Or.inl (by have := kFld_own b2 b1; omega))).1)))
  · obtain ⟨x, r, rfl, hx⟩ := popI_inv hx
    obtain ⟨a, r, rfl, hx⟩ := popA_inv hx
    obtain ⟨⟨⟨b1, b2⟩, b3⟩, hx⟩ := grd_inv hx
    cases hx
    have hxx : InR x := P.hd
    have hf2 : f % 128 < mN (f / 128) := by omega
    refine put_own F hR hw b2 hf2 (kFld_own b2 b1) hfin' (v := .int (i32 x)) (by rw [e]; rcases b3 with rfl | rfl; exact Or.inl rfl; exact Or.inr rfl) hd (fun H' q hq e1 e2 e3 => ?_)
    have hv : fval (sFI h f a x) (f / 128) (f % 128) a = .int (i32 x) := by rw [fval_I (Or.inr (Or.inl e))]; show Value.int (i32 (up2 (FI h) f a x f a)) = _; rw [up2_eq]
    refine W0 (kk ls H' (locs ++ [q]) P.1 P.2.1 P.tail.tail.2.2.1 (rel_put (f := f) hR b2 (kFld_own b2 b1) e2 e3 (by rw [hv]; exact e1) (fun g y hgy => ⟨up2_ne _ _ hgy, rfl, rfl⟩) ⟨rfl, rfl, rfl⟩ ⟨rfl, rfl, rfl⟩ ⟨InR_up2 hk2.1 hxx, hk2.2⟩) (fun w hw => (List.mem_append.mp hw).elim (P.2.2.2.2 w) (fun hw => by rw [List.mem_singleton.mp hw, hq]; exact (kd_own hR (Or.inl (by have := kFld_own b2 b1; omega))).1)))
  · obtain ⟨x, r, rfl, hx⟩ := popJ_inv hx
    obtain ⟨a, r, rfl, hx⟩ := popA_inv hx
    obtain ⟨⟨b1, b2⟩, hx⟩ := grd_inv hx
    cases hx
    have hf2 : f % 128 < mN (f / 128) := by omega
    refine put_own F hR hw b2 hf2 (kFld_own b2 b1) hfin' (v := .long x) (by rw [e]; exact ⟨x, rfl⟩) hd (fun H' q hq e1 e2 e3 => ?_)
    have hv : fval (sFL h f a x) (f / 128) (f % 128) a = .long x := by rw [fval_J e]; show Value.long (up2 (FL h) f a x f a) = _; rw [up2_eq]
    refine W0 (kk ls H' (locs ++ [q]) P.1 P.2.1 P.tail.tail.2.2.1 (rel_put (f := f) hR b2 (kFld_own b2 b1) e2 e3 (by rw [hv]; exact e1) (fun g y hgy => ⟨rfl, up2_ne _ _ hgy, rfl⟩) ⟨rfl, rfl, rfl⟩ ⟨rfl, rfl, rfl⟩ hk2) (fun w hw => (List.mem_append.mp hw).elim (P.2.2.2.2 w) (fun hw => by rw [List.mem_singleton.mp hw, hq]; exact (kd_own hR (Or.inl (by have := kFld_own b2 b1; omega))).1)))
  · obtain ⟨x, r, rfl, hx⟩ := popR_inv hx
    obtain ⟨a, r, rfl, hx⟩ := popA_inv hx
    obtain ⟨⟨b1, b2⟩, hx⟩ := grd_inv hx
    cases hx
    have hf2 : f % 128 < mN (f / 128) := by omega
    refine put_own F hR hw b2 hf2 (kFld_own b2 b1) hfin' (v := va_rf x) (by rw [e]; exact ⟨x, rfl⟩) hd (fun H' q hq e1 e2 e3 => ?_)
    have hv : fval (sFR h f a x) (f / 128) (f % 128) a = va_rf x := by rw [fval_R e]; show va_rf (up2 (FR h) f a x f a) = _; rw [up2_eq]
    refine W0 (kk ls H' (locs ++ [q]) P.1 P.2.1 P.tail.tail.2.2.1 (rel_put (f := f) hR b2 (kFld_own b2 b1) e2 e3 (by rw [hv]; exact e1) (fun g y hgy => ⟨rfl, rfl, up2_ne _ _ hgy⟩) ⟨rfl, rfl, rfl⟩ ⟨rfl, rfl, rfl⟩ hk2) (fun w hw => (List.mem_append.mp hw).elim (P.2.2.2.2 w) (fun hw => by rw [List.mem_singleton.mp hw, hq]; exact (kd_own hR (Or.inl (by have := kFld_own b2 b1; omega))).1)))
