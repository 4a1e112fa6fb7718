/-! a step of the small machine is a step of the JVM's -/
section STEP
variable {p : Program} {l : Launch} {e : Env} {R : Room} {s : State} {m : MethodId} {args : Array Value} {below : List Frame} {meth : Method} {c : Code} {H : Heap} {locs : List Loc} {cells slots : Nat} {Q : State → Prop}
/-- what holds of a frame of method k as long as it stands -/
def FrK (D : Dk) (G : Nat → Option Nat) (p : Program) (s : State) (m : MethodId) (args : Array Value) (meth : Method) (c : Code) (k : Nat) : Prop :=
  p.tables.exec = Jvm.exec ∧ c.code = codeOf k ∧ c.maxLocals = mxl k ∧ s.vm.findClass (onm (ownOf k)) = some m.cls ∧ (∀ w ∈ mw, w.before args s = true) ∧ GK D G s ∧ (knd k = 2 → meth.name = "<init>") ∧ ownOf k < 22 ∧ D.2.2.2 ≤ D.2.2.2
theorem lookup_mem {β : Type} {l : List (Nat × β)} {i : Nat} {b : β} (h : l.lookup i = some b) : (i, b) ∈ l := by
  induction l with
  | nil => cases h
  | cons q l ih =>
    obtain ⟨j, c⟩ := q
    rw [List.lookup_cons] at h
    split at h
    · rename_i e
      rw [beq_iff_eq] at e
      subst e
      cases h
      exact List.mem_cons_self
    · exact List.mem_cons_of_mem _ (ih h)
/-- the rest of a step that leaves the heap -/
theorem W0 {g : JFrame} {a b : Nat} (kk : W p l e R s m args below meth c H locs (cells + (a - a)) (slots + (b - b)) Q g) : W p l e R s m args below meth c H locs cells slots Q g := by
  rw [Nat.sub_self, Nat.sub_self] at kk
  exact kk
theorem tgt_of {pc : Nat} {off : Int} (h : 0 ≤ (pc : Int) + off) : (pc : Int) + off = (((pc : Int) + off).toNat : Int) := by omega
/-- a field's word, and where it lies -/
theorem fld_of {o idx : Nat} {x : Nat × Nat × Bool} (ho : o < 22) (h : (fldT.getD o []).lookup idx = some x) :
    (if x.2.2 then wFld o idx x.1 true ∈ nestL else wFld o idx x.1 false ∈ mw) ∧ ((x.1 / 128 < 14 ∧ x.1 % 128 < mN (x.1 / 128)) ∨ x.1 = 2048 ∨ x.1 = 2049 ∨ x.1 = 2176 ∨ x.1 = 2177 ∨ x.1 = 2178 ∨ x.1 = 2179) := by
  obtain ⟨f, ps, nest⟩ := x
  have h1 := List.all_eq_true.mp (all_range fld_c ho) _ (lookup_mem h)
  dsimp only at h1 ⊢
  simp only [Bool.and_eq_true, Bool.or_eq_true, decide_eq_true_eq] at h1
  obtain ⟨⟨h2, h3⟩, h4⟩ := h1
  refine ⟨?_, by omega⟩
  cases nest with
  | true =>
    simp only [if_true] at h3 ⊢
    exact ne_of (by rw [h2, h3]; rfl)
  | false =>
    simp only [Bool.false_eq_true, if_false] at h3 ⊢
    exact mw_of (by rw [h2, h3]; rfl)
theorem mcl_get {i : Nat} (h : i < 14) : mcl[i]? = some (onm i, mT i, mN i) := by
  unfold mcl
  rw [List.getElem?_map, List.getElem?_range h]
  rfl
theorem lay_in {i : Nat} (h : i < 14) : ∀ w ∈ u_ws (onm i) (mT i) (mN i), w ∈ mw := by
  intro w hw
  obtain ⟨k, hk, rfl⟩ := List.mem_map.mp hw
  exact mw_of (all_range (all_range lay_c h) (List.mem_range.mp hk))
theorem fty_of {i k : Nat} (h : i < 14) (hk : k < mN i) : parseFieldDescriptor (mT i k).2.2.1 = some (fTy i k) ∧ kOk ((ftyT.getD i []).getD k 9) (fTy i k) = true ∧ (mT i k).1 = onm i := by
  have := all_range (all_range fty_c h) hk
  simp only [Bool.and_eq_true, decide_eq_true_eq] at this
  exact ⟨this.1.1, this.1.2, this.2⟩
theorem fnm_of {i : Nat} (h : i < 14) : ∀ a, a < mN i → ∀ b, b < mN i → a ≠ b → (mT i a).2.1 ≠ (mT i b).2.1 := by
  intro a ha b hb hab
  have := all_range (all_range (all_range fnm_c h) hb) ha
  simp only [Bool.or_eq_true, decide_eq_true_eq] at this
  exact this.resolve_left hab
theorem fds_own {f : Nat} (h : f / 128 < 14) : fds f = ((mT (f / 128) (f % 128)).1, (mT (f / 128) (f % 128)).2.1, (mT (f / 128) (f % 128)).2.2.1) := by
  unfold fds
  rw [if_pos h]
theorem f_split (f : Nat) : 128 * (f / 128) + f % 128 = f := by omega
/-- reading a field of an own object -/
theorem get_own {D : Dk} {G : Nat → Option Nat} {h : Hp} {k pc idx a f : Nat} {nest : Bool} {ls : Array Slot} {rest : List Value} (F : FrK D G p s m args meth c k) (hR : Rel D G h s H)
    (hw : if nest then wFld (ownOf k) idx f true ∈ nestL else wFld (ownOf k) idx f false ∈ mw) (hf : f / 128 < 14) (hf2 : f % 128 < mN (f / 128)) (hk : KD h a = 1 + f / 128) (hd : decode (codeOf k) pc = .ok (.getfield idx, 3))
    (kk : W p l e R s m args below meth c H locs cells slots Q (F0 m (pc + 3) ls (fval h (f / 128) (f % 128) a :: rest))) : W p l e R s m args below meth c H locs cells slots Q (F0 m pc ls (.ref a :: rest)) := by
  obtain ⟨hx, hb, hml, hown, hts, hG, -⟩ := F
  obtain ⟨-, cell, q1, q2, q3, q4⟩ := hR.2.2.2.1 a _ hf hk
  obtain ⟨hS, hfc, kC, hkC, hkind⟩ := hG.1.1 _ _ (mcl_get hf)
  obtain ⟨cf, kf, fi, fd, hi, hsl⟩ := hS _ hf2
  have hst := (u_facts hfc hkC (u_lays hts (lay_in hf) hf2) hi).1
  have hslot : cell.slots[fd.slot]? = some (fval h (f / 128) (f % 128) a) := by rw [hsl]; exact q4 _ hf2
  have hi' : s.fieldFound? (fds f).1 (fds f).2.1 (fds f).2.2 = some (cf, kf, fi, fd) := by rw [fds_own hf]; exact hi
  cases nest with
  | true =>
    simp only [if_true] at hw
    exact va_Wgetf hx hb hown (va_Nw.use rfl (hG.2.1 _ hw)) hi' hst q1 (by rw [q3]; exact fun z => by cases z) hslot (g := F0 m pc ls (.ref a :: rest)) rfl rfl hd kk
  | false =>
    simp only [Bool.false_eq_true, if_false] at hw
    exact W.getf hx hb hown (hts _ hw) hi' hst q1 (by rw [q3]; exact fun z => by cases z) hslot (g := F0 m pc ls (.ref a :: rest)) rfl rfl hd kk
/-- a value that fits a type's kind -/
def vfit : Nat → Value → Prop
  | 0, v => ∃ x : Int, v = .int (i32 x)
  | 1, v => ∃ x, v = .long x
  | 2, v => ∃ x, v = va_rf x
  | 3, v => v = .int 0 ∨ v = .int 1
  | _, _ => False
theorem vfit_ok {ty : FieldType} {kd : Nat} {v : Value} (hk : kOk kd ty = true) (hv : vfit kd v) : narrow ty v = v ∧ fits ty v = true := by
  cases ty with
  | int => simp [kOk] at hk; subst hk; obtain ⟨x, rfl⟩ := hv; exact ⟨rfl, rfl⟩
  | long => simp [kOk] at hk; subst hk; obtain ⟨x, rfl⟩ := hv; exact ⟨rfl, rfl⟩
  | boolean => simp [kOk] at hk; subst hk; rcases hv with rfl | rfl <;> exact ⟨rfl, rfl⟩
  | object n => simp [kOk] at hk; subst hk; obtain ⟨x, rfl⟩ := hv; cases x <;> exact ⟨rfl, rfl⟩
  | array t => simp [kOk] at hk; subst hk; obtain ⟨x, rfl⟩ := hv; cases x <;> exact ⟨rfl, rfl⟩
  | _ => simp [kOk] at hk
theorem fin_eq {f : Nat} (h : f % 128 < mN (f / 128)) : fin f = (mT (f / 128) (f % 128)).2.2.2 := by
  unfold fin mT
  have h' : f % 128 < (fldsT.getD (f / 128) []).length := h
  generalize fldsT.getD (f / 128) [] = L at h' ⊢
  rw [List.getD_eq_getElem?_getD, List.getD_eq_getElem?_getD, List.getElem?_eq_getElem h']
  rfl
theorem fty_eq {f : Nat} : fty f = (ftyT.getD (f / 128) []).getD (f % 128) 9 := rfl
/-- writing a field of an own object -/
theorem put_own {D : Dk} {G : Nat → Option Nat} {h : Hp} {k pc idx a f : Nat} {nest : Bool} {ls : Array Slot} {rest : List Value} {v : Value} (F : FrK D G p s m args meth c k) (hR : Rel D G h s H)
    (hw : if nest then wFld (ownOf k) idx f true ∈ nestL else wFld (ownOf k) idx f false ∈ mw) (hf : f / 128 < 14) (hf2 : f % 128 < mN (f / 128)) (hk : KD h a = 1 + f / 128) (hfin : fin f = true → knd k = 2 ∧ ownOf k = f / 128 ∧ nest = false) (hv : vfit (fty f) v) (hd : decode (codeOf k) pc = .ok (.putfield idx, 3))
    (kk : ∀ (H' : Heap) (q : Loc), q.base = a → t_OB a (D.1 (f / 128)) (mN (f / 128)) (D.2.1 (f / 128)) H' (updV (fun i => fval h (f / 128) i a) (f % 128) v) → H'.size = H.size → (∀ q, q ≠ a → H'[q]? = H[q]?) → W p l e R s m args below meth c H' (locs ++ [q]) cells slots Q (F0 m (pc + 3) ls rest)) : W p l e R s m args below meth c H locs cells slots Q (F0 m pc ls (v :: .ref a :: rest)) := by
  obtain ⟨hx, hb, hml, hown, hts, hG, hnm, -⟩ := F
  obtain ⟨-, cell, q1, q2, q3, q4⟩ := hR.2.2.2.1 a _ hf hk
  have hap := va_apart (own := onm (ownOf k)) hts (lay_in hf) (fTy (f / 128)) (fun i hi => (fty_of hf hi).1) (fnm_of hf) hG.1 (mcl_get hf)
  obtain ⟨hS, hfc, kC, hkC, hkind⟩ := hG.1.1 _ _ (mcl_get hf)
  obtain ⟨cf, kf, fi, fd, hi, hsl⟩ := hS _ hf2
  have hlay := hts _ (lay_in hf _ (u_in_lay hf2))
  have hst := (u_facts hfc hkC (u_lays hts (lay_in hf) hf2) hi).1
  obtain ⟨t1, t2, t3⟩ := fty_of hf hf2
  obtain ⟨n1, n2⟩ := vfit_ok t2 (by rw [← fty_eq]; exact hv)
  have hi' : s.fieldFound? (fds f).1 (fds f).2.1 (fds f).2.2 = some (cf, kf, fi, fd) := by rw [fds_own hf]; exact hi
  have hlt : fd.slot < cell.slots.size := by rw [hsl]; exact k2_hasslot (q4 _ hf2)
  have fin2 : ∀ H' : Heap, H'[a]? = some (cell.setSlot fd.slot v) → H'.size = H.size → (∀ q, q ≠ a → H'[q]? = H[q]?) → W p l e R s m args below meth c H' (locs ++ [⟨a, fd.slot⟩]) cells slots Q (F0 m (pc + 3) ls rest) := by
    intro H' e1 e2 e3
    refine kk H' ⟨a, fd.slot⟩ rfl ⟨_, e1, q2, q3, ?_⟩ e2 e3
    rw [hsl]
    exact t_set q4 hap hf2 v
  unfold u_lay at hlay
  by_cases hfi : (mT (f / 128) (f % 128)).2.2.2 = true
  · rw [if_pos hfi] at hlay
    obtain ⟨g1, g2, g3⟩ := hfin (by rw [fin_eq hf2]; exact hfi)
    subst g3
    simp only [Bool.false_eq_true, if_false] at hw
    have h6 := u_fits hfc hkC hkind (Or.inr hlay) hi t1 n1 n2
    have hcf : m.cls = cf := by
      obtain ⟨_, _, c', _, _, _, -, -, hf', -, -, -, hown2, -⟩ := Cond.laysFinal_spec hlay
      have e1 : c' = cf := by have := hi.symm.trans hf'; simp at this; exact this.1.symm
      rw [t3, ← g2] at hown2
      rw [← e1]; exact Option.some.inj (hown.symm.trans hown2)
    exact W.putFinK hx hb hown (hts _ hw) hi' hst hcf (hnm g1) (by rw [q2]; exact h6) q1 q3 hlt (g := F0 m pc ls (v :: .ref a :: rest)) rfl rfl hd fin2
  · rw [if_neg hfi] at hlay
    have h6 := u_store hfc hkC hkind hlay hi t1 n1 n2
    cases nest with
    | true =>
      simp only [if_true] at hw
      exact va_WputK hx hb hown (va_Nw.use rfl (hG.2.1 _ hw)) hi' hst (by rw [q2]; exact h6) q1 q3 hlt (g := F0 m pc ls (v :: .ref a :: rest)) rfl rfl hd fin2
    | false =>
      simp only [Bool.false_eq_true, if_false] at hw
      exact W.putK hx hb (f := fd) ⟨hown, hts _ hw, ⟨_, _, _, hi'⟩, hst⟩ (by rw [q2]; exact h6) q1 q3 hlt (g := F0 m pc ls (v :: .ref a :: rest)) rfl rfl hd fin2
/-! the relation behind a change -/
theorem rFo.kept {D : Dk} {h h' : Hp} {G : Nat → Option Nat} {U : State} {H H' : Heap} (x : rFo D G h U H) (hq : ∀ q : Nat, q < H.size → ¬ oA D q → H'[q]? = H[q]?)
    (hK : ∀ b, KD h' b = 30 ∨ KD h' b = 31 ∨ KD h' b = 80 ∨ KD h' b = 81 ∨ KD h' b = 82 → KD h b = KD h' b ∧ LN h' b = LN h b ∧ (∀ f, 1792 ≤ f → FI h' f b = FI h f b ∧ FR h' f b = FR h f b) ∧ ∀ j, AI h' b j = AI h b j ∧ AR h' b j = AR h b j) : rFo D G h' U H' := by
  obtain ⟨x1, x2, x3, x4, x5⟩ := x
  refine ⟨fun b hb => ?_, fun b hb => ?_, fun b kd hkd hb => ?_, fun g C n d hm => (x4 g C n d hm).kept hq, fun b hb => ?_⟩
  · obtain ⟨k1, -, k3, -⟩ := hK b (Or.inl hb)
    have := (x1 b (k1.trans hb)).kept hq
    unfold fSt at this ⊢
    rw [(k3 2048 (by decide)).2, (k3 2049 (by decide)).1]
    exact this
  · obtain ⟨k1, -, k3, -⟩ := hK b (Or.inr (Or.inl hb))
    have := (x2 b (k1.trans hb)).kept hq
    unfold fVb at this ⊢
    rw [(k3 2176 (by decide)).2, (k3 2177 (by decide)).2, (k3 2178 (by decide)).1, (k3 2179 (by decide)).1]
    exact this
  · obtain ⟨k1, k2, -, k4⟩ := hK b (by rcases hkd with rfl | rfl | rfl <;> simp [hb])
    have := (x3 b kd hkd (k1.trans hb)).kept hq
    have e : aval h' kd b = aval h kd b := by
      funext j
      unfold aval
      have h44 : kd ≠ 44 := by omega
      rw [if_neg h44, if_neg h44, (k4 j).1, (k4 j).2]
    rw [k2, e]
    exact this
  · obtain ⟨k1, k2, -⟩ := hK b (by simp [hb])
    obtain ⟨cell, c1, c2, c3, c4⟩ := x5 b (k1.trans hb)
    exact ⟨cell, by rw [hq b (Array.getElem?_eq_some_iff.mp c1).1 c4]; exact c1, by rw [c2, k2], c3, c4⟩
theorem kd_own {D : Dk} {G : Nat → Option Nat} {h : Hp} {U : State} {H : Heap} (hR : Rel D G h U H) {a : Nat} (hk : (1 ≤ KD h a ∧ KD h a < 15) ∨ KD h a ∈ aKs) : D.2.2.2 ≤ a ∧ a < H.size := by
  rcases hk with hk | hk
  · obtain ⟨q, cell, q1, -⟩ := hR.2.2.2.1 a (KD h a - 1) (by omega) (by omega)
    exact ⟨q, (Array.getElem?_eq_some_iff.mp q1).1⟩
  · obtain ⟨q, -, q1⟩ := hR.2.2.2.2.1 a _ hk rfl
    exact ⟨q, (Array.getElem?_eq_some_iff.mp q1).1⟩
/-- behind a field's change -/
theorem rel_put {D : Dk} {G : Nat → Option Nat} {h h' : Hp} {U : State} {H H' : Heap} {a f : Nat} (hR : Rel D G h U H) (hf : f / 128 < 14) (hk : KD h a = 1 + f / 128) (e2 : H'.size = H.size) (e3 : ∀ q, q ≠ a → H'[q]? = H[q]?)
    (e1 : t_OB a (D.1 (f / 128)) (mN (f / 128)) (D.2.1 (f / 128)) H' (updV (fun i => fval h (f / 128) i a) (f % 128) (fval h' (f / 128) (f % 128) a)))
    (hF : ∀ g b, (g ≠ f ∨ b ≠ a) → FI h' g b = FI h g b ∧ FL h' g b = FL h g b ∧ FR h' g b = FR h g b) (hA : AI h' = AI h ∧ AL h' = AL h ∧ AR h' = AR h) (hM : KD h' = KD h ∧ LN h' = LN h ∧ NX h' = NX h) (hok' : hok h') : Rel D G h' U H' := by
  obtain ⟨m1, m2, m3⟩ := hM
  obtain ⟨n1, n2, n3⟩ := hA
  have ho := kd_own hR (a := a) (Or.inl (by omega))
  refine ⟨by rw [e2, m3]; exact hR.1, by rw [m3]; exact hR.2.1, hok', ?_, ?_, ?_⟩
  · intro b c hc hb
    rw [m1] at hb
    obtain ⟨g1, g2⟩ := hR.2.2.2.1 b c hc hb
    refine ⟨g1, ?_⟩
    by_cases e : b = a
    · subst e
      have hcf : c = f / 128 := by omega
      subst hcf
      refine e1.to fun k hk2 => ?_
      unfold updV
      by_cases ek : k = f % 128
      · rw [if_pos ek, ek]
      · rw [if_neg ek]
        have := hF (128 * (f / 128) + k) b (Or.inl (by omega))
        unfold fval
        rw [this.1, this.2.1, this.2.2]
    · refine (g2.kept (e3 b e)).to fun k hk2 => ?_
      have := hF (128 * c + k) b (Or.inr e)
      unfold fval
      rw [this.1, this.2.1, this.2.2]
  · intro b kd hkd hb
    rw [m1] at hb
    obtain ⟨g1, g2, g3⟩ := hR.2.2.2.2.1 b kd hkd hb
    have hne : b ≠ a := by
      rintro rfl
      have : ∀ x ∈ aKs, 15 ≤ x := by decide
      have := this kd hkd
      omega
    refine ⟨g1, g2, ?_⟩
    have e : aval h' kd b = aval h kd b := by
      funext j; unfold aval; rw [n1, n2, n3]
    rw [e3 b hne, m2, e]
    exact g3
  · refine rFo.kept hR.2.2.2.2.2 (fun q _ hq => e3 q (by rintro rfl; exact hq ho.1)) (fun b hb => ?_)
    refine ⟨by rw [m1], by rw [m2], fun g hg => ?_, fun j => ⟨by rw [n1], by rw [n3]⟩⟩
    have := hF g b (Or.inl (by omega))
    exact ⟨this.1, this.2.2⟩
/-- behind an array's change -/
theorem rel_ast {D : Dk} {G : Nat → Option Nat} {h h' : Hp} {U : State} {H H' : Heap} {a : Nat} (hR : Rel D G h U H) (hk : KD h a ∈ aKs) (e2 : H'.size = H.size) (e3 : ∀ q, q ≠ a → H'[q]? = H[q]?)
    (e1 : H'[a]? = some (arrV (D.2.2.1 (KD h a)) (LN h a) (aval h' (KD h a) a))) (hF : FI h' = FI h ∧ FL h' = FL h ∧ FR h' = FR h) (hA : ∀ b j, b ≠ a → AI h' b j = AI h b j ∧ AL h' b j = AL h b j ∧ AR h' b j = AR h b j) (hM : KD h' = KD h ∧ LN h' = LN h ∧ NX h' = NX h) (hok' : hok h') : Rel D G h' U H' := by
  obtain ⟨m1, m2, m3⟩ := hM
  obtain ⟨n1, n2, n3⟩ := hF
  have ho := kd_own hR (a := a) (Or.inr hk)
  have h15 : ∀ x ∈ aKs, 15 ≤ x ∧ x < 77 ∧ x ≠ 30 ∧ x ≠ 31 := by decide
  have hh := h15 _ hk
  refine ⟨by rw [e2, m3]; exact hR.1, by rw [m3]; exact hR.2.1, hok', ?_, ?_, ?_⟩
  · intro b c hc hb
    rw [m1] at hb
    obtain ⟨g1, g2⟩ := hR.2.2.2.1 b c hc hb
    have hne : b ≠ a := by rintro rfl; omega
    refine ⟨g1, (g2.kept (e3 b hne)).to fun k _ => ?_⟩
    unfold fval
    rw [n1, n2, n3]
  · intro b kd hkd hb
    rw [m1] at hb
    obtain ⟨g1, g2, g3⟩ := hR.2.2.2.2.1 b kd hkd hb
    refine ⟨g1, g2, ?_⟩
    by_cases e : b = a
    · subst e
      rw [m2, ← hb]
      exact e1
    · have ea : aval h' kd b = aval h kd b := by
        funext j
        have := hA b j e
        unfold aval
        rw [this.1, this.2.1, this.2.2]
      rw [e3 b e, m2, ea]
      exact g3
  · refine rFo.kept hR.2.2.2.2.2 (fun q _ hq => e3 q (by rintro rfl; exact hq ho.1)) (fun b hb => ?_)
    have hne : b ≠ a := by
      rintro rfl
      rw [m1] at hb
      omega
    refine ⟨by rw [m1], by rw [m2], fun g hg => ⟨by rw [n1], by rw [n3]⟩, fun j => ?_⟩
    have := hA b j hne
    exact ⟨this.1, this.2.2⟩
/-- behind a new cell -/
theorem rel_new {D : Dk} {G : Nat → Option Nat} {h h' : Hp} {U : State} {H H' : Heap} (hR : Rel D G h U H) (e2 : H'.size = NX h') (hle : NX h ≤ NX h') (e3 : ∀ q, q < NX h → H'[q]? = H[q]?)
    (hO : ∀ b, b < NX h → KD h' b = KD h b ∧ LN h' b = LN h b ∧ (∀ f, FI h' f b = FI h f b ∧ FL h' f b = FL h f b ∧ FR h' f b = FR h f b) ∧ ∀ j, AI h' b j = AI h b j ∧ AL h' b j = AL h b j ∧ AR h' b j = AR h b j)
    (hN : ∀ b, NX h ≤ b → (∀ c, c < 14 → KD h' b = 1 + c → t_OB b (D.1 c) (mN c) (D.2.1 c) H' (fun k => fval h' c k b)) ∧ (∀ kd, kd ∈ aKs → KD h' b = kd → kd ∈ aUs ∧ H'[b]? = some (arrV (D.2.2.1 kd) (LN h' b) (aval h' kd b))) ∧ (KD h' b = 30 ∨ KD h' b = 31 ∨ KD h' b = 80 ∨ KD h' b = 81 ∨ KD h' b = 82 → KD h b = KD h' b ∧ LN h' b = LN h b ∧ (∀ f, 1792 ≤ f → FI h' f b = FI h f b ∧ FR h' f b = FR h f b) ∧ ∀ j, AI h' b j = AI h b j ∧ AR h' b j = AR h b j)) (hok' : hok h') : Rel D G h' U H' := by
  have hs := hR.1
  have hb := hR.2.1
  refine ⟨e2, by omega, hok', ?_, ?_, ?_⟩
  · intro b c hc hk
    by_cases hlt : b < NX h
    · obtain ⟨o1, -, o3, -⟩ := hO b hlt
      obtain ⟨g1, g2⟩ := hR.2.2.2.1 b c hc (o1.symm.trans hk)
      refine ⟨g1, (g2.kept (e3 b hlt)).to fun k _ => ?_⟩
      have := o3 (128 * c + k)
      unfold fval
      rw [this.1, this.2.1, this.2.2]
    · exact ⟨by omega, (hN b (by omega)).1 c hc hk⟩
  · intro b kd hkd hk
    by_cases hlt : b < NX h
    · obtain ⟨o1, o2, -, o4⟩ := hO b hlt
      obtain ⟨g1, g2, g3⟩ := hR.2.2.2.2.1 b kd hkd (o1.symm.trans hk)
      have ea : aval h' kd b = aval h kd b := by
        funext j
        have := o4 j
        unfold aval
        rw [this.1, this.2.1, this.2.2]
      exact ⟨g1, g2, by rw [e3 b hlt, o2, ea]; exact g3⟩
    · obtain ⟨g2, g3⟩ := (hN b (by omega)).2.1 kd hkd hk
      exact ⟨by omega, g2, g3⟩
  · refine rFo.kept hR.2.2.2.2.2 (fun q hq hn => ?_) (fun b hk => ?_)
    · by_cases hlt : q < NX h
      · exact e3 q hlt
      · omega
    · by_cases hlt : b < NX h
      · obtain ⟨o1, o2, o3, o4⟩ := hO b hlt
        exact ⟨o1.symm, o2, fun f _ => ⟨(o3 f).1, (o3 f).2.2⟩, fun j => ⟨(o4 j).1, (o4 j).2.2⟩⟩
      · exact (hN b (by omega)).2.2 hk
end STEP
