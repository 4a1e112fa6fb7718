/-! what the small machine does, the JVM does -/
theorem dc_inv {k pc : Nat} {I : Instr} {pc' : Nat} (h : dc k pc = some (I, pc')) : ∃ I0 len, decode (codeOf k) pc = .ok (I0, len) ∧ lenOk I0 len = true ∧ rs k pc I0 = some I ∧ pc' = pc + len := by
  unfold dc at h
  split at h
  · rename_i I0 len e
    split at h
    · rename_i e2
      obtain ⟨J, hJ, h2⟩ := Option.map_eq_some_iff.mp h
      cases h2
      exact ⟨I0, len, e, e2, hJ, rfl⟩
    · cases h
  · cases h
/-! the callee's locals -/
def lay0 (vs : List MV) : List (Option MV) := vs.flatMap fun v => match v with | .inr (.inl _) => [some v, none] | _ => [some v]
def lay1 (v : MV) : List (Option MV) := match v with | .inr (.inl _) => [some v, none] | _ => [some v]
theorem lay0_cons (v : MV) (vs : List MV) : lay0 (v :: vs) = lay1 v ++ lay0 vs := rfl
theorem lay_eq (mx : Nat) (vs : List MV) : lay mx vs = lay0 vs ++ List.replicate (mx - (lay0 vs).length) none := rfl
theorem lay_len {mx : Nat} {vs : List MV} (h : (lay 0 vs).length ≤ mx) : (lay mx vs).length = mx := by
  have e : (lay 0 vs).length = (lay0 vs).length := by rw [lay_eq]; simp
  rw [e] at h
  rw [lay_eq, List.length_append, List.length_replicate]
  omega
theorem lg_len (vs : List MV) : (lg_sl (vs.map cv)).length = (lay0 vs).length := by
  induction vs with
  | nil => rfl
  | cons v vs ih =>
    have e1 := lay0_cons v vs
    have e2 : lg_sl ((v :: vs).map cv) = (if (cv v).category = 2 then [.val (cv v), .second] else [.val (cv v)]) ++ lg_sl (vs.map cv) := by unfold lg_sl; rw [List.map_cons, List.flatMap_cons]
    rw [e1, e2, List.length_append, List.length_append, ih]
    rcases v with x | x | x
    · rw [if_neg (fun q => by have := cv_inj2.mp q; obtain ⟨y, hy⟩ := this; cases hy)]; rfl
    · rw [if_pos (cv_cat2 x)]; rfl
    · rw [if_neg (fun q => by have := cv_inj2.mp q; obtain ⟨y, hy⟩ := this; cases hy)]; rfl
theorem lay_args (vs : List MV) : ∀ (n i : Nat) (w : MV), (lay0 vs)[i]? = some (some w) → (n + i, cv w) ∈ lv_args n (vs.map cv) := by
  induction vs with
  | nil => intro n i w h; simp [lay0] at h
  | cons v vs ih =>
    intro n i w h
    have e1 := lay0_cons v vs
    rw [e1] at h
    rw [List.map_cons, lv_args]
    rcases v with x | x | x
    · have hc : ¬ (cv (vI x)).category = 2 := fun q => by obtain ⟨y, hy⟩ := cv_inj2.mp q; cases hy
      rw [if_neg hc]
      match i, h with
      | 0, h => cases h; exact List.mem_cons_self
      | i + 1, h => have := ih (n + 1) i w h; rw [show n + 1 + i = n + (i + 1) by omega] at this; exact List.mem_cons_of_mem _ this
    · rw [if_pos (cv_cat2 x)]
      match i, h with
      | 0, h => cases h; exact List.mem_cons_self
      | 1, h => cases h
      | i + 2, h => have := ih (n + 2) i w h; rw [show n + 2 + i = n + (i + 2) by omega] at this; exact List.mem_cons_of_mem _ this
    · have hc : ¬ (cv (vR x)).category = 2 := fun q => by obtain ⟨y, hy⟩ := cv_inj2.mp q; cases hy
      rw [if_neg hc]
      match i, h with
      | 0, h => cases h; exact List.mem_cons_self
      | i + 1, h => have := ih (n + 1) i w h; rw [show n + 1 + i = n + (i + 1) by omega] at this; exact List.mem_cons_of_mem _ this
theorem lay_get {mx i : Nat} {vs : List MV} {w : MV} (h : (lay mx vs)[i]? = some (some w)) : (lay0 vs)[i]? = some (some w) := by
  rw [lay_eq] at h
  by_cases hl : i < (lay0 vs).length
  · rwa [List.getElem?_append_left hl] at h
  · rw [List.getElem?_append_right (by omega)] at h
    have := List.mem_of_getElem? h
    rw [List.mem_replicate] at this
    cases this.2
theorem lay0_mem {vs : List MV} {w : MV} (h : some w ∈ lay0 vs) : w ∈ vs := by
  unfold lay0 at h
  obtain ⟨v, hv, hw⟩ := List.mem_flatMap.mp h
  rcases v with x | x | x <;> simp at hw <;> subst hw <;> exact hv
/-- the callee's entry -/
theorem LR_entry {mx : Nat} {vs : List MV} {ls : Array Slot} (h : (lay 0 vs).length ≤ mx) (hl : lv_has ls mx (lv_args 0 (vs.map cv))) : LR ls (lay mx vs) := by
  refine ⟨by rw [lay_len h]; exact hl.1, hl.2.1, fun q hq => ?_⟩
  obtain ⟨w, hw, hv⟩ := mem_asc.mp hq
  have := lay_args vs 0 q.1 w (lay_get hw)
  rw [Nat.zero_add] at this
  rw [hv]
  exact hl.2.2 _ this
/-- what is asked where a method ends -/
def Hr (D : Dk) (G : Nat → Option Nat) (p : Program) (l : Launch) (e : Env) (R : Room) (s : State) (m : MethodId) (args : Array Value) (below : List Frame) (meth : Method) (c : Code) (k cells slots : Nat) (Q : State → Prop) (r : Option MV) (h : Hp) : Prop :=
  ∀ (ls2 : Array Slot) (H2 : Heap) (locs2 : List Loc) (pc2 : Nat) (I0 : Instr) (len : Nat) (I : Instr), decode (codeOf k) pc2 = .ok (I0, len) → lenOk I0 len = true → rs k pc2 I0 = some I → ends I r → (∀ v, r = some v → vok v) → Rel D G h s H2 → (∀ q ∈ locs2, D.2.2.2 ≤ q.base) → W p l e R s m args below meth c H2 locs2 cells slots Q (F0 m pc2 ls2 (r.toList.map cv))
/-- the contract of a method, at one heap -/
def Ct (D : Dk) (G : Nat → Option Nat) (l : Launch) (j d : Nat) (vs : List MV) (h h2 : Hp) (r : Option MV) : Prop :=
  Met l (metOf j) (.code (metOf j) (codeOf j) (mxl j) (retOf j) :: mw) { frames := d, cells := NX h2 - NX h, slots := SL h2 - SL h, locals := 40 * d } (va_Pc (vs.map cv) (fun U => GK D G U ∧ Rel D G h U U.heap))
    (fun _ _ o t => o = .returned (r.map cv) ∧ GK D G t ∧ Rel D G h2 t t.heap ∧ ∀ v, r = some v → vok v) (NX h2 - NX h) (SL h2 - SL h) (fun q => D.2.2.2 ≤ q)
theorem met_n {j : Nat} (hj : j < NM) : (metOf j).cls = onm (ownOf j) ∧ ownOf j < 22 ∧ plainName (metOf j).cls = true ∧ ((metOf j).cls ≠ "java/lang/invoke/MethodHandle" ∧ (metOf j).cls ≠ "java/lang/invoke/VarHandle") ∧ (parseMethodDescriptor (metOf j).desc).map (fun d => d.parameters.length) = some (argN j - (if knd j = 0 then 0 else 1)) ∧ (knd j = 0 ∨ 1 ≤ argN j) ∧ mxl j ≤ 16 ∧ (knd j = 2 → (metOf j).name = "<init>" ∧ retOf j = none) := by
  have h := met_c hj
  unfold metB at h
  simp only [Bool.and_eq_true, decide_eq_true_eq] at h
  obtain ⟨⟨⟨⟨⟨⟨⟨⟨⟨a1, a2⟩, a3⟩, a4⟩, a5⟩, a6⟩, a7⟩, a8⟩, a9⟩, -⟩ := h
  refine ⟨a1, a2, a3, ⟨a4, a5⟩, a6, a7, a8, fun q => ?_⟩
  rw [if_pos q] at a9
  simpa using a9
theorem ws_in {j : Nat} (hj : j < NM) : GoodIn mw (.code (metOf j) (codeOf j) (mxl j) (retOf j) :: mw) := by
  intro w hw
  have h1 : w ∈ mw := by
    rcases List.mem_cons.mp hw with rfl | hw
    · exact cod_c hj
    · exact hw
  exact ⟨h1, (mw_self w h1).2⟩
theorem own_14 : ((List.range NM).all fun j => !(ownOf j == 14) && (decide (knd j = 0) || decide (ownOf j < 14) || decide (ownOf j = 16))) = true := by decide +kernel
set_option maxHeartbeats 1000000 in
/-- a method's end -/
theorem end_met {D : Dk} {G : Nat → Option Nat} {p : Program} {l : Launch} {e : Env} {R : Room} {s : State} {m : MethodId} {args : Array Value} {below : List Frame} {meth : Method} {c : Code} {k cells slots : Nat} {r : Option MV} {h : Hp} (F : FrK D G p s m args meth c k) (hret : meth.sig.returnType = retOf k) (hlocks : meth.locks = false) :
    Hr D G p l e R s m args below meth c k cells slots (MQ below (fun _ _ o t => o = .returned (r.map cv) ∧ GK D G t ∧ Rel D G h t t.heap ∧ ∀ v, r = some v → vok v) args s cells slots (fun q => D.2.2.2 ≤ q)) r h := by
  intro ls2 H2 locs2 pc2 I0 len I hd hl hr he hv hR hq
  have fin2 : ∀ (o : Outcome), o = .returned (r.map cv) → ∀ t : State, t.heap = H2 → s.WarmedH t.vm → (o = .returned (r.map cv) ∧ GK D G t ∧ Rel D G h t t.heap ∧ ∀ v, r = some v → vok v) := fun o ho t ht hW => ⟨ho, GK.warm hW F.2.2.2.2.2.1, by rw [ht]; exact hR.moved hW.alike, hv⟩
  cases I0 with
  | return_ =>
    obtain rfl := len_of (n := 1) hl (fun _ => rfl)
    simp only [rs] at hr
    split at hr
    · rename_i hk
      cases hr
      have he : r = none := he
      subst he
      exact W.vret F.1 F.2.1 (by rw [hret, hk]) (fin2 _ rfl) hq hd
    · cases hr
  | ireturn =>
    obtain rfl := len_of (n := 1) hl (fun _ => rfl)
    simp only [rs] at hr
    split at hr
    · rename_i hk
      cases hr
      obtain ⟨x, rfl⟩ := he
      exact W.iret F.1 F.2.1 (by rw [hret, hk]) (fin2 _ rfl) hq hd
    · rename_i hk
      cases hr
      obtain ⟨x, rfl, hx⟩ := he
      exact W.zret F.1 F.2.1 (ty := .boolean) (by rw [hret, hk]) (by rcases hx with rfl | rfl <;> rfl) (fin2 _ rfl) hq hd
    · rename_i hk
      cases hr
      obtain ⟨x, rfl, hx⟩ := he
      exact W.zret F.1 F.2.1 (ty := .byte) (by rw [hret, hk]) (nar_b (by omega)) (fin2 _ rfl) hq hd
    · rename_i hk
      cases hr
      obtain ⟨x, rfl, hx⟩ := he
      have hx2 : 0 ≤ x ∧ x < 65536 := by omega
      have e1 : i32 x = nI x.toNat := by
        rw [← Int32.toInt_inj, i32_ok ⟨by omega, by omega⟩, nI_toInt (by omega)]
        omega
      exact W.zret F.1 F.2.1 (ty := .char) (by rw [hret, hk]) (by rw [e1]; exact (pk_charN (by omega)).1) (fin2 _ rfl) hq hd
    · cases hr
  | lreturn =>
    obtain rfl := len_of (n := 1) hl (fun _ => rfl)
    simp only [rs] at hr
    split at hr
    · rename_i hk
      cases hr
      obtain ⟨x, rfl⟩ := he
      exact W.lret F.1 F.2.1 (by rw [hret, hk]) (fin2 _ rfl) hq hd
    · cases hr
  | areturn =>
    obtain rfl := len_of (n := 1) hl (fun _ => rfl)
    simp only [rs] at hr
    split at hr
    · rename_i n hk
      cases hr
      obtain ⟨x, rfl⟩ := he
      exact W.aret F.1 F.2.1 (rt := .object n) (by rw [hret, hk]) (Or.inl ⟨n, rfl⟩) (by cases x; exact Or.inl rfl; exact Or.inr ⟨_, rfl⟩) (fin2 _ rfl) hq hd
    · rename_i n hk
      cases hr
      obtain ⟨x, rfl⟩ := he
      exact W.aret F.1 F.2.1 (rt := .array n) (by rw [hret, hk]) (Or.inr ⟨n, rfl⟩) (by cases x; exact Or.inl rfl; exact Or.inr ⟨_, rfl⟩) (fin2 _ rfl) hq hd
    · cases hr
  | getfield i =>
    obtain ⟨x, -, hI⟩ := Option.bind_eq_some_iff.mp (show (Option.bind _ (fun e : Nat × Nat × Bool => gkI e.1)) = some I from hr)
    rcases gkI_inv hI with ⟨-, rfl⟩ | ⟨-, rfl⟩ | ⟨-, rfl⟩ <;> exact he.elim
  | putfield i =>
    obtain ⟨x, -, hI⟩ := Option.bind_eq_some_iff.mp (show (Option.bind _ (fun e : Nat × Nat × Bool => if fin e.1 && !(knd k == 2 && ownOf k == e.1 / 128 && !e.2.2) then none else pkI e.1)) = some I from hr)
    split at hI
    · cases hI
    · rcases pkI_inv hI with ⟨-, rfl⟩ | ⟨-, rfl⟩ | ⟨-, rfl⟩ | ⟨-, rfl⟩ <;> exact he.elim
  | getstatic i =>
    obtain ⟨x, -, hI⟩ := Option.map_eq_some_iff.mp (show (Option.map (fun e : Nat × Nat × Bool => if e.1 < 1000 then Instr.getstatic e.1 else .iconst ((e.1 - 1000 : Nat) : Int)) _) = some I from hr)
    split at hI <;> subst hI <;> exact he.elim
  | new i =>
    obtain ⟨x, -, rfl⟩ := Option.map_eq_some_iff.mp (show (Option.map (fun e : Nat × Nat => Instr.new e.1) _) = some I from hr)
    exact he.elim
  | anewarray i =>
    obtain ⟨x, -, rfl⟩ := Option.map_eq_some_iff.mp (show (Option.map (fun e : Nat × Nat => Instr.anewarray e.1) _) = some I from hr)
    exact he.elim
  | multianewarray i dd =>
    obtain ⟨x, -, rfl⟩ := Option.map_eq_some_iff.mp (show (Option.map (fun e : Nat × Nat => Instr.multianewarray e.1 dd) _) = some I from hr)
    exact he.elim
  | checkcast i =>
    obtain ⟨x, -, rfl⟩ := Option.map_eq_some_iff.mp (show (Option.map (fun e : Nat × Nat => Instr.checkcast e.1) _) = some I from hr)
    exact he.elim
  | ldc i =>
    simp only [rs] at hr
    split at hr
    · cases hr; exact he.elim
    · obtain ⟨x, -, rfl⟩ := Option.map_eq_some_iff.mp hr
      exact he.elim
  | ldc_w i =>
    simp only [rs] at hr
    split at hr
    · cases hr; exact he.elim
    · obtain ⟨x, -, rfl⟩ := Option.map_eq_some_iff.mp hr
      exact he.elim
  | ldc2_w i =>
    obtain ⟨x, -, rfl⟩ := Option.map_eq_some_iff.mp (show (Option.map (fun e : Nat × Nat => Instr.ldc2_w e.1) _) = some I from hr)
    exact he.elim
  | invokevirtual i =>
    obtain ⟨x, -, hI⟩ := Option.bind_eq_some_iff.mp (show (Option.bind _ (fun e : Nat × Nat × Bool => if e.1 = 1002 then some (Instr.invokestatic 1) else if e.1 = 1003 then some (.invokestatic 2) else if knd e.1 = 1 then some (.invokevirtual e.1) else none)) = some I from hr)
    split at hI
    · cases hI; exact he.elim
    · split at hI
      · cases hI; exact he.elim
      · split at hI <;> cases hI
        exact he.elim
  | invokestatic i =>
    obtain ⟨x, -, hI⟩ := Option.bind_eq_some_iff.mp (show (Option.bind _ (fun e : Nat × Nat × Bool => if e.1 = 1001 then some (Instr.invokestatic 0) else if e.1 = 1004 then some (.invokestatic 3) else if e.1 = 1005 then some (.invokestatic 4) else if knd e.1 = 0 then some (.invokevirtual e.1) else none)) = some I from hr)
    split at hI
    · cases hI; exact he.elim
    · split at hI
      · cases hI; exact he.elim
      · split at hI
        · cases hI; exact he.elim
        · split at hI <;> cases hI
          exact he.elim
  | invokespecial i =>
    obtain ⟨x, -, hI⟩ := Option.bind_eq_some_iff.mp (show (Option.bind _ (fun e : Nat × Nat × Bool => if e.1 = 1000 then some (Instr.invokespecial 0) else if knd e.1 = 2 then some (.invokevirtual e.1) else none)) = some I from hr)
    split at hI
    · cases hI; exact he.elim
    · split at hI <;> cases hI
      exact he.elim
  | _ =>
    first
      | exact nomatch (show (none : Option Instr) = some I from hr)
      | (cases hr; exact he.elim)
