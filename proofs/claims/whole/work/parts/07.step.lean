/-! every step that is no call -/
section STEP2
variable {p : Program} {l : Launch} {e : Env} {R : Room} {s : State} {m : MethodId} {args : Array Value} {below : List Frame} {meth : Method} {c : Code} {H : Heap} {locs : List Loc} {cells slots : Nat} {Q : State → Prop}
variable {D : Dk} {G : Nat → Option Nat} {d k pc : Nat} {ls : Array Slot} {lo : List (Option MV)} {st : List MV} {h : Hp}
/-- what is to be shown behind a step -/
def Kk (D : Dk) (G : Nat → Option Nat) (p : Program) (l : Launch) (e : Env) (R : Room) (s : State) (m : MethodId) (args : Array Value) (below : List Frame) (meth : Method) (c : Code) (cells slots : Nat) (Q : State → Prop) (h : Hp) (z : SR) : Prop :=
  ∀ (ls2 : Array Slot) (H2 : Heap) (locs2 : List Loc), LR ls2 z.2.1 → (∀ v, some v ∈ z.2.1 → vok v) → (∀ v ∈ z.2.2.1, vok v) → Rel D G z.2.2.2 s H2 → (∀ q ∈ locs2, D.2.2.2 ≤ q.base) → W p l e R s m args below meth c H2 locs2 (cells + (NX z.2.2.2 - NX h)) (slots + (SL z.2.2.2 - SL h)) Q (F0 m z.1 ls2 (z.2.2.1.map cv))
/-- what holds ahead of a step -/
def Pr (D : Dk) (G : Nat → Option Nat) (s : State) (H : Heap) (locs : List Loc) (ls : Array Slot) (lo : List (Option MV)) (st : List MV) (h : Hp) : Prop :=
  LR ls lo ∧ (∀ v, some v ∈ lo → vok v) ∧ (∀ v ∈ st, vok v) ∧ Rel D G h s H ∧ (∀ q ∈ locs, D.2.2.2 ≤ q.base)
theorem st_push {v : MV} {pc' : Nat} (P : Pr D G s H locs ls lo st h) (hv : vok v) (kk : Kk D G p l e R s m args below meth c cells slots Q h (pc', lo, v :: st, h)) : W p l e R s m args below meth c H locs cells slots Q (F0 m pc' ls (cv v :: st.map cv)) :=
  W0 (kk ls H locs P.1 P.2.1 (fun w hw => (List.mem_cons.mp hw).elim (fun q => by rw [q]; exact hv) (P.2.2.1 w)) P.2.2.2.1 P.2.2.2.2)
theorem st_get {v : MV} {i : Nat} (P : Pr D G s H locs ls lo st h) (hi : lo[i]? = some (some v)) : ls[i]? = some (.val (cv v)) ∧ vok v := ⟨P.1.at hi, P.2.1 v (List.mem_of_getElem? hi)⟩
theorem Pr.tail {v : MV} {r : List MV} (P : Pr D G s H locs ls lo (v :: r) h) : Pr D G s H locs ls lo r h := ⟨P.1, P.2.1, fun w hw => P.2.2.1 w (List.mem_cons_of_mem _ hw), P.2.2.2.1, P.2.2.2.2⟩
theorem Pr.hd {v : MV} {r : List MV} (P : Pr D G s H locs ls lo (v :: r) h) : vok v := P.2.2.1 v List.mem_cons_self
theorem Pr.go {pc' : Nat} (P : Pr D G s H locs ls lo st h) (kk : Kk D G p l e R s m args below meth c cells slots Q h (pc', lo, st, h)) : W p l e R s m args below meth c H locs cells slots Q (F0 m pc' ls (st.map cv)) :=
  W0 (kk ls H locs P.1 P.2.1 P.2.2.1 P.2.2.2.1 P.2.2.2.2)
theorem vok_lcl {lo : List (Option MV)} {i : Nat} (h : ∀ v, some v ∈ lo → vok v) : ∀ v, some v ∈ lcl lo i → vok v := by
  intro v hv
  obtain ⟨j, hj⟩ := List.getElem?_of_mem hv
  exact h v (List.mem_of_getElem? (lcl_get hj).1)
theorem vok_set {lo : List (Option MV)} {i : Nat} {o : Option MV} (h : ∀ v, some v ∈ lo → vok v) (ho : ∀ v, o = some v → vok v) : ∀ v, some v ∈ lo.set i o → vok v := by
  intro v hv
  rcases List.mem_or_eq_of_mem_set hv with q | q
  · exact h v q
  · exact ho v q.symm
/-- a store of one place -/
theorem st_set1 {v : MV} {i pc' : Nat} {ls' : Array Slot} (P : Pr D G s H locs ls lo st h) (hv : vok v) (hi : i < lo.length) (hl : lv_has ls' lo.length ((i, cv v) :: (asc lo).filter (fun q => !(q.1 == i) && !(q.1 + 1 == i && q.2.category == 2))))
    (kk : Kk D G p l e R s m args below meth c cells slots Q h (pc', (lcl lo i).set i (some v), st, h)) : W p l e R s m args below meth c H locs cells slots Q (F0 m pc' ls' (st.map cv)) :=
  W0 (kk ls' H locs (LR.set1 hi hl) (vok_set (vok_lcl P.2.1) (fun w hw => by cases hw; exact hv)) P.2.2.1 P.2.2.2.1 P.2.2.2.2)
theorem st_set2 {x : Int64} {i pc' : Nat} {ls' : Array Slot} (P : Pr D G s H locs ls lo st h) (hi : i + 1 < lo.length) (hl : lv_has ls' lo.length ((i, Value.long x) :: (asc lo).filter (fun q => !(q.1 == i) && (!(q.1 == i + 1) && !(q.1 + 1 == i && q.2.category == 2)))))
    (kk : Kk D G p l e R s m args below meth c cells slots Q h (pc', ((lcl lo i).set i (some (vJ x))).set (i + 1) none, st, h)) : W p l e R s m args below meth c H locs cells slots Q (F0 m pc' ls' (st.map cv)) :=
  W0 (kk ls' H locs (LR.set2 hi hl) (vok_set (vok_set (vok_lcl P.2.1) (fun w hw => by cases hw; trivial)) (fun w hw => by cases hw)) P.2.2.1 P.2.2.2.1 P.2.2.2.2)
/-- the premises of a step, and what it shows -/
def Sok (I0 : Instr) : Prop := ∀ {p : Program} {l : Launch} {e : Env} {R : Room} {s : State} {m : MethodId} {args : Array Value} {below : List Frame} {meth : Method} {c : Code} {H : Heap} {locs : List Loc} {cells slots : Nat} {Q : State → Prop} {D : Dk} {G : Nat → Option Nat} {d k pc : Nat} {ls : Array Slot} {lo : List (Option MV)} {st : List MV} {h : Hp} {I : Instr} {len : Nat} {z : SR},
  FrK D G p s m args meth c k → Pr D G s H locs ls lo st h → lo.length = mxl k → decode (codeOf k) pc = .ok (I0, len) → lenOk I0 len = true → rs k pc I0 = some I → sx G d I (pc + len) lo st h = some z → (cells + (NX z.2.2.2 - NX h) ≤ R.cells ∧ slots + (SL z.2.2.2 - SL h) ≤ R.slots) → (d ≤ R.frames ∧ 40 * d ≤ R.locals) →
  Kk D G p l e R s m args below meth c cells slots Q h z → W p l e R s m args below meth c H locs cells slots Q (F0 m pc ls (st.map cv))
theorem len_of {I0 : Instr} {len n : Nat} (h : lenOk I0 len = true) (hI : ∀ x, lenOk I0 x = (x == n)) : len = n := by
  rw [hI, beq_iff_eq] at h; exact h
theorem s_aconst_null : Sok (.aconst_null) := by
  intro p l e R s m args below meth c H locs cells slots Q D G d k pc ls lo st h I len z F P hml hd hl hr hx hroom hRd kk
  cases hr
  obtain rfl := len_of (n := 1) hl (fun _ => rfl)
  cases hx
  exact lv_null F.1 F.2.1 hd (st_push (v := vR none) P trivial kk)
theorem s_iconst (n : Int) : Sok (.iconst n) := by
  intro p l e R s m args below meth c H locs cells slots Q D G d k pc ls lo st h I len z F P hml hd hl hr hx hroom hRd kk
  cases hr
  obtain rfl := len_of (n := 1) hl (fun _ => rfl)
  obtain ⟨b, hx⟩ := grd_inv hx
  cases hx
  exact lv_iconst F.1 F.2.1 hd rfl (st_push (v := vI n) P b kk)
theorem s_bipush (n : Int) : Sok (.bipush n) := by
  intro p l e R s m args below meth c H locs cells slots Q D G d k pc ls lo st h I len z F P hml hd hl hr hx hroom hRd kk
  cases hr
  obtain rfl := len_of (n := 2) hl (fun _ => rfl)
  obtain ⟨⟨b1, b2⟩, hx⟩ := grd_inv hx
  cases hx
  refine lv_bipush F.1 F.2.1 hd (v := i32 n) ?_ (st_push (v := vI n) P ⟨by omega, by omega⟩ kk)
  rw [← Int32.toInt_inj, i32_ok ⟨by omega, by omega⟩]
  show (Int8.ofInt n).toInt32.toInt = n
  rw [Int8.toInt_toInt32, Int8.toInt_ofInt_of_le (by omega) (by omega)]
theorem s_sipush (n : Int) : Sok (.sipush n) := by
  intro p l e R s m args below meth c H locs cells slots Q D G d k pc ls lo st h I len z F P hml hd hl hr hx hroom hRd kk
  cases hr
  obtain rfl := len_of (n := 3) hl (fun _ => rfl)
  obtain ⟨⟨b1, b2⟩, hx⟩ := grd_inv hx
  cases hx
  refine lv_sipush F.1 F.2.1 hd (v := i32 n) ?_ (st_push (v := vI n) P ⟨by omega, by omega⟩ kk)
  rw [← Int32.toInt_inj, i32_ok ⟨by omega, by omega⟩]
  show (Int16.ofInt n).toInt32.toInt = n
  rw [Int16.toInt_toInt32, Int16.toInt_ofInt_of_le (by omega) (by omega)]
theorem s_lconst (n : Fin 2) : Sok (.lconst n) := by
  intro p l e R s m args below meth c H locs cells slots Q D G d k pc ls lo st h I len z F P hml hd hl hr hx hroom hRd kk
  cases hr
  obtain rfl := len_of (n := 1) hl (fun _ => rfl)
  cases hx
  refine lv_lconst F.1 F.2.1 hd (v := if n.val = 0 then 0 else 1) ?_ (st_push (v := vJ (if n.val = 0 then 0 else 1)) P trivial kk)
  match n with
  | 0 => rfl
  | 1 => rfl
theorem s_iload (i : Nat) : Sok (.iload i) := by
  intro p l e R s m args below meth c H locs cells slots Q D G d k pc ls lo st h I len z F P hml hd hl hr hx hroom hRd kk
  cases hr
  obtain rfl := len_of (n := 2) hl (fun _ => rfl)
  obtain ⟨x, g, hx⟩ := getI_inv hx
  cases hx
  exact lv_iload F.1 F.2.1 hd (st_get P g).1 (st_push (v := vI x) P (st_get P g).2 kk)
theorem s_lload (i : Nat) : Sok (.lload i) := by
  intro p l e R s m args below meth c H locs cells slots Q D G d k pc ls lo st h I len z F P hml hd hl hr hx hroom hRd kk
  cases hr
  obtain rfl := len_of (n := 2) hl (fun _ => rfl)
  obtain ⟨x, g, hx⟩ := getJ_inv hx
  cases hx
  exact lv_lload F.1 F.2.1 hd (st_get P g).1 (st_push (v := vJ x) P trivial kk)
theorem s_aload (i : Nat) : Sok (.aload i) := by
  intro p l e R s m args below meth c H locs cells slots Q D G d k pc ls lo st h I len z F P hml hd hl hr hx hroom hRd kk
  cases hr
  obtain rfl := len_of (n := 2) hl (fun _ => rfl)
  obtain ⟨x, g, hx⟩ := getR_inv hx
  cases hx
  cases x with
  | none => exact lv_aloadN F.1 F.2.1 hd (st_get P g).1 (st_push (v := vR none) P trivial kk)
  | some x => exact lv_aload F.1 F.2.1 hd (st_get P g).1 (st_push (v := vR (some x)) P trivial kk)
theorem s_istore (i : Nat) : Sok (.istore i) := by
  intro p l e R s m args below meth c H locs cells slots Q D G d k pc ls lo st h I len z F P hml hd hl hr hx hroom hRd kk
  cases hr
  obtain rfl := len_of (n := 2) hl (fun _ => rfl)
  obtain ⟨x, r, rfl, hx⟩ := popI_inv hx
  obtain ⟨b, hx⟩ := grd_inv hx
  cases hx
  exact lv_istore F.1 F.2.1 hd P.1 b rfl (fun ls2 hl2 => st_set1 (v := vI x) P.tail P.hd b hl2 kk)
theorem s_lstore (i : Nat) : Sok (.lstore i) := by
  intro p l e R s m args below meth c H locs cells slots Q D G d k pc ls lo st h I len z F P hml hd hl hr hx hroom hRd kk
  cases hr
  obtain rfl := len_of (n := 2) hl (fun _ => rfl)
  obtain ⟨x, r, rfl, hx⟩ := popJ_inv hx
  obtain ⟨b, hx⟩ := grd_inv hx
  cases hx
  exact lv_lstore F.1 F.2.1 hd P.1 b rfl (fun ls2 hl2 => st_set2 P.tail b hl2 kk)
theorem s_astore (i : Nat) : Sok (.astore i) := by
  intro p l e R s m args below meth c H locs cells slots Q D G d k pc ls lo st h I len z F P hml hd hl hr hx hroom hRd kk
  cases hr
  obtain rfl := len_of (n := 2) hl (fun _ => rfl)
  obtain ⟨x, r, rfl, hx⟩ := popR_inv hx
  obtain ⟨b, hx⟩ := grd_inv hx
  cases hx
  cases x with
  | none => exact lv_astoreN F.1 F.2.1 hd P.1 b rfl (fun ls2 hl2 => st_set1 (v := vR none) P.tail trivial b hl2 kk)
  | some x => exact lv_astore F.1 F.2.1 hd P.1 b rfl (fun ls2 hl2 => st_set1 (v := vR (some x)) P.tail trivial b hl2 kk)
theorem s_iload_n (i : Fin 4) : Sok (.iload_n i) := by
  intro p l e R s m args below meth c H locs cells slots Q D G d k pc ls lo st h I len z F P hml hd hl hr hx hroom hRd kk
  cases hr
  obtain rfl := len_of (n := 1) hl (fun _ => rfl)
  obtain ⟨x, g, hx⟩ := getI_inv hx
  cases hx
  exact lv_iload_n F.1 F.2.1 hd rfl (st_get P g).1 (st_push (v := vI x) P (st_get P g).2 kk)
theorem s_lload_n (i : Fin 4) : Sok (.lload_n i) := by
  intro p l e R s m args below meth c H locs cells slots Q D G d k pc ls lo st h I len z F P hml hd hl hr hx hroom hRd kk
  cases hr
  obtain rfl := len_of (n := 1) hl (fun _ => rfl)
  obtain ⟨x, g, hx⟩ := getJ_inv hx
  cases hx
  exact lv_lload_n F.1 F.2.1 hd rfl (st_get P g).1 (st_push (v := vJ x) P trivial kk)
theorem s_aload_n (i : Fin 4) : Sok (.aload_n i) := by
  intro p l e R s m args below meth c H locs cells slots Q D G d k pc ls lo st h I len z F P hml hd hl hr hx hroom hRd kk
  cases hr
  obtain rfl := len_of (n := 1) hl (fun _ => rfl)
  obtain ⟨x, g, hx⟩ := getR_inv hx
  cases hx
  cases x with
  | none => exact lv_aload_nN F.1 F.2.1 hd rfl (st_get P g).1 (st_push (v := vR none) P trivial kk)
  | some x => exact lv_aload_n F.1 F.2.1 hd rfl (st_get P g).1 (st_push (v := vR (some x)) P trivial kk)
theorem s_istore_n (i : Fin 4) : Sok (.istore_n i) := by
  intro p l e R s m args below meth c H locs cells slots Q D G d k pc ls lo st h I len z F P hml hd hl hr hx hroom hRd kk
  cases hr
  obtain rfl := len_of (n := 1) hl (fun _ => rfl)
  obtain ⟨x, r, rfl, hx⟩ := popI_inv hx
  obtain ⟨b, hx⟩ := grd_inv hx
  cases hx
  exact lv_istore_n F.1 F.2.1 hd rfl P.1 b rfl (fun ls2 hl2 => st_set1 (v := vI x) P.tail P.hd b hl2 kk)
theorem s_lstore_n (i : Fin 4) : Sok (.lstore_n i) := by
  intro p l e R s m args below meth c H locs cells slots Q D G d k pc ls lo st h I len z F P hml hd hl hr hx hroom hRd kk
  cases hr
  obtain rfl := len_of (n := 1) hl (fun _ => rfl)
  obtain ⟨x, r, rfl, hx⟩ := popJ_inv hx
  obtain ⟨b, hx⟩ := grd_inv hx
  cases hx
  exact lv_lstore_n F.1 F.2.1 hd rfl P.1 b rfl (fun ls2 hl2 => st_set2 P.tail b hl2 kk)
theorem s_astore_n (i : Fin 4) : Sok (.astore_n i) := by
  intro p l e R s m args below meth c H locs cells slots Q D G d k pc ls lo st h I len z F P hml hd hl hr hx hroom hRd kk
  cases hr
  obtain rfl := len_of (n := 1) hl (fun _ => rfl)
  obtain ⟨x, r, rfl, hx⟩ := popR_inv hx
  obtain ⟨b, hx⟩ := grd_inv hx
  cases hx
  cases x with
  | none => exact lv_astore_nN F.1 F.2.1 hd rfl P.1 b rfl (fun ls2 hl2 => st_set1 (v := vR none) P.tail trivial b hl2 kk)
  | some x => exact lv_astore_n F.1 F.2.1 hd rfl P.1 b rfl (fun ls2 hl2 => st_set1 (v := vR (some x)) P.tail trivial b hl2 kk)
theorem s_iinc (i : Nat) (n : Int) : Sok (.iinc i n) := by
  intro p l e R s m args below meth c H locs cells slots Q D G d k pc ls lo st h I len z F P hml hd hl hr hx hroom hRd kk
  cases hr
  obtain rfl := len_of (n := 3) hl (fun _ => rfl)
  obtain ⟨x, g, hx⟩ := getI_inv hx
  obtain ⟨b, hx⟩ := grd_inv hx
  cases hx
  obtain ⟨j, hj⟩ := List.getElem?_of_mem (mem_asc.mpr ⟨vI x, g, rfl⟩ : (i, cv (vI x)) ∈ asc lo)
  exact lv_iinc (v := i32 (x + n)) F.1 F.2.1 hd P.1 hj (i32_add x n) (List.getElem?_eq_some_iff.mp g).1 rfl (fun ls2 hl2 => st_set1 (v := vI (x + n)) P b (List.getElem?_eq_some_iff.mp g).1 hl2 kk)
theorem s_iadd : Sok (.iadd) := by
  intro p l e R s m args below meth c H locs cells slots Q D G d k pc ls lo st h I len z F P hml hd hl hr hx hroom hRd kk
  cases hr
  obtain rfl := len_of (n := 1) hl (fun _ => rfl)
  obtain ⟨y, r, rfl, hx⟩ := popI_inv hx
  obtain ⟨x, r, rfl, hx⟩ := popI_inv hx
  obtain ⟨b, hx⟩ := grd_inv hx
  cases hx
  refine lv_iadd F.1 F.2.1 hd ?_
  rw [i32_add]
  exact st_push (v := vI (x + y)) P.tail.tail b kk
theorem s_isub : Sok (.isub) := by
  intro p l e R s m args below meth c H locs cells slots Q D G d k pc ls lo st h I len z F P hml hd hl hr hx hroom hRd kk
  cases hr
  obtain rfl := len_of (n := 1) hl (fun _ => rfl)
  obtain ⟨y, r, rfl, hx⟩ := popI_inv hx
  obtain ⟨x, r, rfl, hx⟩ := popI_inv hx
  obtain ⟨b, hx⟩ := grd_inv hx
  cases hx
  refine lv_isub F.1 F.2.1 hd ?_
  rw [i32_sub]
  exact st_push (v := vI (x - y)) P.tail.tail b kk
theorem s_imul : Sok (.imul) := by
  intro p l e R s m args below meth c H locs cells slots Q D G d k pc ls lo st h I len z F P hml hd hl hr hx hroom hRd kk
  cases hr
  obtain rfl := len_of (n := 1) hl (fun _ => rfl)
  obtain ⟨y, r, rfl, hx⟩ := popI_inv hx
  obtain ⟨x, r, rfl, hx⟩ := popI_inv hx
  obtain ⟨b, hx⟩ := grd_inv hx
  cases hx
  refine lv_imul F.1 F.2.1 hd ?_
  rw [i32_mul]
  exact st_push (v := vI (x * y)) P.tail.tail b kk
theorem s_idiv : Sok (.idiv) := by
  intro p l e R s m args below meth c H locs cells slots Q D G d k pc ls lo st h I len z F P hml hd hl hr hx hroom hRd kk
  cases hr
  obtain rfl := len_of (n := 1) hl (fun _ => rfl)
  obtain ⟨y, r, rfl, hx⟩ := popI_inv hx
  obtain ⟨x, r, rfl, hx⟩ := popI_inv hx
  obtain ⟨b, hx⟩ := grd_inv hx
  cases hx
  have hy : InR y := P.hd
  have hz : InR x := P.tail.hd
  refine lv_idiv F.1 F.2.1 hd (fun q => ?_) ?_
  · rw [← i32_0, i32_eq hy InR_0] at q; omega
  · rw [i32_div hz hy]
    exact st_push (v := vI (x.tdiv y)) P.tail.tail (tdiv_in hz b) kk
theorem s_irem : Sok (.irem) := by
  intro p l e R s m args below meth c H locs cells slots Q D G d k pc ls lo st h I len z F P hml hd hl hr hx hroom hRd kk
  cases hr
  obtain rfl := len_of (n := 1) hl (fun _ => rfl)
  obtain ⟨y, r, rfl, hx⟩ := popI_inv hx
  obtain ⟨x, r, rfl, hx⟩ := popI_inv hx
  obtain ⟨b, hx⟩ := grd_inv hx
  cases hx
  have hy : InR y := P.hd
  have hz : InR x := P.tail.hd
  refine lv_irem F.1 F.2.1 hd (fun q => ?_) ?_
  · rw [← i32_0, i32_eq hy InR_0] at q; omega
  · rw [i32_rem hz hy]
    exact st_push (v := vI (x.tmod y)) P.tail.tail (tmod_in hz b) kk
theorem s_iand : Sok (.iand) := by
  intro p l e R s m args below meth c H locs cells slots Q D G d k pc ls lo st h I len z F P hml hd hl hr hx hroom hRd kk
  cases hr
  obtain rfl := len_of (n := 1) hl (fun _ => rfl)
  obtain ⟨y, r, rfl, hx⟩ := popI_inv hx
  obtain ⟨x, r, rfl, hx⟩ := popI_inv hx
  cases hx
  refine lv_iand F.1 F.2.1 hd ?_
  have q := st_push (v := vI (i32 x &&& i32 y).toInt) P.tail.tail (i32_in _) kk
  rwa [show cv (vI (i32 x &&& i32 y).toInt) = .int (i32 x &&& i32 y) from congrArg Value.int (i32_of _)] at q
theorem s_ior : Sok (.ior) := by
  intro p l e R s m args below meth c H locs cells slots Q D G d k pc ls lo st h I len z F P hml hd hl hr hx hroom hRd kk
  cases hr
  obtain rfl := len_of (n := 1) hl (fun _ => rfl)
  obtain ⟨y, r, rfl, hx⟩ := popI_inv hx
  obtain ⟨x, r, rfl, hx⟩ := popI_inv hx
  cases hx
  refine lv_ior F.1 F.2.1 hd ?_
  have q := st_push (v := vI (i32 x ||| i32 y).toInt) P.tail.tail (i32_in _) kk
  rwa [show cv (vI (i32 x ||| i32 y).toInt) = .int (i32 x ||| i32 y) from congrArg Value.int (i32_of _)] at q
theorem s_ixor : Sok (.ixor) := by
  intro p l e R s m args below meth c H locs cells slots Q D G d k pc ls lo st h I len z F P hml hd hl hr hx hroom hRd kk
  cases hr
  obtain rfl := len_of (n := 1) hl (fun _ => rfl)
  obtain ⟨y, r, rfl, hx⟩ := popI_inv hx
  obtain ⟨x, r, rfl, hx⟩ := popI_inv hx
  cases hx
  refine lv_ixor F.1 F.2.1 hd ?_
  have q := st_push (v := vI (i32 x ^^^ i32 y).toInt) P.tail.tail (i32_in _) kk
  rwa [show cv (vI (i32 x ^^^ i32 y).toInt) = .int (i32 x ^^^ i32 y) from congrArg Value.int (i32_of _)] at q
theorem s_ishl : Sok (.ishl) := by
  intro p l e R s m args below meth c H locs cells slots Q D G d k pc ls lo st h I len z F P hml hd hl hr hx hroom hRd kk
  cases hr
  obtain rfl := len_of (n := 1) hl (fun _ => rfl)
  obtain ⟨y, r, rfl, hx⟩ := popI_inv hx
  obtain ⟨x, r, rfl, hx⟩ := popI_inv hx
  cases hx
  refine lv_ishl F.1 F.2.1 hd ?_
  have q := st_push (v := vI (i32 x <<< (i32 y &&& 31)).toInt) P.tail.tail (i32_in _) kk
  rwa [show cv (vI (i32 x <<< (i32 y &&& 31)).toInt) = .int (i32 x <<< (i32 y &&& 31)) from congrArg Value.int (i32_of _)] at q
theorem s_ishr : Sok (.ishr) := by
  intro p l e R s m args below meth c H locs cells slots Q D G d k pc ls lo st h I len z F P hml hd hl hr hx hroom hRd kk
  cases hr
  obtain rfl := len_of (n := 1) hl (fun _ => rfl)
  obtain ⟨y, r, rfl, hx⟩ := popI_inv hx
  obtain ⟨x, r, rfl, hx⟩ := popI_inv hx
  cases hx
  refine lv_ishr F.1 F.2.1 hd ?_
  have q := st_push (v := vI (i32 x >>> (i32 y &&& 31)).toInt) P.tail.tail (i32_in _) kk
  rwa [show cv (vI (i32 x >>> (i32 y &&& 31)).toInt) = .int (i32 x >>> (i32 y &&& 31)) from congrArg Value.int (i32_of _)] at q
theorem s_iushr : Sok (.iushr) := by
  intro p l e R s m args below meth c H locs cells slots Q D G d k pc ls lo st h I len z F P hml hd hl hr hx hroom hRd kk
  cases hr
  obtain rfl := len_of (n := 1) hl (fun _ => rfl)
  obtain ⟨y, r, rfl, hx⟩ := popI_inv hx
  obtain ⟨x, r, rfl, hx⟩ := popI_inv hx
  cases hx
  exact lv_iushr F.1 F.2.1 hd (i32_of _).symm (st_push (v := vI ((i32 x).toUInt32 >>> ((i32 y).toUInt32 &&& Int32.toUInt32 31)).toInt32.toInt) P.tail.tail (i32_in _) kk)
theorem s_i2b : Sok (.i2b) := by
  intro p l e R s m args below meth c H locs cells slots Q D G d k pc ls lo st h I len z F P hml hd hl hr hx hroom hRd kk
  cases hr
  obtain rfl := len_of (n := 1) hl (fun _ => rfl)
  obtain ⟨x, r, rfl, hx⟩ := popI_inv hx
  cases hx
  exact lv_i2b F.1 F.2.1 hd (i32_of _).symm (st_push (v := vI (i32 x).toInt8.toInt32.toInt) P.tail (i32_in _) kk)
theorem s_i2c : Sok (.i2c) := by
  intro p l e R s m args below meth c H locs cells slots Q D G d k pc ls lo st h I len z F P hml hd hl hr hx hroom hRd kk
  cases hr
  obtain rfl := len_of (n := 1) hl (fun _ => rfl)
  obtain ⟨x, r, rfl, hx⟩ := popI_inv hx
  cases hx
  exact lv_i2c F.1 F.2.1 hd (i32_of _).symm (st_push (v := vI ((i32 x).toUInt32 % 65536).toInt32.toInt) P.tail (i32_in _) kk)
theorem s_i2l : Sok (.i2l) := by
  intro p l e R s m args below meth c H locs cells slots Q D G d k pc ls lo st h I len z F P hml hd hl hr hx hroom hRd kk
  cases hr
  obtain rfl := len_of (n := 1) hl (fun _ => rfl)
  obtain ⟨x, r, rfl, hx⟩ := popI_inv hx
  cases hx
  exact lv_i2l F.1 F.2.1 hd rfl (st_push (v := vJ (i32 x).toInt64) P.tail trivial kk)
theorem s_l2i : Sok (.l2i) := by
  intro p l e R s m args below meth c H locs cells slots Q D G d k pc ls lo st h I len z F P hml hd hl hr hx hroom hRd kk
  cases hr
  obtain rfl := len_of (n := 1) hl (fun _ => rfl)
  obtain ⟨x, r, rfl, hx⟩ := popJ_inv hx
  cases hx
  exact lv_l2i F.1 F.2.1 hd (i32_of _).symm (st_push (v := vI x.toInt32.toInt) P.tail (i32_in _) kk)
theorem s_land : Sok (.land) := by
  intro p l e R s m args below meth c H locs cells slots Q D G d k pc ls lo st h I len z F P hml hd hl hr hx hroom hRd kk
  cases hr
  obtain rfl := len_of (n := 1) hl (fun _ => rfl)
  obtain ⟨y, r, rfl, hx⟩ := popJ_inv hx
  obtain ⟨x, r, rfl, hx⟩ := popJ_inv hx
  cases hx
  exact lv_land F.1 F.2.1 hd (st_push (v := vJ (x &&& y)) P.tail.tail trivial kk)
theorem s_lor : Sok (.lor) := by
  intro p l e R s m args below meth c H locs cells slots Q D G d k pc ls lo st h I len z F P hml hd hl hr hx hroom hRd kk
  cases hr
  obtain rfl := len_of (n := 1) hl (fun _ => rfl)
  obtain ⟨y, r, rfl, hx⟩ := popJ_inv hx
  obtain ⟨x, r, rfl, hx⟩ := popJ_inv hx
  cases hx
  exact lv_lor F.1 F.2.1 hd (st_push (v := vJ (x ||| y)) P.tail.tail trivial kk)
theorem s_lxor : Sok (.lxor) := by
  intro p l e R s m args below meth c H locs cells slots Q D G d k pc ls lo st h I len z F P hml hd hl hr hx hroom hRd kk
  cases hr
  obtain rfl := len_of (n := 1) hl (fun _ => rfl)
  obtain ⟨y, r, rfl, hx⟩ := popJ_inv hx
  obtain ⟨x, r, rfl, hx⟩ := popJ_inv hx
  cases hx
  exact lv_lxor F.1 F.2.1 hd (st_push (v := vJ (x ^^^ y)) P.tail.tail trivial kk)
theorem s_lmul : Sok (.lmul) := by
  intro p l e R s m args below meth c H locs cells slots Q D G d k pc ls lo st h I len z F P hml hd hl hr hx hroom hRd kk
  cases hr
  obtain rfl := len_of (n := 1) hl (fun _ => rfl)
  obtain ⟨y, r, rfl, hx⟩ := popJ_inv hx
  obtain ⟨x, r, rfl, hx⟩ := popJ_inv hx
  cases hx
  exact lv_lmul F.1 F.2.1 hd (st_push (v := vJ (x * y)) P.tail.tail trivial kk)
theorem s_lshl : Sok (.lshl) := by
  intro p l e R s m args below meth c H locs cells slots Q D G d k pc ls lo st h I len z F P hml hd hl hr hx hroom hRd kk
  cases hr
  obtain rfl := len_of (n := 1) hl (fun _ => rfl)
  obtain ⟨y, r, rfl, hx⟩ := popI_inv hx
  obtain ⟨x, r, rfl, hx⟩ := popJ_inv hx
  cases hx
  exact lv_lshl F.1 F.2.1 hd rfl (st_push (v := vJ (x <<< ((i32 y).toInt64 &&& 63))) P.tail.tail trivial kk)
theorem s_lushr : Sok (.lushr) := by
  intro p l e R s m args below meth c H locs cells slots Q D G d k pc ls lo st h I len z F P hml hd hl hr hx hroom hRd kk
  cases hr
  obtain rfl := len_of (n := 1) hl (fun _ => rfl)
  obtain ⟨y, r, rfl, hx⟩ := popI_inv hx
  obtain ⟨x, r, rfl, hx⟩ := popJ_inv hx
  cases hx
  exact lv_lushr F.1 F.2.1 hd rfl (st_push (v := vJ (x.toUInt64 >>> ((i32 y).toInt64.toUInt64 &&& Int64.toUInt64 63)).toInt64) P.tail.tail trivial kk)
theorem s_lcmp : Sok (.lcmp) := by
  intro p l e R s m args below meth c H locs cells slots Q D G d k pc ls lo st h I len z F P hml hd hl hr hx hroom hRd kk
  cases hr
  obtain rfl := len_of (n := 1) hl (fun _ => rfl)
  obtain ⟨y, r, rfl, hx⟩ := popJ_inv hx
  obtain ⟨x, r, rfl, hx⟩ := popJ_inv hx
  cases hx
  refine W.lcmp F.1 F.2.1 hd ?_
  have q := st_push (v := vI (if x > y then 1 else if x = y then 0 else -1)) P.tail.tail (by show InR _; split <;> (try split) <;> exact ⟨by decide, by decide⟩) kk
  rwa [show cv (vI (if x > y then 1 else if x = y then 0 else -1)) = .int (lg_cmp x y) from congrArg Value.int (by unfold lg_cmp; split <;> (try split) <;> rfl)] at q
theorem s_dup : Sok (.dup) := by
  intro p l e R s m args below meth c H locs cells slots Q D G d k pc ls lo st h I len z F P hml hd hl hr hx hroom hRd kk
  cases hr
  obtain rfl := len_of (n := 1) hl (fun _ => rfl)
  match st, P, hx with
  | .inl x :: r, P, hx => cases hx; exact lv_dup F.1 F.2.1 hd (cv_cat1 (v := vI x) (fun _ q => by cases q)) (W0 (kk ls H locs P.1 P.2.1 (fun w hw => (List.mem_cons.mp hw).elim (fun q => by rw [q]; exact P.hd) (P.2.2.1 w)) P.2.2.2.1 P.2.2.2.2))
  | .inr (.inr x) :: r, P, hx => cases hx; exact lv_dup F.1 F.2.1 hd (cv_cat1 (v := vR x) (fun _ q => by cases q)) (W0 (kk ls H locs P.1 P.2.1 (fun w hw => (List.mem_cons.mp hw).elim (fun q => by rw [q]; trivial) (P.2.2.1 w)) P.2.2.2.1 P.2.2.2.2))
theorem s_dup2 : Sok (.dup2) := by
  intro p l e R s m args below meth c H locs cells slots Q D G d k pc ls lo st h I len z F P hml hd hl hr hx hroom hRd kk
  cases hr
  obtain rfl := len_of (n := 1) hl (fun _ => rfl)
  obtain ⟨y, r, rfl, hx⟩ := popI_inv hx
  obtain ⟨x, r, rfl, hx⟩ := popR_inv hx
  cases hx
  exact lv_dup2_11 F.1 F.2.1 hd (cv_cat1 (v := vI y) (fun _ q => by cases q)) (cv_cat1 (v := vR x) (fun _ q => by cases q)) (W0 (kk ls H locs P.1 P.2.1 (fun w hw => (List.mem_cons.mp hw).elim (fun q => by rw [q]; exact P.hd) (fun hw => (List.mem_cons.mp hw).elim (fun q => by rw [q]; trivial) (P.2.2.1 w))) P.2.2.2.1 P.2.2.2.2))
theorem s_pop : Sok (.pop) := by
  intro p l e R s m args below meth c H locs cells slots Q D G d k pc ls lo st h I len z F P hml hd hl hr hx hroom hRd kk
  cases hr
  obtain rfl := len_of (n := 1) hl (fun _ => rfl)
  match st, P, hx with
  | .inl x :: r, P, hx => cases hx; exact lv_pop F.1 F.2.1 hd (cv_cat1 (v := vI x) (fun _ q => by cases q)) (P.tail.go kk)
  | .inr (.inr x) :: r, P, hx => cases hx; exact lv_pop F.1 F.2.1 hd (cv_cat1 (v := vR x) (fun _ q => by cases q)) (P.tail.go kk)
theorem s_goto (off : Int) : Sok (.goto off) := by
  intro p l e R s m args below meth c H locs cells slots Q D G d k pc ls lo st h I len z F P hml hd hl hr hx hroom hRd kk
  cases hr
  obtain rfl := len_of (n := 3) hl (fun _ => rfl)
  obtain ⟨b, hx⟩ := grd_inv hx
  cases hx
  exact lv_goto F.1 F.2.1 hd (tgt_of b) (P.go kk)
theorem s_ifCond (cc : ClassFile.Cond) (off : Int) : Sok (.ifCond cc off) := by
  intro p l e R s m args below meth c H locs cells slots Q D G d k pc ls lo st h I len z F P hml hd hl hr hx hroom hRd kk
  cases hr
  obtain rfl := len_of (n := 3) hl (fun _ => rfl)
  obtain ⟨x, r, rfl, hx⟩ := popI_inv hx
  obtain ⟨b, hx⟩ := grd_inv hx
  cases hx
  have hX : InR x := P.hd
  cases cc with
  | eq => exact lv_if_eq F.1 F.2.1 hd (tgt_of b) (fun q => by rw [← i32_0, i32_eq hX InR_0] at q; rw [if_pos (show cmpI .eq x 0 = true by simp [cmpI]; omega)] at kk; exact P.tail.go kk) (fun q => by rw [← i32_0, i32_eq hX InR_0] at q; rw [if_neg (show ¬ cmpI .eq x 0 = true by simp [cmpI]; omega)] at kk; exact P.tail.go kk)
  | ne => exact lv_if_ne F.1 F.2.1 hd (tgt_of b) (fun q => by rw [← i32_0, i32_eq hX InR_0] at q; rw [if_pos (show cmpI .ne x 0 = true by simp [cmpI]; omega)] at kk; exact P.tail.go kk) (fun q => by rw [← i32_0, i32_eq hX InR_0] at q; rw [if_neg (show ¬ cmpI .ne x 0 = true by simp [cmpI]; omega)] at kk; exact P.tail.go kk)
  | lt => exact lv_if_lt F.1 F.2.1 hd (tgt_of b) (fun q => by rw [← i32_0, i32_lt hX InR_0] at q; rw [if_pos (show cmpI .lt x 0 = true by simp [cmpI]; omega)] at kk; exact P.tail.go kk) (fun q => by rw [← i32_0, i32_lt hX InR_0] at q; rw [if_neg (show ¬ cmpI .lt x 0 = true by simp [cmpI]; omega)] at kk; exact P.tail.go kk)
  | ge => exact lv_if_ge F.1 F.2.1 hd (tgt_of b) (fun q => by rw [← i32_0, i32_le InR_0 hX] at q; rw [if_pos (show cmpI .ge x 0 = true by simp [cmpI]; omega)] at kk; exact P.tail.go kk) (fun q => by rw [← i32_0, i32_le InR_0 hX] at q; rw [if_neg (show ¬ cmpI .ge x 0 = true by simp [cmpI]; omega)] at kk; exact P.tail.go kk)
  | gt => exact lv_if_gt F.1 F.2.1 hd (tgt_of b) (fun q => by rw [← i32_0, i32_lt InR_0 hX] at q; rw [if_pos (show cmpI .gt x 0 = true by simp [cmpI]; omega)] at kk; exact P.tail.go kk) (fun q => by rw [← i32_0, i32_lt InR_0 hX] at q; rw [if_neg (show ¬ cmpI .gt x 0 = true by simp [cmpI]; omega)] at kk; exact P.tail.go kk)
  | le => exact lv_if_le F.1 F.2.1 hd (tgt_of b) (fun q => by rw [← i32_0, i32_le hX InR_0] at q; rw [if_pos (show cmpI .le x 0 = true by simp [cmpI]; omega)] at kk; exact P.tail.go kk) (fun q => by rw [← i32_0, i32_le hX InR_0] at q; rw [if_neg (show ¬ cmpI .le x 0 = true by simp [cmpI]; omega)] at kk; exact P.tail.go kk)
theorem s_if_icmp (cc : ClassFile.Cond) (off : Int) : Sok (.if_icmp cc off) := by
  intro p l e R s m args below meth c H locs cells slots Q D G d k pc ls lo st h I len z F P hml hd hl hr hx hroom hRd kk
  cases hr
  obtain rfl := len_of (n := 3) hl (fun _ => rfl)
  obtain ⟨y, r, rfl, hx⟩ := popI_inv hx
  obtain ⟨x, r, rfl, hx⟩ := popI_inv hx
  obtain ⟨b, hx⟩ := grd_inv hx
  cases hx
  have hY : InR y := P.hd
  have hX : InR x := P.tail.hd
  cases cc with
  | eq => exact lv_icmp_eq F.1 F.2.1 hd (tgt_of b) (fun q => by rw [i32_eq hX hY] at q; rw [if_pos (show cmpI .eq x y = true by simp [cmpI]; omega)] at kk; exact P.tail.tail.go kk) (fun q => by rw [i32_eq hX hY] at q; rw [if_neg (show ¬ cmpI .eq x y = true by simp [cmpI]; omega)] at kk; exact P.tail.tail.go kk)
  | ne => exact lv_icmp_ne F.1 F.2.1 hd (tgt_of b) (fun q => by rw [i32_eq hX hY] at q; rw [if_pos (show cmpI .ne x y = true by simp [cmpI]; omega)] at kk; exact P.tail.tail.go kk) (fun q => by rw [i32_eq hX hY] at q; rw [if_neg (show ¬ cmpI .ne x y = true by simp [cmpI]; omega)] at kk; exact P.tail.tail.go kk)
  | lt => exact lv_icmp_lt F.1 F.2.1 hd (tgt_of b) (fun q => by rw [i32_lt hX hY] at q; rw [if_pos (show cmpI .lt x y = true by simp [cmpI]; omega)] at kk; exact P.tail.tail.go kk) (fun q => by rw [i32_lt hX hY] at q; rw [if_neg (show ¬ cmpI .lt x y = true by simp [cmpI]; omega)] at kk; exact P.tail.tail.go kk)
  | ge => exact lv_icmp_ge F.1 F.2.1 hd (tgt_of b) (fun q => by rw [i32_le hY hX] at q; rw [if_pos (show cmpI .ge x y = true by simp [cmpI]; omega)] at kk; exact P.tail.tail.go kk) (fun q => by rw [i32_le hY hX] at q; rw [if_neg (show ¬ cmpI .ge x y = true by simp [cmpI]; omega)] at kk; exact P.tail.tail.go kk)
  | gt => exact lv_icmp_gt F.1 F.2.1 hd (tgt_of b) (fun q => by rw [i32_lt hY hX] at q; rw [if_pos (show cmpI .gt x y = true by simp [cmpI]; omega)] at kk; exact P.tail.tail.go kk) (fun q => by rw [i32_lt hY hX] at q; rw [if_neg (show ¬ cmpI .gt x y = true by simp [cmpI]; omega)] at kk; exact P.tail.tail.go kk)
  | le => exact lv_icmp_le F.1 F.2.1 hd (tgt_of b) (fun q => by rw [i32_le hX hY] at q; rw [if_pos (show cmpI .le x y = true by simp [cmpI]; omega)] at kk; exact P.tail.tail.go kk) (fun q => by rw [i32_le hX hY] at q; rw [if_neg (show ¬ cmpI .le x y = true by simp [cmpI]; omega)] at kk; exact P.tail.tail.go kk)
theorem s_if_acmp (cc : ACond) (off : Int) : Sok (.if_acmp cc off) := by
  intro p l e R s m args below meth c H locs cells slots Q D G d k pc ls lo st h I len z F P hml hd hl hr hx hroom hRd kk
  cases hr
  obtain rfl := len_of (n := 3) hl (fun _ => rfl)
  obtain ⟨y, r, rfl, hx⟩ := popR_inv hx
  obtain ⟨x, r, rfl, hx⟩ := popR_inv hx
  obtain ⟨b, hx⟩ := grd_inv hx
  cases hx
  cases cc with
  | eq => exact lv_acmp_eq F.1 F.2.1 hd (tgt_of b) (fun q => by rw [if_pos (by simp [q])] at kk; exact P.tail.tail.go kk) (fun q => by rw [if_neg (by simp [q])] at kk; exact P.tail.tail.go kk)
  | ne => exact lv_acmp_ne F.1 F.2.1 hd (tgt_of b) (fun q => by rw [if_pos (by simp [q])] at kk; exact P.tail.tail.go kk) (fun q => by rw [if_neg (by simp [q])] at kk; exact P.tail.tail.go kk)
theorem s_ifnull (off : Int) : Sok (.ifnull off) := by
  intro p l e R s m args below meth c H locs cells slots Q D G d k pc ls lo st h I len z F P hml hd hl hr hx hroom hRd kk
  cases hr
  obtain rfl := len_of (n := 3) hl (fun _ => rfl)
  obtain ⟨x, r, rfl, hx⟩ := popR_inv hx
  obtain ⟨b, hx⟩ := grd_inv hx
  cases hx
  cases x with
  | none => exact lv_ifnullN F.1 F.2.1 hd (tgt_of b) (P.tail.go kk)
  | some x => exact lv_ifnull F.1 F.2.1 hd (P.tail.go kk)
theorem s_ifnonnull (off : Int) : Sok (.ifnonnull off) := by
  intro p l e R s m args below meth c H locs cells slots Q D G d k pc ls lo st h I len z F P hml hd hl hr hx hroom hRd kk
  cases hr
  obtain rfl := len_of (n := 3) hl (fun _ => rfl)
  obtain ⟨x, r, rfl, hx⟩ := popR_inv hx
  obtain ⟨b, hx⟩ := grd_inv hx
  cases hx
  cases x with
  | none => exact lv_ifnonnullN F.1 F.2.1 hd (P.tail.go kk)
  | some x => exact lv_ifnonnull F.1 F.2.1 hd (tgt_of b) (P.tail.go kk)
theorem s_tableswitch (dd lo2 hi : Int) (offs : Array Int) : Sok (.tableswitch dd lo2 hi offs) := by
  intro p l e R s m args below meth c H locs cells slots Q D G d k pc ls lo st h I len z F P hml hd hl hr hx hroom hRd kk
  cases hr
  obtain ⟨x, r, rfl, hx⟩ := popI_inv hx
  obtain ⟨b, hx⟩ := grd_inv hx
  cases hx
  have hX : InR x := P.hd
  by_cases q : x < lo2 ∨ hi < x
  · rw [if_pos q] at b
    rw [if_pos q] at kk
    exact lv_tableOut F.1 F.2.1 hd (by rw [i32_ok hX]; exact q) (tgt_of b) (P.tail.go kk)
  · rw [if_neg q] at b
    rw [if_neg q] at kk
    cases ho : offs[(x - lo2).toNat]? with
    | none => rw [Array.getElem?_map, ho] at b; exact absurd b (by simp)
    | some off =>
      rw [Array.getElem?_map, ho] at b kk
      exact lv_tableIn F.1 F.2.1 hd (by rw [i32_ok hX]; omega) (by rw [i32_ok hX]; omega) (by rw [i32_ok hX]; exact ho) (tgt_of b) (P.tail.go kk)
end STEP2
