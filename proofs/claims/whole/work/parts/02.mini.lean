/-! A small machine of our own: its steps are the JVM's with the links resolved, over a heap of maps; part 04 shows that what it does the JVM does. -/
/-- a value: an int, a long, a reference -/
abbrev MV : Type := Int ⊕ Int64 ⊕ Option Nat
abbrev vI (x : Int) : MV := .inl x
abbrev vJ (x : Int64) : MV := .inr (.inl x)
abbrev vR (x : Option Nat) : MV := .inr (.inr x)
/-- the heap: fields (field, address), arrays (address, place), kinds, lengths, the next address, slots in use -/
abbrev Hp : Type := (Nat → Nat → Int) × (Nat → Nat → Int64) × (Nat → Nat → Option Nat) × (Nat → Nat → Int) × (Nat → Nat → Int64) × (Nat → Nat → Option Nat) × (Nat → Nat) × (Nat → Nat) × Nat × Nat
def FI (h : Hp) : Nat → Nat → Int := h.1
def FL (h : Hp) : Nat → Nat → Int64 := h.2.1
def FR (h : Hp) : Nat → Nat → Option Nat := h.2.2.1
def AI (h : Hp) : Nat → Nat → Int := h.2.2.2.1
def AL (h : Hp) : Nat → Nat → Int64 := h.2.2.2.2.1
def AR (h : Hp) : Nat → Nat → Option Nat := h.2.2.2.2.2.1
def KD (h : Hp) : Nat → Nat := h.2.2.2.2.2.2.1
def LN (h : Hp) : Nat → Nat := h.2.2.2.2.2.2.2.1
def NX (h : Hp) : Nat := h.2.2.2.2.2.2.2.2.1
def SL (h : Hp) : Nat := h.2.2.2.2.2.2.2.2.2
def up2 {α : Type} (F : Nat → Nat → α) (f a : Nat) (v : α) : Nat → Nat → α := fun g b => if g = f ∧ b = a then v else F g b
def up1 {α : Type} (F : Nat → α) (a : Nat) (v : α) : Nat → α := fun b => if b = a then v else F b
def cl1 {α : Type} (F : Nat → Nat → α) (a : Nat) (z : α) : Nat → Nat → α := fun b j => if b = a then z else F b j
def cl2 {α : Type} (F : Nat → Nat → α) (a : Nat) (z : α) : Nat → Nat → α := fun g b => if b = a then z else F g b
def sFI (h : Hp) (f a : Nat) (v : Int) : Hp := (up2 (FI h) f a v, FL h, FR h, AI h, AL h, AR h, KD h, LN h, NX h, SL h)
def sFL (h : Hp) (f a : Nat) (v : Int64) : Hp := (FI h, up2 (FL h) f a v, FR h, AI h, AL h, AR h, KD h, LN h, NX h, SL h)
def sFR (h : Hp) (f a : Nat) (v : Option Nat) : Hp := (FI h, FL h, up2 (FR h) f a v, AI h, AL h, AR h, KD h, LN h, NX h, SL h)
def sAI (h : Hp) (b j : Nat) (v : Int) : Hp := (FI h, FL h, FR h, up2 (AI h) b j v, AL h, AR h, KD h, LN h, NX h, SL h)
def sAL (h : Hp) (b j : Nat) (v : Int64) : Hp := (FI h, FL h, FR h, AI h, up2 (AL h) b j v, AR h, KD h, LN h, NX h, SL h)
def sAR (h : Hp) (b j : Nat) (v : Option Nat) : Hp := (FI h, FL h, FR h, AI h, AL h, up2 (AR h) b j v, KD h, LN h, NX h, SL h)
/-- an object of class c comes to be at the next address -/
def nwO (h : Hp) (c : Nat) : Hp := (cl2 (FI h) (NX h) 0, cl2 (FL h) (NX h) 0, cl2 (FR h) (NX h) none, cl1 (AI h) (NX h) 0, cl1 (AL h) (NX h) 0, cl1 (AR h) (NX h) none, up1 (KD h) (NX h) (1 + c), up1 (LN h) (NX h) 0, NX h + 1, SL h + mN c)
/-- an array -/
def nwA (h : Hp) (kd len : Nat) : Hp := (cl2 (FI h) (NX h) 0, cl2 (FL h) (NX h) 0, cl2 (FR h) (NX h) none, cl1 (AI h) (NX h) 0, cl1 (AL h) (NX h) 0, cl1 (AR h) (NX h) none, up1 (KD h) (NX h) kd, up1 (LN h) (NX h) len, NX h + 1, SL h + len)
/-- new int[n][k]: the outer array, behind it the inner ones -/
def nwM (h : Hp) (n k : Nat) : Hp := (fun g b => if NX h ≤ b ∧ b ≤ NX h + n then 0 else FI h g b, fun g b => if NX h ≤ b ∧ b ≤ NX h + n then 0 else FL h g b, fun g b => if NX h ≤ b ∧ b ≤ NX h + n then none else FR h g b, fun b j => if NX h ≤ b ∧ b ≤ NX h + n then 0 else AI h b j, fun b j => if NX h ≤ b ∧ b ≤ NX h + n then 0 else AL h b j,
  fun b j => if b = NX h then (if j < n then some (NX h + 1 + j) else none) else if NX h ≤ b ∧ b ≤ NX h + n then none else AR h b j, fun b => if b = NX h then 76 else if NX h ≤ b ∧ b ≤ NX h + n then 40 else KD h b, fun b => if b = NX h then n else if NX h ≤ b ∧ b ≤ NX h + n then k else LN h b, NX h + 1 + n, SL h + (n + n * k))
/-- a copy of the reference array b, at the next address, of the kind kd -/
def nwC (h : Hp) (b kd : Nat) : Hp := (cl2 (FI h) (NX h) 0, cl2 (FL h) (NX h) 0, cl2 (FR h) (NX h) none, cl1 (AI h) (NX h) 0, cl1 (AL h) (NX h) 0, fun x j => if x = NX h then AR h b j else AR h x j, up1 (KD h) (NX h) kd, up1 (LN h) (NX h) (LN h b), NX h + 1, SL h + LN h b)
def cpy2 {α : Type} (A : Nat → Nat → α) (s sp t tp n : Nat) : Nat → Nat → α := fun b j => if b = t ∧ tp ≤ j ∧ j < tp + n then A s (sp + (j - tp)) else A b j
def cpI (h : Hp) (s sp t tp n : Nat) : Hp := (FI h, FL h, FR h, cpy2 (AI h) s sp t tp n, AL h, AR h, KD h, LN h, NX h, SL h)
def cpL (h : Hp) (s sp t tp n : Nat) : Hp := (FI h, FL h, FR h, AI h, cpy2 (AL h) s sp t tp n, AR h, KD h, LN h, NX h, SL h)
def ir (x : Int) : Bool := decide (-2147483648 ≤ x) && decide (x ≤ 2147483647)
def i32 (x : Int) : Int32 := Int32.ofInt x
def lst (ls : List (Option MV)) (i : Nat) (v : MV) : List (Option MV) :=
  match v with
  | .inr (.inl _) => (ls.set i (some v)).set (i + 1) none
  | _ => ls.set i (some v)
/-- a store at place i forgets a long that began one place ahead -/
def lcl (ls : List (Option MV)) (i : Nat) : List (Option MV) :=
  match i with
  | 0 => ls
  | j + 1 => match ls[j]? with
    | some (some (.inr (.inl _))) => ls.set j none
    | _ => ls
def kFld (f : Nat) : Nat := f / 128 + (if f / 128 < 14 then 1 else 14)
/-! the links: an instruction with its links resolved; a jump's target for its offset -/
def gkI (f : Nat) : Option Instr := match fty f with
  | 0 | 3 | 4 => some (.getfield f)
  | 1 => some (.fload f)
  | 2 => some (.dload f)
  | _ => none
def pkI (f : Nat) : Option Instr := match fty f with
  | 0 => some (.putfield f)
  | 3 => some (.putstatic f)
  | 1 => some (.fstore f)
  | 2 => some (.dstore f)
  | _ => none
/-- is a field final? -/
def fin (f : Nat) : Bool := ((fldsT.getD (f / 128) []).getD (f % 128) ("", "", "", true)).2.2.2
def rs (k pc : Nat) : Instr → Option Instr
  | .getfield i => ((fldT.getD (ownOf k) []).lookup i).bind fun e => gkI e.1
  | .putfield i => ((fldT.getD (ownOf k) []).lookup i).bind fun e => if fin e.1 && !(knd k == 2 && ownOf k == e.1 / 128 && !e.2.2) then none else pkI e.1
  | .getstatic i => ((sttT.getD (ownOf k) []).lookup i).map fun e => if e.1 < 1000 then .getstatic e.1 else .iconst ((e.1 - 1000 : Nat) : Int)
  | .new i => ((clsT.getD (ownOf k) []).lookup i).map fun e => .new e.1
  | .anewarray i => ((clsT.getD (ownOf k) []).lookup i).map fun e => .anewarray e.1
  | .multianewarray i d => ((clsT.getD (ownOf k) []).lookup i).map fun e => .multianewarray e.1 d
  | .checkcast i => ((clsT.getD (ownOf k) []).lookup i).map fun e => .checkcast e.1
  | .ldc i => match (cstT.getD (ownOf k) []).lookup i with
    | some e => some (.iconst e.1)
    | none => ((strT.getD (ownOf k) []).lookup i).map fun e => .getstatic e.1
  | .ldc_w i => match (cstT.getD (ownOf k) []).lookup i with
    | some e => some (.iconst e.1)
    | none => ((strT.getD (ownOf k) []).lookup i).map fun e => .getstatic e.1
  | .ldc2_w i => ((lngT.getD (ownOf k) []).lookup i).map fun e => .ldc2_w e.1
  | .invokevirtual i => ((mthT.getD (ownOf k) []).lookup i).bind fun e => if e.1 = 1002 then some (.invokestatic 1) else if e.1 = 1003 then some (.invokestatic 2) else if knd e.1 = 1 then some (.invokevirtual e.1) else none
  | .invokestatic i => ((mthT.getD (ownOf k) []).lookup i).bind fun e => if e.1 = 1001 then some (.invokestatic 0) else if e.1 = 1004 then some (.invokestatic 3) else if e.1 = 1005 then some (.invokestatic 4) else if knd e.1 = 0 then some (.invokevirtual e.1) else none
  | .invokespecial i => ((mthT.getD (ownOf k) []).lookup i).bind fun e => if e.1 = 1000 then some (.invokespecial 0) else if knd e.1 = 2 then some (.invokevirtual e.1) else none
  | .goto off => some (.goto ((pc : Int) + off))
  | .ifCond c off => some (.ifCond c ((pc : Int) + off))
  | .if_icmp c off => some (.if_icmp c ((pc : Int) + off))
  | .if_acmp c off => some (.if_acmp c ((pc : Int) + off))
  | .ifnull off => some (.ifnull ((pc : Int) + off))
  | .ifnonnull off => some (.ifnonnull ((pc : Int) + off))
  | .tableswitch d lo hi offs => some (.tableswitch ((pc : Int) + d) lo hi (offs.map fun o => (pc : Int) + o))
  | .return_ => match retOf k with | none => some .return_ | _ => none
  | .ireturn => match retOf k with | some .int => some .ireturn | some .boolean => some .freturn | some .byte => some (.ret 0) | some .char => some (.ret 1) | _ => none
  | .lreturn => match retOf k with | some .long => some .lreturn | _ => none
  | .areturn => match retOf k with | some (.object n) => some .areturn | some (.array t) => some .areturn | _ => none
  | .fload _ | .dload _ | .putstatic _ | .fstore _ | .dstore _ | .freturn | .ret _ | .invokeinterface _ _ | .invokedynamic _ => none
  | I => some I
/-- how many bytes an instruction has -/
def ilen : Instr → Nat
  | .aload _ | .astore _ | .bipush _ | .iload _ | .istore _ | .ldc _ | .lload _ | .lstore _ | .newarray _ => 2
  | .sipush _ | .iinc _ _ | .goto _ | .ifCond _ _ | .if_icmp _ _ | .if_acmp _ _ | .ifnull _ | .ifnonnull _ | .getfield _ | .putfield _ | .getstatic _ | .new _ | .anewarray _ | .checkcast _ | .ldc_w _ | .ldc2_w _ | .invokevirtual _ | .invokestatic _ | .invokespecial _ => 3
  | .multianewarray _ _ => 4
  | _ => 1
def lenOk (I : Instr) (len : Nat) : Bool := match I with | .tableswitch _ _ _ _ => true | I => len == ilen I
/-- the instruction of method k at pc, resolved, and the next place -/
def dc (k pc : Nat) : Option (Instr × Nat) := match decode (codeOf k) pc with
  | .ok (I, len) => if lenOk I len then (rs k pc I).map fun J => (J, pc + len) else none
  | .error _ => none
def isIA (k : Nat) : Bool := k == 40 || k == 80
def isBA (k : Nat) : Bool := k == 41 || k == 42 || k == 81
def isRA (k : Nat) : Bool := (decide (50 ≤ k) && decide (k < 64)) || k == 75 || k == 76 || k == 82
def isArr (k : Nat) : Bool := isIA k || isBA k || isRA k || k == 44
abbrev InR (x : Int) : Prop := -2147483648 ≤ x ∧ x ≤ 2147483647
/-! what a step takes off the stack, and what it asks -/
def popI {α : Type} (st : List MV) (f : Int → List MV → Option α) : Option α := match st with | .inl x :: r => f x r | _ => none
def popJ {α : Type} (st : List MV) (f : Int64 → List MV → Option α) : Option α := match st with | .inr (.inl x) :: r => f x r | _ => none
def popR {α : Type} (st : List MV) (f : Option Nat → List MV → Option α) : Option α := match st with | .inr (.inr x) :: r => f x r | _ => none
def popA {α : Type} (st : List MV) (f : Nat → List MV → Option α) : Option α := match st with | .inr (.inr (some x)) :: r => f x r | _ => none
def grd {α : Type} (b : Prop) [Decidable b] (x : Option α) : Option α := if b then x else none
def getI {α : Type} (ls : List (Option MV)) (i : Nat) (f : Int → Option α) : Option α := match ls[i]? with | some (some (.inl x)) => f x | _ => none
def getJ {α : Type} (ls : List (Option MV)) (i : Nat) (f : Int64 → Option α) : Option α := match ls[i]? with | some (some (.inr (.inl x))) => f x | _ => none
def getR {α : Type} (ls : List (Option MV)) (i : Nat) (f : Option Nat → Option α) : Option α := match ls[i]? with | some (some (.inr (.inr x))) => f x | _ => none
theorem popI_inv {α : Type} {st : List MV} {f : Int → List MV → Option α} {z : α} (h : popI st f = some z) : ∃ x r, st = vI x :: r ∧ f x r = some z := by
  unfold popI at h; split at h
  · exact ⟨_, _, rfl, h⟩
  · cases h
theorem popJ_inv {α : Type} {st : List MV} {f : Int64 → List MV → Option α} {z : α} (h : popJ st f = some z) : ∃ x r, st = vJ x :: r ∧ f x r = some z := by
  unfold popJ at h; split at h
  · exact ⟨_, _, rfl, h⟩
  · cases h
theorem popR_inv {α : Type} {st : List MV} {f : Option Nat → List MV → Option α} {z : α} (h : popR st f = some z) : ∃ x r, st = vR x :: r ∧ f x r = some z := by
  unfold popR at h; split at h
  · exact ⟨_, _, rfl, h⟩
  · cases h
theorem popA_inv {α : Type} {st : List MV} {f : Nat → List MV → Option α} {z : α} (h : popA st f = some z) : ∃ x r, st = vR (some x) :: r ∧ f x r = some z := by
  unfold popA at h; split at h
  · exact ⟨_, _, rfl, h⟩
  · cases h
theorem grd_inv {α : Type} {b : Prop} [Decidable b] {x : Option α} {z : α} (h : grd b x = some z) : b ∧ x = some z := by
  unfold grd at h; split at h
  · exact ⟨by assumption, h⟩
  · cases h
theorem getI_inv {α : Type} {ls : List (Option MV)} {i : Nat} {f : Int → Option α} {z : α} (h : getI ls i f = some z) : ∃ x, ls[i]? = some (some (vI x)) ∧ f x = some z := by
  unfold getI at h; split at h
  · exact ⟨_, by assumption, h⟩
  · cases h
theorem getJ_inv {α : Type} {ls : List (Option MV)} {i : Nat} {f : Int64 → Option α} {z : α} (h : getJ ls i f = some z) : ∃ x, ls[i]? = some (some (vJ x)) ∧ f x = some z := by
  unfold getJ at h; split at h
  · exact ⟨_, by assumption, h⟩
  · cases h
theorem getR_inv {α : Type} {ls : List (Option MV)} {i : Nat} {f : Option Nat → Option α} {z : α} (h : getR ls i f = some z) : ∃ x, ls[i]? = some (some (vR x)) ∧ f x = some z := by
  unfold getR at h; split at h
  · exact ⟨_, by assumption, h⟩
  · cases h
/-- does the condition of a jump hold of the two? -/
def cmpI (c : ClassFile.Cond) (x y : Int) : Bool := match c with
  | .eq => decide (x = y)
  | .ne => !decide (x = y)
  | .lt => decide (x < y)
  | .ge => !decide (x < y)
  | .gt => decide (y < x)
  | .le => !decide (y < x)
abbrev bnd (i : Int) (n : Nat) : Prop := 0 ≤ i ∧ i < (n : Int)
abbrev SR : Type := Nat × List (Option MV) × List MV × Hp
/-- what newarray's types are here -/
def nak : ArrayType → Nat
  | .int => 40 | .byte => 41 | .boolean => 42 | .long => 44 | _ => 0
/-- a step that is no call and no end -/
def sx (G : Nat → Option Nat) (d : Nat) (I : Instr) (pc' : Nat) (ls : List (Option MV)) (st : List MV) (h : Hp) : Option SR :=
  match I with
  | .aconst_null => some (pc', ls, vR none :: st, h)
  | .iconst n => grd (InR n) (some (pc', ls, vI n :: st, h))
  | .bipush n => grd (-128 ≤ n ∧ n < 128) (some (pc', ls, vI n :: st, h))
  | .sipush n => grd (-32768 ≤ n ∧ n < 32768) (some (pc', ls, vI n :: st, h))
  | .lconst n => some (pc', ls, vJ (if n.val = 0 then 0 else 1) :: st, h)
  | .getstatic g => some (pc', ls, vR (G g) :: st, h)
  | .ldc2_w t => some (pc', ls, vJ (lngV t) :: st, h)
  | .iload i => getI ls i fun x => some (pc', ls, vI x :: st, h)
  | .iload_n i => getI ls i.val fun x => some (pc', ls, vI x :: st, h)
  | .lload i => getJ ls i fun x => some (pc', ls, vJ x :: st, h)
  | .lload_n i => getJ ls i.val fun x => some (pc', ls, vJ x :: st, h)
  | .aload i => getR ls i fun x => some (pc', ls, vR x :: st, h)
  | .aload_n i => getR ls i.val fun x => some (pc', ls, vR x :: st, h)
  | .istore i => popI st fun x r => grd (i < ls.length) (some (pc', (lcl ls i).set i (some (vI x)), r, h))
  | .istore_n i => popI st fun x r => grd (i.val < ls.length) (some (pc', (lcl ls i.val).set i.val (some (vI x)), r, h))
  | .lstore i => popJ st fun x r => grd (i + 1 < ls.length) (some (pc', ((lcl ls i).set i (some (vJ x))).set (i + 1) none, r, h))
  | .lstore_n i => popJ st fun x r => grd (i.val + 1 < ls.length) (some (pc', ((lcl ls i.val).set i.val (some (vJ x))).set (i.val + 1) none, r, h))
  | .astore i => popR st fun x r => grd (i < ls.length) (some (pc', (lcl ls i).set i (some (vR x)), r, h))
  | .astore_n i => popR st fun x r => grd (i.val < ls.length) (some (pc', (lcl ls i.val).set i.val (some (vR x)), r, h))
  | .iinc i n => getI ls i fun x => grd (InR (x + n)) (some (pc', (lcl ls i).set i (some (vI (x + n))), st, h))
  | .iadd => popI st fun y r => popI r fun x r => grd (InR (x + y)) (some (pc', ls, vI (x + y) :: r, h))
  | .isub => popI st fun y r => popI r fun x r => grd (InR (x - y)) (some (pc', ls, vI (x - y) :: r, h))
  | .imul => popI st fun y r => popI r fun x r => grd (InR (x * y)) (some (pc', ls, vI (x * y) :: r, h))
  | .idiv => popI st fun y r => popI r fun x r => grd (0 < y) (some (pc', ls, vI (x.tdiv y) :: r, h))
  | .irem => popI st fun y r => popI r fun x r => grd (0 < y) (some (pc', ls, vI (x.tmod y) :: r, h))
  | .iand => popI st fun y r => popI r fun x r => some (pc', ls, vI (i32 x &&& i32 y).toInt :: r, h)
  | .ior => popI st fun y r => popI r fun x r => some (pc', ls, vI (i32 x ||| i32 y).toInt :: r, h)
  | .ixor => popI st fun y r => popI r fun x r => some (pc', ls, vI (i32 x ^^^ i32 y).toInt :: r, h)
  | .ishl => popI st fun y r => popI r fun x r => some (pc', ls, vI (i32 x <<< (i32 y &&& 31)).toInt :: r, h)
  | .ishr => popI st fun y r => popI r fun x r => some (pc', ls, vI (i32 x >>> (i32 y &&& 31)).toInt :: r, h)
  | .iushr => popI st fun y r => popI r fun x r => some (pc', ls, vI ((i32 x).toUInt32 >>> ((i32 y).toUInt32 &&& Int32.toUInt32 31)).toInt32.toInt :: r, h)
  | .i2b => popI st fun x r => some (pc', ls, vI (i32 x).toInt8.toInt32.toInt :: r, h)
  | .i2c => popI st fun x r => some (pc', ls, vI ((i32 x).toUInt32 % 65536).toInt32.toInt :: r, h)
  | .i2l => popI st fun x r => some (pc', ls, vJ (i32 x).toInt64 :: r, h)
  | .l2i => popJ st fun x r => some (pc', ls, vI x.toInt32.toInt :: r, h)
  | .land => popJ st fun y r => popJ r fun x r => some (pc', ls, vJ (x &&& y) :: r, h)
  | .lor => popJ st fun y r => popJ r fun x r => some (pc', ls, vJ (x ||| y) :: r, h)
  | .lxor => popJ st fun y r => popJ r fun x r => some (pc', ls, vJ (x ^^^ y) :: r, h)
  | .lmul => popJ st fun y r => popJ r fun x r => some (pc', ls, vJ (x * y) :: r, h)
  | .lshl => popI st fun y r => popJ r fun x r => some (pc', ls, vJ (x <<< ((i32 y).toInt64 &&& 63)) :: r, h)
  | .lushr => popI st fun y r => popJ r fun x r => some (pc', ls, vJ (x.toUInt64 >>> ((i32 y).toInt64.toUInt64 &&& Int64.toUInt64 63)).toInt64 :: r, h)
  | .lcmp => popJ st fun y r => popJ r fun x r => some (pc', ls, vI (if x > y then 1 else if x = y then 0 else -1) :: r, h)
  | .dup => match st with | .inl x :: r => some (pc', ls, vI x :: vI x :: r, h) | .inr (.inr x) :: r => some (pc', ls, vR x :: vR x :: r, h) | _ => none
  | .dup2 => popI st fun y r => popR r fun x r => some (pc', ls, vI y :: vR x :: vI y :: vR x :: r, h)
  | .pop => match st with | .inl _ :: r => some (pc', ls, r, h) | .inr (.inr _) :: r => some (pc', ls, r, h) | _ => none
  | .goto t => grd (0 ≤ t) (some (t.toNat, ls, st, h))
  | .ifCond c t => popI st fun x r => grd (0 ≤ t) (some (if cmpI c x 0 then t.toNat else pc', ls, r, h))
  | .if_icmp c t => popI st fun y r => popI r fun x r => grd (0 ≤ t) (some (if cmpI c x y then t.toNat else pc', ls, r, h))
  | .if_acmp c t => popR st fun y r => popR r fun x r => grd (0 ≤ t) (some (if (match c with | .eq => decide (x = y) | .ne => !decide (x = y)) then t.toNat else pc', ls, r, h))
  | .ifnull t => popR st fun x r => grd (0 ≤ t) (some (if x = none then t.toNat else pc', ls, r, h))
  | .ifnonnull t => popR st fun x r => grd (0 ≤ t) (some (if x = none then pc' else t.toNat, ls, r, h))
  | .tableswitch dd lo hi offs => popI st fun x r => grd (0 ≤ (if x < lo ∨ hi < x then dd else offs[(x - lo).toNat]?.getD (-1))) (some ((if x < lo ∨ hi < x then dd else offs[(x - lo).toNat]?.getD (-1)).toNat, ls, r, h))
  | .getfield f => popA st fun a r => grd (KD h a = kFld f) (some (pc', ls, vI (FI h f a) :: r, h))
  | .fload f => popA st fun a r => grd (KD h a = kFld f) (some (pc', ls, vJ (FL h f a) :: r, h))
  | .dload f => popA st fun a r => grd (KD h a = kFld f) (some (pc', ls, vR (FR h f a) :: r, h))
  | .putfield f => popI st fun x r => popA r fun a r => grd (KD h a = kFld f ∧ f / 128 < 14) (some (pc', ls, r, sFI h f a x))
  | .putstatic f => popI st fun x r => popA r fun a r => grd ((KD h a = kFld f ∧ f / 128 < 14) ∧ (x = 0 ∨ x = 1)) (some (pc', ls, r, sFI h f a x))
  | .fstore f => popJ st fun x r => popA r fun a r => grd (KD h a = kFld f ∧ f / 128 < 14) (some (pc', ls, r, sFL h f a x))
  | .dstore f => popR st fun x r => popA r fun a r => grd (KD h a = kFld f ∧ f / 128 < 14) (some (pc', ls, r, sFR h f a x))
  | .iaload => popI st fun i r => popA r fun b r => grd (isIA (KD h b) = true ∧ bnd i (LN h b)) (some (pc', ls, vI (AI h b i.toNat) :: r, h))
  | .baload => popI st fun i r => popA r fun b r => grd (isBA (KD h b) = true ∧ bnd i (LN h b)) (some (pc', ls, vI (AI h b i.toNat) :: r, h))
  | .laload => popI st fun i r => popA r fun b r => grd (KD h b = 44 ∧ bnd i (LN h b)) (some (pc', ls, vJ (AL h b i.toNat) :: r, h))
  | .aaload => popI st fun i r => popA r fun b r => grd (isRA (KD h b) = true ∧ bnd i (LN h b)) (some (pc', ls, vR (AR h b i.toNat) :: r, h))
  | .iastore => popI st fun x r => popI r fun i r => popA r fun b r => grd (KD h b = 40 ∧ bnd i (LN h b)) (some (pc', ls, r, sAI h b i.toNat x))
  | .bastore => popI st fun x r => popI r fun i r => popA r fun b r => grd (((KD h b = 41 ∧ -128 ≤ x ∧ x < 128) ∨ (KD h b = 42 ∧ (x = 0 ∨ x = 1))) ∧ bnd i (LN h b)) (some (pc', ls, r, sAI h b i.toNat x))
  | .lastore => popJ st fun x r => popI r fun i r => popA r fun b r => grd (KD h b = 44 ∧ bnd i (LN h b)) (some (pc', ls, r, sAL h b i.toNat x))
  | .aastore => popA st fun v r => popI r fun i r => popA r fun b r => grd ((50 ≤ KD h b ∧ KD h b < 64 ∧ KD h v + 49 = KD h b) ∧ bnd i (LN h b)) (some (pc', ls, r, sAR h b i.toNat (some v)))
  | .arraylength => popA st fun b r => grd (isArr (KD h b) = true) (some (pc', ls, vI (LN h b) :: r, h))
  | .new c => grd (c < 14) (some (pc', ls, vR (some (NX h)) :: st, nwO h c))
  | .newarray t => popI st fun n r => grd ((0 ≤ n ∧ n ≤ 60000000) ∧ nak t ≠ 0) (some (pc', ls, vR (some (NX h)) :: r, nwA h (nak t) n.toNat))
  | .anewarray e => popI st fun n r => grd ((0 ≤ n ∧ n ≤ 60000000) ∧ (e = 1 ∨ e = 2 ∨ e = 5 ∨ e = 12)) (some (pc', ls, vR (some (NX h)) :: r, nwA h (50 + e) n.toNat))
  | .multianewarray e dd => popI st fun k r => popI r fun n r => grd ((e = 21 ∧ dd = 2) ∧ n = 14 ∧ k = 3) (some (pc', ls, vR (some (NX h)) :: r, nwM h 14 3))
  | .checkcast e => popA st fun b r => grd (e = 20 ∧ KD h b = 75) (some (pc', ls, vR (some b) :: r, h))
  | .invokespecial _ => popA st fun a r => grd ((1 ≤ KD h a ∧ KD h a < 15) ∧ r.length ≤ 4 ∧ 1 ≤ d) (some (pc', ls, r, h))
  | .invokestatic j => match j with
    | 0 => popI st fun n r => popI r fun tp r => popA r fun t r => popI r fun sp r => popA r fun s r =>
      grd (((s ≠ t ∧ KD h s = KD h t ∧ (KD h t = 40 ∨ KD h t = 41 ∨ KD h t = 42 ∨ KD h t = 44)) ∧ r.length ≤ 4 ∧ 1 ≤ d) ∧ (0 ≤ sp ∧ 0 ≤ tp ∧ 0 ≤ n ∧ sp + n ≤ (LN h s : Int) ∧ tp + n ≤ (LN h t : Int)))
        (some (pc', ls, r, if KD h t = 44 then cpL h s sp.toNat t tp.toNat n.toNat else cpI h s sp.toNat t tp.toNat n.toNat))
    | 1 => popA st fun b r => grd (KD h b = 82 ∧ r.length ≤ 4 ∧ 1 ≤ d) (some (pc', ls, vR (some (NX h)) :: r, nwC h b 75))
    | 2 => popA st fun a r => grd (KD h a = 31 ∧ r.length ≤ 4 ∧ 2 ≤ d) (some (pc', ls, vI (FI h 2179 a) :: r, h))
    | 3 => popI st fun y r => popI r fun x r => grd (r.length ≤ 4 ∧ 1 ≤ d) (some (pc', ls, vI (if x < y then y else x) :: r, h))
    | 4 => popI st fun y r => popI r fun x r => grd (r.length ≤ 4 ∧ 1 ≤ d) (some (pc', ls, vI (if y < x then y else x) :: r, h))
    | _ => none
  | _ => none
/-- a call's values as the callee's locals -/
def lay (mx : Nat) (vs : List MV) : List (Option MV) :=
  let l := vs.flatMap fun v => match v with | .inr (.inl _) => [some v, none] | _ => [some v]
  l ++ List.replicate (mx - l.length) none
def rcv (j : Nat) : Nat := if ownOf j < 14 then ownOf j + 1 else 30
/-- is the receiver there, of the method's class? -/
def rok (j : Nat) (vs : List MV) (h : Hp) : Bool := if knd j = 0 then true else match vs with | .inr (.inr (some a)) :: _ => KD h a == rcv j | _ => false
def run (G : Nat → Option Nat) : Nat → Nat → Nat → Nat → List (Option MV) → List MV → Hp → Option (Option MV × Hp)
  | 0, _, _, _, _, _, _ => none
  | n + 1, d, k, pc, ls, st, h =>
    match dc k pc with
    | none => none
    | some (I, pc') =>
      match I with
      | .return_ => match st with | [] => some (none, h) | _ => none
      | .ireturn => match st with | [.inl x] => some (some (vI x), h) | _ => none
      | .freturn => match st with | [.inl x] => if x = 0 ∨ x = 1 then some (some (vI x), h) else none | _ => none
      | .ret w => match st with | [.inl x] => if (w = 0 ∧ -128 ≤ x ∧ x < 128) ∨ (w = 1 ∧ 0 ≤ x ∧ x < 65536) then some (some (vI x), h) else none | _ => none
      | .lreturn => match st with | [.inr (.inl x)] => some (some (vJ x), h) | _ => none
      | .areturn => match st with | [.inr (.inr x)] => some (some (vR x), h) | _ => none
      | .invokevirtual j =>
        match d with
        | 0 => none
        | d' + 1 =>
          if (argN j ≤ st.length ∧ st.length ≤ argN j + 4) ∧ rok j (st.take (argN j)).reverse h = true ∧ (lay 0 (st.take (argN j)).reverse).length ≤ mxl j then
            match run G n d' j 0 (lay (mxl j) (st.take (argN j)).reverse) [] h with
            | none => none
            | some (r, h') => run G n (d' + 1) k pc' ls (r.toList ++ st.drop (argN j)) h'
          else none
      | I => match sx G d I pc' ls st h with
        | some (pc2, ls2, st2, h2) => run G n d k pc2 ls2 st2 h2
        | none => none
