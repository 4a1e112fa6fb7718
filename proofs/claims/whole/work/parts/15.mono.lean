/-! the heap only grows -/
set_option maxHeartbeats 4000000 in
theorem sx_mono {G : Nat → Option Nat} {d pc' : Nat} {I : Instr} {lo : List (Option MV)} {st : List MV} {h : Hp} {z : SR} (hx : sx G d I pc' lo st h = some z) : NX h ≤ NX z.2.2.2 ∧ SL h ≤ SL z.2.2.2 := by
  cases I with
  | new i =>
    obtain ⟨_, hx⟩ := grd_inv hx
    cases hx
    exact ⟨Nat.le_add_right _ _, Nat.le_add_right _ _⟩
  | newarray t =>
    obtain ⟨_, _, _, hx⟩ := popI_inv hx
    obtain ⟨_, hx⟩ := grd_inv hx
    cases hx
    exact ⟨Nat.le_add_right _ _, Nat.le_add_right _ _⟩
  | anewarray t =>
    obtain ⟨_, _, _, hx⟩ := popI_inv hx
    obtain ⟨_, hx⟩ := grd_inv hx
    cases hx
    exact ⟨Nat.le_add_right _ _, Nat.le_add_right _ _⟩
  | multianewarray t u =>
    obtain ⟨_, _, _, hx⟩ := popI_inv hx
    obtain ⟨_, _, _, hx⟩ := popI_inv hx
    obtain ⟨_, hx⟩ := grd_inv hx
    cases hx
    exact ⟨by show NX h ≤ NX h + 1 + 14; omega, Nat.le_add_right _ _⟩
  | invokestatic j =>
    match j, hx with
    | 0, hx =>
      obtain ⟨_, _, _, hx⟩ := popI_inv hx
      obtain ⟨_, _, _, hx⟩ := popI_inv hx
      obtain ⟨_, _, _, hx⟩ := popA_inv hx
      obtain ⟨_, _, _, hx⟩ := popI_inv hx
      obtain ⟨_, _, _, hx⟩ := popA_inv hx
      obtain ⟨_, hx⟩ := grd_inv hx
      cases hx
      dsimp only
      split <;> exact ⟨Nat.le_refl _, Nat.le_refl _⟩
    | 1, hx =>
      obtain ⟨_, _, _, hx⟩ := popA_inv hx
      obtain ⟨_, hx⟩ := grd_inv hx
      cases hx
      exact ⟨Nat.le_add_right _ _, Nat.le_add_right _ _⟩
    | 2, hx =>
      obtain ⟨_, _, _, hx⟩ := popA_inv hx
      obtain ⟨_, hx⟩ := grd_inv hx
      cases hx
      exact ⟨Nat.le_refl _, Nat.le_refl _⟩
    | 3, hx =>
      obtain ⟨_, _, _, hx⟩ := popI_inv hx
      obtain ⟨_, _, _, hx⟩ := popI_inv hx
      obtain ⟨_, hx⟩ := grd_inv hx
      cases hx
      exact ⟨Nat.le_refl _, Nat.le_refl _⟩
    | 4, hx =>
      obtain ⟨_, _, _, hx⟩ := popI_inv hx
      obtain ⟨_, _, _, hx⟩ := popI_inv hx
      obtain ⟨_, hx⟩ := grd_inv hx
      cases hx
      exact ⟨Nat.le_refl _, Nat.le_refl _⟩
    | j + 5, hx => exact nomatch (show (none : Option SR) = some z from hx)
  | dup =>
    match st, hx with
    | .inl x :: r, hx => cases hx; exact ⟨Nat.le_refl _, Nat.le_refl _⟩
    | .inr (.inr x) :: r, hx => cases hx; exact ⟨Nat.le_refl _, Nat.le_refl _⟩
  | pop =>
    match st, hx with
    | .inl x :: r, hx => cases hx; exact ⟨Nat.le_refl _, Nat.le_refl _⟩
    | .inr (.inr x) :: r, hx => cases hx; exact ⟨Nat.le_refl _, Nat.le_refl _⟩
  | aconst_null =>
    cases hx
    exact ⟨Nat.le_refl _, Nat.le_refl _⟩
  | iconst _ =>
    obtain ⟨_, hx⟩ := grd_inv hx
    cases hx
    exact ⟨Nat.le_refl _, Nat.le_refl _⟩
  | bipush _ =>
    obtain ⟨_, hx⟩ := grd_inv hx
    cases hx
    exact ⟨Nat.le_refl _, Nat.le_refl _⟩
  | sipush _ =>
    obtain ⟨_, hx⟩ := grd_inv hx
    cases hx
    exact ⟨Nat.le_refl _, Nat.le_refl _⟩
  | lconst _ =>
    cases hx
    exact ⟨Nat.le_refl _, Nat.le_refl _⟩
  | getstatic _ =>
    cases hx
    exact ⟨Nat.le_refl _, Nat.le_refl _⟩
  | ldc2_w _ =>
    cases hx
    exact ⟨Nat.le_refl _, Nat.le_refl _⟩
  | iload _ =>
    obtain ⟨_, _, hx⟩ := getI_inv hx
    cases hx
    exact ⟨Nat.le_refl _, Nat.le_refl _⟩
  | iload_n _ =>
    obtain ⟨_, _, hx⟩ := getI_inv hx
    cases hx
    exact ⟨Nat.le_refl _, Nat.le_refl _⟩
  | lload _ =>
    obtain ⟨_, _, hx⟩ := getJ_inv hx
    cases hx
    exact ⟨Nat.le_refl _, Nat.le_refl _⟩
  | lload_n _ =>
    obtain ⟨_, _, hx⟩ := getJ_inv hx
    cases hx
    exact ⟨Nat.le_refl _, Nat.le_refl _⟩
  | aload _ =>
    obtain ⟨_, _, hx⟩ := getR_inv hx
    cases hx
    exact ⟨Nat.le_refl _, Nat.le_refl _⟩
  | aload_n _ =>
    obtain ⟨_, _, hx⟩ := getR_inv hx
    cases hx
    exact ⟨Nat.le_refl _, Nat.le_refl _⟩
  | istore _ =>
    obtain ⟨_, _, _, hx⟩ := popI_inv hx
    obtain ⟨_, hx⟩ := grd_inv hx
    cases hx
    exact ⟨Nat.le_refl _, Nat.le_refl _⟩
  | istore_n _ =>
    obtain ⟨_, _, _, hx⟩ := popI_inv hx
    obtain ⟨_, hx⟩ := grd_inv hx
    cases hx
    exact ⟨Nat.le_refl _, Nat.le_refl _⟩
  | lstore _ =>
    obtain ⟨_, _, _, hx⟩ := popJ_inv hx
    obtain ⟨_, hx⟩ := grd_inv hx
    cases hx
    exact ⟨Nat.le_refl _, Nat.le_refl _⟩
  | lstore_n _ =>
    obtain ⟨_, _, _, hx⟩ := popJ_inv hx
    obtain ⟨_, hx⟩ := grd_inv hx
    cases hx
    exact ⟨Nat.le_refl _, Nat.le_refl _⟩
  | astore _ =>
    obtain ⟨_, _, _, hx⟩ := popR_inv hx
    obtain ⟨_, hx⟩ := grd_inv hx
    cases hx
    exact ⟨Nat.le_refl _, Nat.le_refl _⟩
  | astore_n _ =>
    obtain ⟨_, _, _, hx⟩ := popR_inv hx
    obtain ⟨_, hx⟩ := grd_inv hx
    cases hx
    exact ⟨Nat.le_refl _, Nat.le_refl _⟩
  | iinc _ _ =>
    obtain ⟨_, _, hx⟩ := getI_inv hx
    obtain ⟨_, hx⟩ := grd_inv hx
    cases hx
    exact ⟨Nat.le_refl _, Nat.le_refl _⟩
  | iadd =>
    obtain ⟨_, _, _, hx⟩ := popI_inv hx
    obtain ⟨_, _, _, hx⟩ := popI_inv hx
    obtain ⟨_, hx⟩ := grd_inv hx
    cases hx
    exact ⟨Nat.le_refl _, Nat.le_refl _⟩
  | isub =>
    obtain ⟨_, _, _, hx⟩ := popI_inv hx
    obtain ⟨_, _, _, hx⟩ := popI_inv hx
    obtain ⟨_, hx⟩ := grd_inv hx
    cases hx
    exact ⟨Nat.le_refl _, Nat.le_refl _⟩
  | imul =>
    obtain ⟨_, _, _, hx⟩ := popI_inv hx
    obtain ⟨_, _, _, hx⟩ := popI_inv hx
    obtain ⟨_, hx⟩ := grd_inv hx
    cases hx
    exact ⟨Nat.le_refl _, Nat.le_refl _⟩
  | idiv =>
    obtain ⟨_, _, _, hx⟩ := popI_inv hx
    obtain ⟨_, _, _, hx⟩ := popI_inv hx
    obtain ⟨_, hx⟩ := grd_inv hx
    cases hx
    exact ⟨Nat.le_refl _, Nat.le_refl _⟩
  | irem =>
    obtain ⟨_, _, _, hx⟩ := popI_inv hx
    obtain ⟨_, _, _, hx⟩ := popI_inv hx
    obtain ⟨_, hx⟩ := grd_inv hx
    cases hx
    exact ⟨Nat.le_refl _, Nat.le_refl _⟩
  | iand =>
    obtain ⟨_, _, _, hx⟩ := popI_inv hx
    obtain ⟨_, _, _, hx⟩ := popI_inv hx
    cases hx
    exact ⟨Nat.le_refl _, Nat.le_refl _⟩
  | ior =>
    obtain ⟨_, _, _, hx⟩ := popI_inv hx
    obtain ⟨_, _, _, hx⟩ := popI_inv hx
    cases hx
    exact ⟨Nat.le_refl _, Nat.le_refl _⟩
  | ixor =>
    obtain ⟨_, _, _, hx⟩ := popI_inv hx
    obtain ⟨_, _, _, hx⟩ := popI_inv hx
    cases hx
    exact ⟨Nat.le_refl _, Nat.le_refl _⟩
  | ishl =>
    obtain ⟨_, _, _, hx⟩ := popI_inv hx
    obtain ⟨_, _, _, hx⟩ := popI_inv hx
    cases hx
    exact ⟨Nat.le_refl _, Nat.le_refl _⟩
  | ishr =>
    obtain ⟨_, _, _, hx⟩ := popI_inv hx
    obtain ⟨_, _, _, hx⟩ := popI_inv hx
    cases hx
    exact ⟨Nat.le_refl _, Nat.le_refl _⟩
  | iushr =>
    obtain ⟨_, _, _, hx⟩ := popI_inv hx
    obtain ⟨_, _, _, hx⟩ := popI_inv hx
    cases hx
    exact ⟨Nat.le_refl _, Nat.le_refl _⟩
  | i2b =>
    obtain ⟨_, _, _, hx⟩ := popI_inv hx
    cases hx
    exact ⟨Nat.le_refl _, Nat.le_refl _⟩
  | i2c =>
    obtain ⟨_, _, _, hx⟩ := popI_inv hx
    cases hx
    exact ⟨Nat.le_refl _, Nat.le_refl _⟩
  | i2l =>
    obtain ⟨_, _, _, hx⟩ := popI_inv hx
    cases hx
    exact ⟨Nat.le_refl _, Nat.le_refl _⟩
  | l2i =>
    obtain ⟨_, _, _, hx⟩ := popJ_inv hx
    cases hx
    exact ⟨Nat.le_refl _, Nat.le_refl _⟩
  | land =>
    obtain ⟨_, _, _, hx⟩ := popJ_inv hx
    obtain ⟨_, _, _, hx⟩ := popJ_inv hx
    cases hx
    exact ⟨Nat.le_refl _, Nat.le_refl _⟩
  | lor =>
    obtain ⟨_, _, _, hx⟩ := popJ_inv hx
    obtain ⟨_, _, _, hx⟩ := popJ_inv hx
    cases hx
    exact ⟨Nat.le_refl _, Nat.le_refl _⟩
  | lxor =>
    obtain ⟨_, _, _, hx⟩ := popJ_inv hx
    obtain ⟨_, _, _, hx⟩ := popJ_inv hx
    cases hx
    exact ⟨Nat.le_refl _, Nat.le_refl _⟩
  | lmul =>
    obtain ⟨_, _, _, hx⟩ := popJ_inv hx
    obtain ⟨_, _, _, hx⟩ := popJ_inv hx
    cases hx
    exact ⟨Nat.le_refl _, Nat.le_refl _⟩
  | lshl =>
    obtain ⟨_, _, _, hx⟩ := popI_inv hx
    obtain ⟨_, _, _, hx⟩ := popJ_inv hx
    cases hx
    exact ⟨Nat.le_refl _, Nat.le_refl _⟩
  | lushr =>
    obtain ⟨_, _, _, hx⟩ := popI_inv hx
    obtain ⟨_, _, _, hx⟩ := popJ_inv hx
    cases hx
    exact ⟨Nat.le_refl _, Nat.le_refl _⟩
  | lcmp =>
    obtain ⟨_, _, _, hx⟩ := popJ_inv hx
    obtain ⟨_, _, _, hx⟩ := popJ_inv hx
    cases hx
    exact ⟨Nat.le_refl _, Nat.le_refl _⟩
  | dup2 =>
    obtain ⟨_, _, _, hx⟩ := popI_inv hx
    obtain ⟨_, _, _, hx⟩ := popR_inv hx
    cases hx
    exact ⟨Nat.le_refl _, Nat.le_refl _⟩
  | goto _ =>
    obtain ⟨_, hx⟩ := grd_inv hx
    cases hx
    exact ⟨Nat.le_refl _, Nat.le_refl _⟩
  | ifCond _ _ =>
    obtain ⟨_, _, _, hx⟩ := popI_inv hx
    obtain ⟨_, hx⟩ := grd_inv hx
    cases hx
    exact ⟨Nat.le_refl _, Nat.le_refl _⟩
  | if_icmp _ _ =>
    obtain ⟨_, _, _, hx⟩ := popI_inv hx
    obtain ⟨_, _, _, hx⟩ := popI_inv hx
    obtain ⟨_, hx⟩ := grd_inv hx
    cases hx
    exact ⟨Nat.le_refl _, Nat.le_refl _⟩
  | if_acmp _ _ =>
    obtain ⟨_, _, _, hx⟩ := popR_inv hx
    obtain ⟨_, _, _, hx⟩ := popR_inv hx
    obtain ⟨_, hx⟩ := grd_inv hx
    cases hx
    exact ⟨Nat.le_refl _, Nat.le_refl _⟩
  | ifnull _ =>
    obtain ⟨_, _, _, hx⟩ := popR_inv hx
    obtain ⟨_, hx⟩ := grd_inv hx
    cases hx
    exact ⟨Nat.le_refl _, Nat.le_refl _⟩
  | ifnonnull _ =>
    obtain ⟨_, _, _, hx⟩ := popR_inv hx
    obtain ⟨_, hx⟩ := grd_inv hx
    cases hx
    exact ⟨Nat.le_refl _, Nat.le_refl _⟩
  | tableswitch _ _ _ _ =>
    obtain ⟨_, _, _, hx⟩ := popI_inv hx
    obtain ⟨_, hx⟩ := grd_inv hx
    cases hx
    exact ⟨Nat.le_refl _, Nat.le_refl _⟩
  | getfield _ =>
    obtain ⟨_, _, _, hx⟩ := popA_inv hx
    obtain ⟨_, hx⟩ := grd_inv hx
    cases hx
    exact ⟨Nat.le_refl _, Nat.le_refl _⟩
  | fload _ =>
    obtain ⟨_, _, _, hx⟩ := popA_inv hx
    obtain ⟨_, hx⟩ := grd_inv hx
    cases hx
    exact ⟨Nat.le_refl _, Nat.le_refl _⟩
  | dload _ =>
    obtain ⟨_, _, _, hx⟩ := popA_inv hx
    obtain ⟨_, hx⟩ := grd_inv hx
    cases hx
    exact ⟨Nat.le_refl _, Nat.le_refl _⟩
  | putfield _ =>
    obtain ⟨_, _, _, hx⟩ := popI_inv hx
    obtain ⟨_, _, _, hx⟩ := popA_inv hx
    obtain ⟨_, hx⟩ := grd_inv hx
    cases hx
    exact ⟨Nat.le_refl _, Nat.le_refl _⟩
  | putstatic _ =>
    obtain ⟨_, _, _, hx⟩ := popI_inv hx
    obtain ⟨_, _, _, hx⟩ := popA_inv hx
    obtain ⟨_, hx⟩ := grd_inv hx
    cases hx
    exact ⟨Nat.le_refl _, Nat.le_refl _⟩
  | fstore _ =>
    obtain ⟨_, _, _, hx⟩ := popJ_inv hx
    obtain ⟨_, _, _, hx⟩ := popA_inv hx
    obtain ⟨_, hx⟩ := grd_inv hx
    cases hx
    exact ⟨Nat.le_refl _, Nat.le_refl _⟩
  | dstore _ =>
    obtain ⟨_, _, _, hx⟩ := popR_inv hx
    obtain ⟨_, _, _, hx⟩ := popA_inv hx
    obtain ⟨_, hx⟩ := grd_inv hx
    cases hx
    exact ⟨Nat.le_refl _, Nat.le_refl _⟩
  | iaload =>
    obtain ⟨_, _, _, hx⟩ := popI_inv hx
    obtain ⟨_, _, _, hx⟩ := popA_inv hx
    obtain ⟨_, hx⟩ := grd_inv hx
    cases hx
    exact ⟨Nat.le_refl _, Nat.le_refl _⟩
  | baload =>
    obtain ⟨_, _, _, hx⟩ := popI_inv hx
    obtain ⟨_, _, _, hx⟩ := popA_inv hx
    obtain ⟨_, hx⟩ := grd_inv hx
    cases hx
    exact ⟨Nat.le_refl _, Nat.le_refl _⟩
  | laload =>
    obtain ⟨_, _, _, hx⟩ := popI_inv hx
    obtain ⟨_, _, _, hx⟩ := popA_inv hx
    obtain ⟨_, hx⟩ := grd_inv hx
    cases hx
    exact ⟨Nat.le_refl _, Nat.le_refl _⟩
  | aaload =>
    obtain ⟨_, _, _, hx⟩ := popI_inv hx
    obtain ⟨_, _, _, hx⟩ := popA_inv hx
    obtain ⟨_, hx⟩ := grd_inv hx
    cases hx
    exact ⟨Nat.le_refl _, Nat.le_refl _⟩
  | iastore =>
    obtain ⟨_, _, _, hx⟩ := popI_inv hx
    obtain ⟨_, _, _, hx⟩ := popI_inv hx
    obtain ⟨_, _, _, hx⟩ := popA_inv hx
    obtain ⟨_, hx⟩ := grd_inv hx
    cases hx
    exact ⟨Nat.le_refl _, Nat.le_refl _⟩
  | bastore =>
    obtain ⟨_, _, _, hx⟩ := popI_inv hx
    obtain ⟨_, _, _, hx⟩ := popI_inv hx
    obtain ⟨_, _, _, hx⟩ := popA_inv hx
    obtain ⟨_, hx⟩ := grd_inv hx
    cases hx
    exact ⟨Nat.le_refl _, Nat.le_refl _⟩
  | lastore =>
    obtain ⟨_, _, _, hx⟩ := popJ_inv hx
    obtain ⟨_, _, _, hx⟩ := popI_inv hx
    obtain ⟨_, _, _, hx⟩ := popA_inv hx
    obtain ⟨_, hx⟩ := grd_inv hx
    cases hx
    exact ⟨Nat.le_refl _, Nat.le_refl _⟩
  | aastore =>
    obtain ⟨_, _, _, hx⟩ := popA_inv hx
    obtain ⟨_, _, _, hx⟩ := popI_inv hx
    obtain ⟨_, _, _, hx⟩ := popA_inv hx
    obtain ⟨_, hx⟩ := grd_inv hx
    cases hx
    exact ⟨Nat.le_refl _, Nat.le_refl _⟩
  | arraylength =>
    obtain ⟨_, _, _, hx⟩ := popA_inv hx
    obtain ⟨_, hx⟩ := grd_inv hx
    cases hx
    exact ⟨Nat.le_refl _, Nat.le_refl _⟩
  | checkcast _ =>
    obtain ⟨_, _, _, hx⟩ := popA_inv hx
    obtain ⟨_, hx⟩ := grd_inv hx
    cases hx
    exact ⟨Nat.le_refl _, Nat.le_refl _⟩
  | invokespecial _ =>
    obtain ⟨_, _, _, hx⟩ := popA_inv hx
    obtain ⟨_, hx⟩ := grd_inv hx
    cases hx
    exact ⟨Nat.le_refl _, Nat.le_refl _⟩
  | _ => exact nomatch (show (none : Option SR) = some z from hx)
/-- does an instruction end a method, and with what? -/
def isEnd : Instr → Bool
  | .return_ | .ireturn | .freturn | .ret _ | .lreturn | .areturn => true
  | _ => false
def rend (I : Instr) (st : List MV) : Option (Option MV) := match I with
  | .return_ => grd (st.isEmpty = true) (some none)
  | .ireturn => popI st fun x r => grd (r.isEmpty = true) (some (some (vI x)))
  | .freturn => popI st fun x r => grd (r.isEmpty = true ∧ (x = 0 ∨ x = 1)) (some (some (vI x)))
  | .ret w => popI st fun x r => grd (r.isEmpty = true ∧ ((w = 0 ∧ -128 ≤ x ∧ x < 128) ∨ (w = 1 ∧ 0 ≤ x ∧ x < 65536))) (some (some (vI x)))
  | .lreturn => popJ st fun x r => grd (r.isEmpty = true) (some (some (vJ x)))
  | .areturn => popR st fun x r => grd (r.isEmpty = true) (some (some (vR x)))
  | _ => none
def isCall : Instr → Option Nat
  | .invokevirtual j => some j
  | _ => none
/-- the machine: fuel, depth, method, place, locals, stack, heap -/
def rn (G : Nat → Option Nat) : Nat → Nat → Nat → Nat → List (Option MV) → List MV → Hp → Option (Option MV × Hp)
  | 0, _, _, _, _, _, _ => none
  | n + 1, d, k, pc, ls, st, h => (dc k pc).bind fun q =>
    if isEnd q.1 = true then (rend q.1 st).map fun r => (r, h) else
    match isCall q.1 with
    | some j => grd (1 ≤ d ∧ (argN j ≤ st.length ∧ st.length ≤ argN j + 4) ∧ rok j (st.take (argN j)).reverse h = true ∧ (lay 0 (st.take (argN j)).reverse).length ≤ mxl j)
        ((rn G n (d - 1) j 0 (lay (mxl j) (st.take (argN j)).reverse) [] h).bind fun y => rn G n d k q.2 ls (y.1.toList ++ st.drop (argN j)) y.2)
    | none => (sx G d q.1 q.2 ls st h).bind fun z => rn G n d k z.1 z.2.1 z.2.2.1 z.2.2.2
def ends (I : Instr) (r : Option MV) : Prop := match I with
  | .return_ => r = none
  | .ireturn => ∃ x, r = some (vI x)
  | .freturn => ∃ x, r = some (vI x) ∧ (x = 0 ∨ x = 1)
  | .ret w => ∃ x, r = some (vI x) ∧ ((w = 0 ∧ -128 ≤ x ∧ x < 128) ∨ (w = 1 ∧ 0 ≤ x ∧ x < 65536))
  | .lreturn => ∃ x, r = some (vJ x)
  | .areturn => ∃ x, r = some (vR x)
  | _ => False
theorem rend_ok {I : Instr} {st : List MV} {r : Option MV} (h : rend I st = some r) : ends I r ∧ st = r.toList := by
  cases I with
  | return_ =>
    obtain ⟨b, h⟩ := grd_inv h
    cases h
    exact ⟨rfl, List.isEmpty_iff.mp b⟩
  | ireturn =>
    obtain ⟨x, q, rfl, h⟩ := popI_inv h
    obtain ⟨b, h⟩ := grd_inv h
    cases h
    exact ⟨⟨x, rfl⟩, by rw [List.isEmpty_iff.mp b]; rfl⟩
  | freturn =>
    obtain ⟨x, q, rfl, h⟩ := popI_inv h
    obtain ⟨⟨b, b2⟩, h⟩ := grd_inv h
    cases h
    exact ⟨⟨x, rfl, b2⟩, by rw [List.isEmpty_iff.mp b]; rfl⟩
  | ret w =>
    obtain ⟨x, q, rfl, h⟩ := popI_inv h
    obtain ⟨⟨b, b2⟩, h⟩ := grd_inv h
    cases h
    exact ⟨⟨x, rfl, b2⟩, by rw [List.isEmpty_iff.mp b]; rfl⟩
  | lreturn =>
    obtain ⟨x, q, rfl, h⟩ := popJ_inv h
    obtain ⟨b, h⟩ := grd_inv h
    cases h
    exact ⟨⟨x, rfl⟩, by rw [List.isEmpty_iff.mp b]; rfl⟩
  | areturn =>
    obtain ⟨x, q, rfl, h⟩ := popR_inv h
    obtain ⟨b, h⟩ := grd_inv h
    cases h
    exact ⟨⟨x, rfl⟩, by rw [List.isEmpty_iff.mp b]; rfl⟩
  | _ => exact nomatch (show (none : Option (Option MV)) = some r from h)
theorem isCall_ok {I : Instr} {j : Nat} (h : isCall I = some j) : I = .invokevirtual j := by
  unfold isCall at h
  split at h
  · cases h; rfl
  · cases h
/-- a run, a step at a time -/
theorem rn_step {G : Nat → Option Nat} {n d k pc : Nat} {lo : List (Option MV)} {st : List MV} {h h' : Hp} {r : Option MV} (hr : rn G (n + 1) d k pc lo st h = some (r, h')) :
    ∃ I pc', dc k pc = some (I, pc') ∧ ((ends I r ∧ st = r.toList ∧ h' = h) ∨
      (∃ j d' r2 h2, I = .invokevirtual j ∧ d = d' + 1 ∧ (argN j ≤ st.length ∧ st.length ≤ argN j + 4) ∧ rok j (st.take (argN j)).reverse h = true ∧ (lay 0 (st.take (argN j)).reverse).length ≤ mxl j ∧ rn G n d' j 0 (lay (mxl j) (st.take (argN j)).reverse) [] h = some (r2, h2) ∧ rn G n d k pc' lo (r2.toList ++ st.drop (argN j)) h2 = some (r, h')) ∨
      (∃ z, sx G d I pc' lo st h = some z ∧ rn G n d k z.1 z.2.1 z.2.2.1 z.2.2.2 = some (r, h'))) := by
  unfold rn at hr
  obtain ⟨⟨I, pc'⟩, hd, hr⟩ := Option.bind_eq_some_iff.mp hr
  refine ⟨I, pc', hd, ?_⟩
  dsimp only at hr
  split at hr
  · obtain ⟨r1, h1, h2⟩ := Option.map_eq_some_iff.mp hr
    cases h2
    obtain ⟨a, b⟩ := rend_ok h1
    exact Or.inl ⟨a, b, rfl⟩
  · split at hr
    · rename_i j hc
      obtain ⟨⟨b1, b2, b3, b4⟩, hr⟩ := grd_inv hr
      obtain ⟨⟨r2, h2⟩, e1, e2⟩ := Option.bind_eq_some_iff.mp hr
      exact Or.inr (Or.inl ⟨j, d - 1, r2, h2, isCall_ok hc, by omega, b2, b3, b4, e1, e2⟩)
    · obtain ⟨z, e1, e2⟩ := Option.bind_eq_some_iff.mp hr
      exact Or.inr (Or.inr ⟨z, e1, e2⟩)
theorem rn_mono {G : Nat → Option Nat} : ∀ {n d k pc : Nat} {lo : List (Option MV)} {st : List MV} {h h' : Hp} {r : Option MV}, rn G n d k pc lo st h = some (r, h') → NX h ≤ NX h' ∧ SL h ≤ SL h'
  | 0, _, _, _, _, _, _, _, _, hr => by cases hr
  | n + 1, d, k, pc, lo, st, h, h', r, hr => by
    obtain ⟨I, pc', -, q⟩ := rn_step hr
    rcases q with ⟨-, -, rfl⟩ | ⟨j, d', r2, h2, -, -, -, -, -, e1, e2⟩ | ⟨z, e1, e2⟩
    · exact ⟨Nat.le_refl _, Nat.le_refl _⟩
    · have a := rn_mono e1
      have b := rn_mono e2
      exact ⟨Nat.le_trans a.1 b.1, Nat.le_trans a.2 b.2⟩
    · have a := sx_mono e1
      have b := rn_mono e2
      exact ⟨Nat.le_trans a.1 b.1, Nat.le_trans a.2 b.2⟩
