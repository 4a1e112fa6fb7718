/-! a run with more locals known (written by wip/tools/gen24.py) -/
set_option maxHeartbeats 4000000 in
theorem sx_more {G : Nat → Option Nat} {d pc' : Nat} {I : Instr} {l m : List (Option MV)} {st : List MV} {h : Hp} {z : SR} (hl : lsG l m) (hx : sx G d I pc' l st h = some z) : ∃ m', sx G d I pc' m st h = some (z.1, m', z.2.2.1, z.2.2.2) ∧ lsG z.2.1 m' := by
  cases I with
  | aconst_null =>
    cases hx
    exact ⟨_, rfl, hl⟩
  | iconst n =>
    obtain ⟨b, hx⟩ := grd_inv hx
    cases hx
    exact ⟨_, grd_yes b, hl⟩
  | bipush n =>
    obtain ⟨b, hx⟩ := grd_inv hx
    cases hx
    exact ⟨_, grd_yes b, hl⟩
  | sipush n =>
    obtain ⟨b, hx⟩ := grd_inv hx
    cases hx
    exact ⟨_, grd_yes b, hl⟩
  | lconst n =>
    cases hx
    exact ⟨_, rfl, hl⟩
  | getstatic g =>
    cases hx
    exact ⟨_, rfl, hl⟩
  | ldc2_w t =>
    cases hx
    exact ⟨_, rfl, hl⟩
  | iload i =>
    obtain ⟨_, e, hx⟩ := getI_inv hx
    cases hx
    refine ⟨_, ?_, hl⟩
    simp only [sx, getI, hl.2 _ _ e]
  | iload_n i =>
    obtain ⟨_, e, hx⟩ := getI_inv hx
    cases hx
    refine ⟨_, ?_, hl⟩
    simp only [sx, getI, hl.2 _ _ e]
  | lload i =>
    obtain ⟨_, e, hx⟩ := getJ_inv hx
    cases hx
    refine ⟨_, ?_, hl⟩
    simp only [sx, getJ, hl.2 _ _ e]
  | lload_n i =>
    obtain ⟨_, e, hx⟩ := getJ_inv hx
    cases hx
    refine ⟨_, ?_, hl⟩
    simp only [sx, getJ, hl.2 _ _ e]
  | aload i =>
    obtain ⟨_, e, hx⟩ := getR_inv hx
    cases hx
    refine ⟨_, ?_, hl⟩
    simp only [sx, getR, hl.2 _ _ e]
  | aload_n i =>
    obtain ⟨_, e, hx⟩ := getR_inv hx
    cases hx
    refine ⟨_, ?_, hl⟩
    simp only [sx, getR, hl.2 _ _ e]
  | istore i =>
    obtain ⟨_, _, rfl, hx⟩ := popI_inv hx
    obtain ⟨b, hx⟩ := grd_inv hx
    cases hx
    exact ⟨_, grd_yes (by rw [← hl.1]; exact b), lsG_st hl _ _⟩
  | istore_n i =>
    obtain ⟨_, _, rfl, hx⟩ := popI_inv hx
    obtain ⟨b, hx⟩ := grd_inv hx
    cases hx
    exact ⟨_, grd_yes (by rw [← hl.1]; exact b), lsG_st hl _ _⟩
  | lstore i =>
    obtain ⟨_, _, rfl, hx⟩ := popJ_inv hx
    obtain ⟨b, hx⟩ := grd_inv hx
    cases hx
    exact ⟨_, grd_yes (by rw [← hl.1]; exact b), lsG_set (lsG_st hl _ _) _ _⟩
  | lstore_n i =>
    obtain ⟨_, _, rfl, hx⟩ := popJ_inv hx
    obtain ⟨b, hx⟩ := grd_inv hx
    cases hx
    exact ⟨_, grd_yes (by rw [← hl.1]; exact b), lsG_set (lsG_st hl _ _) _ _⟩
  | astore i =>
    obtain ⟨_, _, rfl, hx⟩ := popR_inv hx
    obtain ⟨b, hx⟩ := grd_inv hx
    cases hx
    exact ⟨_, grd_yes (by rw [← hl.1]; exact b), lsG_st hl _ _⟩
  | astore_n i =>
    obtain ⟨_, _, rfl, hx⟩ := popR_inv hx
    obtain ⟨b, hx⟩ := grd_inv hx
    cases hx
    exact ⟨_, grd_yes (by rw [← hl.1]; exact b), lsG_st hl _ _⟩
  | iinc i n =>
    obtain ⟨_, e, hx⟩ := getI_inv hx
    obtain ⟨b, hx⟩ := grd_inv hx
    cases hx
    refine ⟨_, ?_, lsG_st hl _ _⟩
    simp only [sx, getI, hl.2 _ _ e]
    exact grd_yes b
  | iadd =>
    obtain ⟨_, _, rfl, hx⟩ := popI_inv hx
    obtain ⟨_, _, rfl, hx⟩ := popI_inv hx
    obtain ⟨b, hx⟩ := grd_inv hx
    cases hx
    exact ⟨_, grd_yes b, hl⟩
  | isub =>
    obtain ⟨_, _, rfl, hx⟩ := popI_inv hx
    obtain ⟨_, _, rfl, hx⟩ := popI_inv hx
    obtain ⟨b, hx⟩ := grd_inv hx
    cases hx
    exact ⟨_, grd_yes b, hl⟩
  | imul =>
    obtain ⟨_, _, rfl, hx⟩ := popI_inv hx
    obtain ⟨_, _, rfl, hx⟩ := popI_inv hx
    obtain ⟨b, hx⟩ := grd_inv hx
    cases hx
    exact ⟨_, grd_yes b, hl⟩
  | idiv =>
    obtain ⟨_, _, rfl, hx⟩ := popI_inv hx
    obtain ⟨_, _, rfl, hx⟩ := popI_inv hx
    obtain ⟨b, hx⟩ := grd_inv hx
    cases hx
    exact ⟨_, grd_yes b, hl⟩
  | irem =>
    obtain ⟨_, _, rfl, hx⟩ := popI_inv hx
    obtain ⟨_, _, rfl, hx⟩ := popI_inv hx
    obtain ⟨b, hx⟩ := grd_inv hx
    cases hx
    exact ⟨_, grd_yes b, hl⟩
  | iand =>
    obtain ⟨_, _, rfl, hx⟩ := popI_inv hx
    obtain ⟨_, _, rfl, hx⟩ := popI_inv hx
    cases hx
    exact ⟨_, rfl, hl⟩
  | ior =>
    obtain ⟨_, _, rfl, hx⟩ := popI_inv hx
    obtain ⟨_, _, rfl, hx⟩ := popI_inv hx
    cases hx
    exact ⟨_, rfl, hl⟩
  | ixor =>
    obtain ⟨_, _, rfl, hx⟩ := popI_inv hx
    obtain ⟨_, _, rfl, hx⟩ := popI_inv hx
    cases hx
    exact ⟨_, rfl, hl⟩
  | ishl =>
    obtain ⟨_, _, rfl, hx⟩ := popI_inv hx
    obtain ⟨_, _, rfl, hx⟩ := popI_inv hx
    cases hx
    exact ⟨_, rfl, hl⟩
  | ishr =>
    obtain ⟨_, _, rfl, hx⟩ := popI_inv hx
    obtain ⟨_, _, rfl, hx⟩ := popI_inv hx
    cases hx
    exact ⟨_, rfl, hl⟩
  | iushr =>
    obtain ⟨_, _, rfl, hx⟩ := popI_inv hx
    obtain ⟨_, _, rfl, hx⟩ := popI_inv hx
    cases hx
    exact ⟨_, rfl, hl⟩
  | i2b =>
    obtain ⟨_, _, rfl, hx⟩ := popI_inv hx
    cases hx
    exact ⟨_, rfl, hl⟩
  | i2c =>
    obtain ⟨_, _, rfl, hx⟩ := popI_inv hx
    cases hx
    exact ⟨_, rfl, hl⟩
  | i2l =>
    obtain ⟨_, _, rfl, hx⟩ := popI_inv hx
    cases hx
    exact ⟨_, rfl, hl⟩
  | l2i =>
    obtain ⟨_, _, rfl, hx⟩ := popJ_inv hx
    cases hx
    exact ⟨_, rfl, hl⟩
  | land =>
    obtain ⟨_, _, rfl, hx⟩ := popJ_inv hx
    obtain ⟨_, _, rfl, hx⟩ := popJ_inv hx
    cases hx
    exact ⟨_, rfl, hl⟩
  | lor =>
    obtain ⟨_, _, rfl, hx⟩ := popJ_inv hx
    obtain ⟨_, _, rfl, hx⟩ := popJ_inv hx
    cases hx
    exact ⟨_, rfl, hl⟩
  | lxor =>
    obtain ⟨_, _, rfl, hx⟩ := popJ_inv hx
    obtain ⟨_, _, rfl, hx⟩ := popJ_inv hx
    cases hx
    exact ⟨_, rfl, hl⟩
  | lmul =>
    obtain ⟨_, _, rfl, hx⟩ := popJ_inv hx
    obtain ⟨_, _, rfl, hx⟩ := popJ_inv hx
    cases hx
    exact ⟨_, rfl, hl⟩
  | lshl =>
    obtain ⟨_, _, rfl, hx⟩ := popI_inv hx
    obtain ⟨_, _, rfl, hx⟩ := popJ_inv hx
    cases hx
    exact ⟨_, rfl, hl⟩
  | lushr =>
    obtain ⟨_, _, rfl, hx⟩ := popI_inv hx
    obtain ⟨_, _, rfl, hx⟩ := popJ_inv hx
    cases hx
    exact ⟨_, rfl, hl⟩
  | lcmp =>
    obtain ⟨_, _, rfl, hx⟩ := popJ_inv hx
    obtain ⟨_, _, rfl, hx⟩ := popJ_inv hx
    cases hx
    exact ⟨_, rfl, hl⟩
  | dup2 =>
    obtain ⟨_, _, rfl, hx⟩ := popI_inv hx
    obtain ⟨_, _, rfl, hx⟩ := popR_inv hx
    cases hx
    exact ⟨_, rfl, hl⟩
  | goto t =>
    obtain ⟨b, hx⟩ := grd_inv hx
    cases hx
    exact ⟨_, grd_yes b, hl⟩
  | ifCond c t =>
    obtain ⟨_, _, rfl, hx⟩ := popI_inv hx
    obtain ⟨b, hx⟩ := grd_inv hx
    cases hx
    exact ⟨_, grd_yes b, hl⟩
  | if_icmp c t =>
    obtain ⟨_, _, rfl, hx⟩ := popI_inv hx
    obtain ⟨_, _, rfl, hx⟩ := popI_inv hx
    obtain ⟨b, hx⟩ := grd_inv hx
    cases hx
    exact ⟨_, grd_yes b, hl⟩
  | if_acmp c t =>
    obtain ⟨_, _, rfl, hx⟩ := popR_inv hx
    obtain ⟨_, _, rfl, hx⟩ := popR_inv hx
    obtain ⟨b, hx⟩ := grd_inv hx
    cases hx
    exact ⟨_, grd_yes b, hl⟩
  | ifnull t =>
    obtain ⟨_, _, rfl, hx⟩ := popR_inv hx
    obtain ⟨b, hx⟩ := grd_inv hx
    cases hx
    exact ⟨_, grd_yes b, hl⟩
  | ifnonnull t =>
    obtain ⟨_, _, rfl, hx⟩ := popR_inv hx
    obtain ⟨b, hx⟩ := grd_inv hx
    cases hx
    exact ⟨_, grd_yes b, hl⟩
  | tableswitch dd lo hi offs =>
    obtain ⟨_, _, rfl, hx⟩ := popI_inv hx
    obtain ⟨b, hx⟩ := grd_inv hx
    cases hx
    exact ⟨_, grd_yes b, hl⟩
  | getfield f =>
    obtain ⟨_, _, rfl, hx⟩ := popA_inv hx
    obtain ⟨b, hx⟩ := grd_inv hx
    cases hx
    exact ⟨_, grd_yes b, hl⟩
  | fload f =>
    obtain ⟨_, _, rfl, hx⟩ := popA_inv hx
    obtain ⟨b, hx⟩ := grd_inv hx
    cases hx
    exact ⟨_, grd_yes b, hl⟩
  | dload f =>
    obtain ⟨_, _, rfl, hx⟩ := popA_inv hx
    obtain ⟨b, hx⟩ := grd_inv hx
    cases hx
    exact ⟨_, grd_yes b, hl⟩
  | putfield f =>
    obtain ⟨_, _, rfl, hx⟩ := popI_inv hx
    obtain ⟨_, _, rfl, hx⟩ := popA_inv hx
    obtain ⟨b, hx⟩ := grd_inv hx
    cases hx
    exact ⟨_, grd_yes b, hl⟩
  | putstatic f =>
    obtain ⟨_, _, rfl, hx⟩ := popI_inv hx
    obtain ⟨_, _, rfl, hx⟩ := popA_inv hx
    obtain ⟨b, hx⟩ := grd_inv hx
    cases hx
    exact ⟨_, grd_yes b, hl⟩
  | fstore f =>
    obtain ⟨_, _, rfl, hx⟩ := popJ_inv hx
    obtain ⟨_, _, rfl, hx⟩ := popA_inv hx
    obtain ⟨b, hx⟩ := grd_inv hx
    cases hx
    exact ⟨_, grd_yes b, hl⟩
  | dstore f =>
    obtain ⟨_, _, rfl, hx⟩ := popR_inv hx
    obtain ⟨_, _, rfl, hx⟩ := popA_inv hx
    obtain ⟨b, hx⟩ := grd_inv hx
    cases hx
    exact ⟨_, grd_yes b, hl⟩
  | iaload =>
    obtain ⟨_, _, rfl, hx⟩ := popI_inv hx
    obtain ⟨_, _, rfl, hx⟩ := popA_inv hx
    obtain ⟨b, hx⟩ := grd_inv hx
    cases hx
    exact ⟨_, grd_yes b, hl⟩
  | baload =>
    obtain ⟨_, _, rfl, hx⟩ := popI_inv hx
    obtain ⟨_, _, rfl, hx⟩ := popA_inv hx
    obtain ⟨b, hx⟩ := grd_inv hx
    cases hx
    exact ⟨_, grd_yes b, hl⟩
  | laload =>
    obtain ⟨_, _, rfl, hx⟩ := popI_inv hx
    obtain ⟨_, _, rfl, hx⟩ := popA_inv hx
    obtain ⟨b, hx⟩ := grd_inv hx
    cases hx
    exact ⟨_, grd_yes b, hl⟩
  | aaload =>
    obtain ⟨_, _, rfl, hx⟩ := popI_inv hx
    obtain ⟨_, _, rfl, hx⟩ := popA_inv hx
    obtain ⟨b, hx⟩ := grd_inv hx
    cases hx
    exact ⟨_, grd_yes b, hl⟩
  | iastore =>
    obtain ⟨_, _, rfl, hx⟩ := popI_inv hx
    obtain ⟨_, _, rfl, hx⟩ := popI_inv hx
    obtain ⟨_, _, rfl, hx⟩ := popA_inv hx
    obtain ⟨b, hx⟩ := grd_inv hx
    cases hx
    exact ⟨_, grd_yes b, hl⟩
  | bastore =>
    obtain ⟨_, _, rfl, hx⟩ := popI_inv hx
    obtain ⟨_, _, rfl, hx⟩ := popI_inv hx
    obtain ⟨_, _, rfl, hx⟩ := popA_inv hx
    obtain ⟨b, hx⟩ := grd_inv hx
    cases hx
    exact ⟨_, grd_yes b, hl⟩
  | lastore =>
    obtain ⟨_, _, rfl, hx⟩ := popJ_inv hx
    obtain ⟨_, _, rfl, hx⟩ := popI_inv hx
    obtain ⟨_, _, rfl, hx⟩ := popA_inv hx
    obtain ⟨b, hx⟩ := grd_inv hx
    cases hx
    exact ⟨_, grd_yes b, hl⟩
  | aastore =>
    obtain ⟨_, _, rfl, hx⟩ := popA_inv hx
    obtain ⟨_, _, rfl, hx⟩ := popI_inv hx
    obtain ⟨_, _, rfl, hx⟩ := popA_inv hx
    obtain ⟨b, hx⟩ := grd_inv hx
    cases hx
    exact ⟨_, grd_yes b, hl⟩
  | arraylength =>
    obtain ⟨_, _, rfl, hx⟩ := popA_inv hx
    obtain ⟨b, hx⟩ := grd_inv hx
    cases hx
    exact ⟨_, grd_yes b, hl⟩
  | new c =>
    obtain ⟨b, hx⟩ := grd_inv hx
    cases hx
    exact ⟨_, grd_yes b, hl⟩
  | newarray t =>
    obtain ⟨_, _, rfl, hx⟩ := popI_inv hx
    obtain ⟨b, hx⟩ := grd_inv hx
    cases hx
    exact ⟨_, grd_yes b, hl⟩
  | anewarray e =>
    obtain ⟨_, _, rfl, hx⟩ := popI_inv hx
    obtain ⟨b, hx⟩ := grd_inv hx
    cases hx
    exact ⟨_, grd_yes b, hl⟩
  | multianewarray e dd =>
    obtain ⟨_, _, rfl, hx⟩ := popI_inv hx
    obtain ⟨_, _, rfl, hx⟩ := popI_inv hx
    obtain ⟨b, hx⟩ := grd_inv hx
    cases hx
    exact ⟨_, grd_yes b, hl⟩
  | checkcast e =>
    obtain ⟨_, _, rfl, hx⟩ := popA_inv hx
    obtain ⟨b, hx⟩ := grd_inv hx
    cases hx
    exact ⟨_, grd_yes b, hl⟩
  | invokespecial _ =>
    obtain ⟨_, _, rfl, hx⟩ := popA_inv hx
    obtain ⟨b, hx⟩ := grd_inv hx
    cases hx
    exact ⟨_, grd_yes b, hl⟩
  | invokestatic j =>
    match j, hx with
    | 0, hx =>
      obtain ⟨_, _, rfl, hx⟩ := popI_inv hx
      obtain ⟨_, _, rfl, hx⟩ := popI_inv hx
      obtain ⟨_, _, rfl, hx⟩ := popA_inv hx
      obtain ⟨_, _, rfl, hx⟩ := popI_inv hx
      obtain ⟨_, _, rfl, hx⟩ := popA_inv hx
      obtain ⟨b, hx⟩ := grd_inv hx
      cases hx
      exact ⟨_, grd_yes b, hl⟩
    | 1, hx =>
      obtain ⟨_, _, rfl, hx⟩ := popA_inv hx
      obtain ⟨b, hx⟩ := grd_inv hx
      cases hx
      exact ⟨_, grd_yes b, hl⟩
    | 2, hx =>
      obtain ⟨_, _, rfl, hx⟩ := popA_inv hx
      obtain ⟨b, hx⟩ := grd_inv hx
      cases hx
      exact ⟨_, grd_yes b, hl⟩
    | 3, hx =>
      obtain ⟨_, _, rfl, hx⟩ := popI_inv hx
      obtain ⟨_, _, rfl, hx⟩ := popI_inv hx
      obtain ⟨b, hx⟩ := grd_inv hx
      cases hx
      exact ⟨_, grd_yes b, hl⟩
    | 4, hx =>
      obtain ⟨_, _, rfl, hx⟩ := popI_inv hx
      obtain ⟨_, _, rfl, hx⟩ := popI_inv hx
      obtain ⟨b, hx⟩ := grd_inv hx
      cases hx
      exact ⟨_, grd_yes b, hl⟩
    | j + 5, hx => exact nomatch (show (none : Option SR) = some z from hx)
  | dup =>
    match st, hx with
    | .inl x :: r, hx => cases hx; exact ⟨_, rfl, hl⟩
    | .inr (.inr x) :: r, hx => cases hx; exact ⟨_, rfl, hl⟩
    | .inr (.inl x) :: r, hx => exact nomatch (show (none : Option SR) = some z from hx)
    | [], hx => exact nomatch (show (none : Option SR) = some z from hx)
  | pop =>
    match st, hx with
    | .inl x :: r, hx => cases hx; exact ⟨_, rfl, hl⟩
    | .inr (.inr x) :: r, hx => cases hx; exact ⟨_, rfl, hl⟩
    | .inr (.inl x) :: r, hx => exact nomatch (show (none : Option SR) = some z from hx)
    | [], hx => exact nomatch (show (none : Option SR) = some z from hx)
  | _ => exact nomatch (show (none : Option SR) = some z from hx)
theorem rn_more {G : Nat → Option Nat} : ∀ {n d k pc : Nat} {l m : List (Option MV)} {st : List MV} {h : Hp} {z : Option MV × Hp}, lsG l m → rn G n d k pc l st h = some z → rn G n d k pc m st h = some z
  | 0, _, _, _, _, _, _, _, _, _, hr => by cases hr
  | n + 1, d, k, pc, l, m, st, h, z, hl, hr => by
    unfold rn at hr ⊢
    obtain ⟨⟨I, pc'⟩, hd, hr⟩ := Option.bind_eq_some_iff.mp hr
    rw [hd, Option.bind_some]
    dsimp only at hr ⊢
    split at hr
    · rename_i he
      rw [if_pos he]
      exact hr
    · rename_i he
      rw [if_neg he]
      split at hr
      · rename_i j hc
        obtain ⟨b, hr⟩ := grd_inv hr
        rw [grd_yes b]
        obtain ⟨y, e1, e2⟩ := Option.bind_eq_some_iff.mp hr
        rw [e1, Option.bind_some]
        exact rn_more hl e2
      · rename_i hc
        obtain ⟨y, e1, e2⟩ := Option.bind_eq_some_iff.mp hr
        obtain ⟨m', g1, g2⟩ := sx_more hl e1
        rw [g1, Option.bind_some]
        exact rn_more g2 e2
/-- forget some locals -/
theorem w_less {G : Nat → Option Nat} {d k pc : Nat} {l m : List (Option MV)} {st : List MV} {h : Hp} {Q : Option MV → Hp → Prop} (hl : lsLe l m) (w : Wp G d k pc l st h Q) : Wp G d k pc m st h Q := by
  obtain ⟨n, r, h', e, q⟩ := w
  exact ⟨n, r, h', rn_more (lsLe_get hl) e, q⟩
