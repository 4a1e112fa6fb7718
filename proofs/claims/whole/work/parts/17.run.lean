set_option maxHeartbeats 4000000 in
theorem sx_len {G : Nat → Option Nat} {d pc' : Nat} {I : Instr} {lo : List (Option MV)} {st : List MV} {h : Hp} {z : SR} (hx : sx G d I pc' lo st h = some z) : z.2.1.length = lo.length := by
  cases I with
  | new i =>
    obtain ⟨_, hx⟩ := grd_inv hx
    cases hx
    rfl
  | newarray t =>
    obtain ⟨_, _, _, hx⟩ := popI_inv hx
    obtain ⟨_, hx⟩ := grd_inv hx
    cases hx
    rfl
  | anewarray t =>
    obtain ⟨_, _, _, hx⟩ := popI_inv hx
    obtain ⟨_, hx⟩ := grd_inv hx
    cases hx
    rfl
  | multianewarray t u =>
    obtain ⟨_, _, _, hx⟩ := popI_inv hx
    obtain ⟨_, _, _, hx⟩ := popI_inv hx
    obtain ⟨_, hx⟩ := grd_inv hx
    cases hx
    rfl
  | invokestatic j =>
    match j, hx with
    | 0, hx =>
      obtain ⟨_, _, _, hx⟩ := popI_inv hx
      obtain ⟨_, _, _, hx⟩ := popI_inv hx
      obtain ⟨_, _, _, hx⟩ := popA_inv hx
      obtain ⟨_, _, _, hx⟩ := popI_inv hx
      obtain ⟨_, _, _, hx⟩ := popA_inv hx
      obtain ⟨_, hx⟩ := grd_inv hx
      cases hx
      rfl
    | 1, hx =>
      obtain ⟨_, _, _, hx⟩ := popA_inv hx
      obtain ⟨_, hx⟩ := grd_inv hx
      cases hx
      rfl
    | 2, hx =>
      obtain ⟨_, _, _, hx⟩ := popA_inv hx
      obtain ⟨_, hx⟩ := grd_inv hx
      cases hx
      first | rfl | (dsimp only; rw [List.length_set, lcl_len]) | (dsimp only; rw [List.length_set, List.length_set, lcl_len])
    | 3, hx =>
      obtain ⟨_, _, _, hx⟩ := popI_inv hx
      obtain ⟨_, _, _, hx⟩ := popI_inv hx
      obtain ⟨_, hx⟩ := grd_inv hx
      cases hx
      first | rfl | (dsimp only; rw [List.length_set, lcl_len]) | (dsimp only; rw [List.length_set, List.length_set, lcl_len])
    | 4, hx =>
      obtain ⟨_, _, _, hx⟩ := popI_inv hx
      obtain ⟨_, _, _, hx⟩ := popI_inv hx
      obtain ⟨_, hx⟩ := grd_inv hx
      cases hx
      first | rfl | (dsimp only; rw [List.length_set, lcl_len]) | (dsimp only; rw [List.length_set, List.length_set, lcl_len])
    | j + 5, hx => exact nomatch (show (none : Option SR) = some z from hx)
  | dup =>
    match st, hx with
    | .inl x :: r, hx => cases hx; first | rfl | (dsimp only; rw [List.length_set, lcl_len]) | (dsimp only; rw [List.length_set, List.length_set, lcl_len])
    | .inr (.inr x) :: r, hx => cases hx; first | rfl | (dsimp only; rw [List.length_set, lcl_len]) | (dsimp only; rw [List.length_set, List.length_set, lcl_len])
  | pop =>
    match st, hx with
    | .inl x :: r, hx => cases hx; first | rfl | (dsimp only; rw [List.length_set, lcl_len]) | (dsimp only; rw [List.length_set, List.length_set, lcl_len])
    | .inr (.inr x) :: r, hx => cases hx; first | rfl | (dsimp only; rw [List.length_set, lcl_len]) | (dsimp only; rw [List.length_set, List.length_set, lcl_len])
  | aconst_null =>
    cases hx
    first | rfl | (dsimp only; rw [List.length_set, lcl_len]) | (dsimp only; rw [List.length_set, List.length_set, lcl_len])
  | iconst _ =>
    obtain ⟨_, hx⟩ := grd_inv hx
    cases hx
    first | rfl | (dsimp only; rw [List.length_set, lcl_len]) | (dsimp only; rw [List.length_set, List.length_set, lcl_len])
  | bipush _ =>
    obtain ⟨_, hx⟩ := grd_inv hx
    cases hx
    first | rfl | (dsimp only; rw [List.length_set, lcl_len]) | (dsimp only; rw [List.length_set, List.length_set, lcl_len])
  | sipush _ =>
    obtain ⟨_, hx⟩ := grd_inv hx
    cases hx
    first | rfl | (dsimp only; rw [List.length_set, lcl_len]) | (dsimp only; rw [List.length_set, List.length_set, lcl_len])
  | lconst _ =>
    cases hx
    first | rfl | (dsimp only; rw [List.length_set, lcl_len]) | (dsimp only; rw [List.length_set, List.length_set, lcl_len])
  | getstatic _ =>
    cases hx
    first | rfl | (dsimp only; rw [List.length_set, lcl_len]) | (dsimp only; rw [List.length_set, List.length_set, lcl_len])
  | ldc2_w _ =>
    cases hx
    first | rfl | (dsimp only; rw [List.length_set, lcl_len]) | (dsimp only; rw [List.length_set, List.length_set, lcl_len])
  | iload _ =>
    obtain ⟨_, _, hx⟩ := getI_inv hx
    cases hx
    first | rfl | (dsimp only; rw [List.length_set, lcl_len]) | (dsimp only; rw [List.length_set, List.length_set, lcl_len])
  | iload_n _ =>
    obtain ⟨_, _, hx⟩ := getI_inv hx
    cases hx
    first | rfl | (dsimp only; rw [List.length_set, lcl_len]) | (dsimp only; rw [List.length_set, List.length_set, lcl_len])
  | lload _ =>
    obtain ⟨_, _, hx⟩ := getJ_inv hx
    cases hx
    first | rfl | (dsimp only; rw [List.length_set, lcl_len]) | (dsimp only; rw [List.length_set, List.length_set, lcl_len])
  | lload_n _ =>
    obtain ⟨_, _, hx⟩ := getJ_inv hx
    cases hx
    first | rfl | (dsimp only; rw [List.length_set, lcl_len]) | (dsimp only; rw [List.length_set, List.length_set, lcl_len])
  | aload _ =>
    obtain ⟨_, _, hx⟩ := getR_inv hx
    cases hx
    first | rfl | (dsimp only; rw [List.length_set, lcl_len]) | (dsimp only; rw [List.length_set, List.length_set, lcl_len])
  | aload_n _ =>
    obtain ⟨_, _, hx⟩ := getR_inv hx
    cases hx
    first | rfl | (dsimp only; rw [List.length_set, lcl_len]) | (dsimp only; rw [List.length_set, List.length_set, lcl_len])
  | istore _ =>
    obtain ⟨_, _, _, hx⟩ := popI_inv hx
    obtain ⟨_, hx⟩ := grd_inv hx
    cases hx
    first | rfl | (dsimp only; rw [List.length_set, lcl_len]) | (dsimp only; rw [List.length_set, List.length_set, lcl_len])
  | istore_n _ =>
    obtain ⟨_, _, _, hx⟩ := popI_inv hx
    obtain ⟨_, hx⟩ := grd_inv hx
    cases hx
    first | rfl | (dsimp only; rw [List.length_set, lcl_len]) | (dsimp only; rw [List.length_set, List.length_set, lcl_len])
  | lstore _ =>
    obtain ⟨_, _, _, hx⟩ := popJ_inv hx
    obtain ⟨_, hx⟩ := grd_inv hx
    cases hx
    first | rfl | (dsimp only; rw [List.length_set, lcl_len]) | (dsimp only; rw [List.length_set, List.length_set, lcl_len])
  | lstore_n _ =>
    obtain ⟨_, _, _, hx⟩ := popJ_inv hx
    obtain ⟨_, hx⟩ := grd_inv hx
    cases hx
    first | rfl | (dsimp only; rw [List.length_set, lcl_len]) | (dsimp only; rw [List.length_set, List.length_set, lcl_len])
  | astore _ =>
    obtain ⟨_, _, _, hx⟩ := popR_inv hx
    obtain ⟨_, hx⟩ := grd_inv hx
    cases hx
    first | rfl | (dsimp only; rw [List.length_set, lcl_len]) | (dsimp only; rw [List.length_set, List.length_set, lcl_len])
  | astore_n _ =>
    obtain ⟨_, _, _, hx⟩ := popR_inv hx
    obtain ⟨_, hx⟩ := grd_inv hx
    cases hx
    first | rfl | (dsimp only; rw [List.length_set, lcl_len]) | (dsimp only; rw [List.length_set, List.length_set, lcl_len])
  | iinc _ _ =>
    obtain ⟨_, _, hx⟩ := getI_inv hx
    obtain ⟨_, hx⟩ := grd_inv hx
    cases hx
    first | rfl | (dsimp only; rw [List.length_set, lcl_len]) | (dsimp only; rw [List.length_set, List.length_set, lcl_len])
  | iadd =>
    obtain ⟨_, _, _, hx⟩ := popI_inv hx
    obtain ⟨_, _, _, hx⟩ := popI_inv hx
    obtain ⟨_, hx⟩ := grd_inv hx
    cases hx
    first | rfl | (dsimp only; rw [List.length_set, lcl_len]) | (dsimp only; rw [List.length_set, List.length_set, lcl_len])
  | isub =>
    obtain ⟨_, _, _, hx⟩ := popI_inv hx
    obtain ⟨_, _, _, hx⟩ := popI_inv hx
    obtain ⟨_, hx⟩ := grd_inv hx
    cases hx
    first | rfl | (dsimp only; rw [List.length_set, lcl_len]) | (dsimp only; rw [List.length_set, List.length_set, lcl_len])
  | imul =>
    obtain ⟨_, _, _, hx⟩ := popI_inv hx
    obtain ⟨_, _, _, hx⟩ := popI_inv hx
    obtain ⟨_, hx⟩ := grd_inv hx
    cases hx
    first | rfl | (dsimp only; rw [List.length_set, lcl_len]) | (dsimp only; rw [List.length_set, List.length_set, lcl_len])
  | idiv =>
    obtain ⟨_, _, _, hx⟩ := popI_inv hx
    obtain ⟨_, _, _, hx⟩ := popI_inv hx
    obtain ⟨_, hx⟩ := grd_inv hx
    cases hx
    first | rfl | (dsimp only; rw [List.length_set, lcl_len]) | (dsimp only; rw [List.length_set, List.length_set, lcl_len])
  | irem =>
    obtain ⟨_, _, _, hx⟩ := popI_inv hx
    obtain ⟨_, _, _, hx⟩ := popI_inv hx
    obtain ⟨_, hx⟩ := grd_inv hx
    cases hx
    first | rfl | (dsimp only; rw [List.length_set, lcl_len]) | (dsimp only; rw [List.length_set, List.length_set, lcl_len])
  | iand =>
    obtain ⟨_, _, _, hx⟩ := popI_inv hx
    obtain ⟨_, _, _, hx⟩ := popI_inv hx
    cases hx
    first | rfl | (dsimp only; rw [List.length_set, lcl_len]) | (dsimp only; rw [List.length_set, List.length_set, lcl_len])
  | ior =>
    obtain ⟨_, _, _, hx⟩ := popI_inv hx
    obtain ⟨_, _, _, hx⟩ := popI_inv hx
    cases hx
    first | rfl | (dsimp only; rw [List.length_set, lcl_len]) | (dsimp only; rw [List.length_set, List.length_set, lcl_len])
  | ixor =>
    obtain ⟨_, _, _, hx⟩ := popI_inv hx
    obtain ⟨_, _, _, hx⟩ := popI_inv hx
    cases hx
    first | rfl | (dsimp only; rw [List.length_set, lcl_len]) | (dsimp only; rw [List.length_set, List.length_set, lcl_len])
  | ishl =>
    obtain ⟨_, _, _, hx⟩ := popI_inv hx
    obtain ⟨_, _, _, hx⟩ := popI_inv hx
    cases hx
    first | rfl | (dsimp only; rw [List.length_set, lcl_len]) | (dsimp only; rw [List.length_set, List.length_set, lcl_len])
  | ishr =>
    obtain ⟨_, _, _, hx⟩ := popI_inv hx
    obtain ⟨_, _, _, hx⟩ := popI_inv hx
    cases hx
    first | rfl | (dsimp only; rw [List.length_set, lcl_len]) | (dsimp only; rw [List.length_set, List.length_set, lcl_len])
  | iushr =>
    obtain ⟨_, _, _, hx⟩ := popI_inv hx
    obtain ⟨_, _, _, hx⟩ := popI_inv hx
    cases hx
    first | rfl | (dsimp only; rw [List.length_set, lcl_len]) | (dsimp only; rw [List.length_set, List.length_set, lcl_len])
  | i2b =>
    obtain ⟨_, _, _, hx⟩ := popI_inv hx
    cases hx
    first | rfl | (dsimp only; rw [List.length_set, lcl_len]) | (dsimp only; rw [List.length_set, List.length_set, lcl_len])
  | i2c =>
    obtain ⟨_, _, _, hx⟩ := popI_inv hx
    cases hx
    first | rfl | (dsimp only; rw [List.length_set, lcl_len]) | (dsimp only; rw [List.length_set, List.length_set, lcl_len])
  | i2l =>
    obtain ⟨_, _, _, hx⟩ := popI_inv hx
    cases hx
    first | rfl | (dsimp only; rw [List.length_set, lcl_len]) | (dsimp only; rw [List.length_set, List.length_set, lcl_len])
  | l2i =>
    obtain ⟨_, _, _, hx⟩ := popJ_inv hx
    cases hx
    first | rfl | (dsimp only; rw [List.length_set, lcl_len]) | (dsimp only; rw [List.length_set, List.length_set, lcl_len])
  | land =>
    obtain ⟨_, _, _, hx⟩ := popJ_inv hx
    obtain ⟨_, _, _, hx⟩ := popJ_inv hx
    cases hx
    first | rfl | (dsimp only; rw [List.length_set, lcl_len]) | (dsimp only; rw [List.length_set, List.length_set, lcl_len])
  | lor =>
    obtain ⟨_, _, _, hx⟩ := popJ_inv hx
    obtain ⟨_, _, _, hx⟩ := popJ_inv hx
    cases hx
    first | rfl | (dsimp only; rw [List.length_set, lcl_len]) | (dsimp only; rw [List.length_set, List.length_set, lcl_len])
  | lxor =>
    obtain ⟨_, _, _, hx⟩ := popJ_inv hx
    obtain ⟨_, _, _, hx⟩ := popJ_inv hx
    cases hx
    first | rfl | (dsimp only; rw [List.length_set, lcl_len]) | (dsimp only; rw [List.length_set, List.length_set, lcl_len])
  | lmul =>
    obtain ⟨_, _, _, hx⟩ := popJ_inv hx
    obtain ⟨_, _, _, hx⟩ := popJ_inv hx
    cases hx
    first | rfl | (dsimp only; rw [List.length_set, lcl_len]) | (dsimp only; rw [List.length_set, List.length_set, lcl_len])
  | lshl =>
    obtain ⟨_, _, _, hx⟩ := popI_inv hx
    obtain ⟨_, _, _, hx⟩ := popJ_inv hx
    cases hx
    first | rfl | (dsimp only; rw [List.length_set, lcl_len]) | (dsimp only; rw [List.length_set, List.length_set, lcl_len])
  | lushr =>
    obtain ⟨_, _, _, hx⟩ := popI_inv hx
    obtain ⟨_, _, _, hx⟩ := popJ_inv hx
    cases hx
    first | rfl | (dsimp only; rw [List.length_set, lcl_len]) | (dsimp only; rw [List.length_set, List.length_set, lcl_len])
  | lcmp =>
    obtain ⟨_, _, _, hx⟩ := popJ_inv hx
    obtain ⟨_, _, _, hx⟩ := popJ_inv hx
    cases hx
    first | rfl | (dsimp only; rw [List.length_set, lcl_len]) | (dsimp only; rw [List.length_set, List.length_set, lcl_len])
  | dup2 =>
    obtain ⟨_, _, _, hx⟩ := popI_inv hx
    obtain ⟨_, _, _, hx⟩ := popR_inv hx
    cases hx
    first | rfl | (dsimp only; rw [List.length_set, lcl_len]) | (dsimp only; rw [List.length_set, List.length_set, lcl_len])
  | goto _ =>
    obtain ⟨_, hx⟩ := grd_inv hx
    cases hx
    first | rfl | (dsimp only; rw [List.length_set, lcl_len]) | (dsimp only; rw [List.length_set, List.length_set, lcl_len])
  | ifCond _ _ =>
    obtain ⟨_, _, _, hx⟩ := popI_inv hx
    obtain ⟨_, hx⟩ := grd_inv hx
    cases hx
    first | rfl | (dsimp only; rw [List.length_set, lcl_len]) | (dsimp only; rw [List.length_set, List.length_set, lcl_len])
  | if_icmp _ _ =>
    obtain ⟨_, _, _, hx⟩ := popI_inv hx
    obtain ⟨_, _, _, hx⟩ := popI_inv hx
    obtain ⟨_, hx⟩ := grd_inv hx
    cases hx
    first | rfl | (dsimp only; rw [List.length_set, lcl_len]) | (dsimp only; rw [List.length_set, List.length_set, lcl_len])
  | if_acmp _ _ =>
    obtain ⟨_, _, _, hx⟩ := popR_inv hx
    obtain ⟨_, _, _, hx⟩ := popR_inv hx
    obtain ⟨_, hx⟩ := grd_inv hx
    cases hx
    first | rfl | (dsimp only; rw [List.length_set, lcl_len]) | (dsimp only; rw [List.length_set, List.length_set, lcl_len])
  | ifnull _ =>
    obtain ⟨_, _, _, hx⟩ := popR_inv hx
    obtain ⟨_, hx⟩ := grd_inv hx
    cases hx
    first | rfl | (dsimp only; rw [List.length_set, lcl_len]) | (dsimp only; rw [List.length_set, List.length_set, lcl_len])
  | ifnonnull _ =>
    obtain ⟨_, _, _, hx⟩ := popR_inv hx
    obtain ⟨_, hx⟩ := grd_inv hx
    cases hx
    first | rfl | (dsimp only; rw [List.length_set, lcl_len]) | (dsimp only; rw [List.length_set, List.length_set, lcl_len])
  | tableswitch _ _ _ _ =>
    obtain ⟨_, _, _, hx⟩ := popI_inv hx
    obtain ⟨_, hx⟩ := grd_inv hx
    cases hx
    first | rfl | (dsimp only; rw [List.length_set, lcl_len]) | (dsimp only; rw [List.length_set, List.length_set, lcl_len])
  | getfield _ =>
    obtain ⟨_, _, _, hx⟩ := popA_inv hx
    obtain ⟨_, hx⟩ := grd_inv hx
    cases hx
    first | rfl | (dsimp only; rw [List.length_set, lcl_len]) | (dsimp only; rw [List.length_set, List.length_set, lcl_len])
  | fload _ =>
    obtain ⟨_, _, _, hx⟩ := popA_inv hx
    obtain ⟨_, hx⟩ := grd_inv hx
    cases hx
    first | rfl | (dsimp only; rw [List.length_set, lcl_len]) | (dsimp only; rw [List.length_set, List.length_set, lcl_len])
  | dload _ =>
    obtain ⟨_, _, _, hx⟩ := popA_inv hx
    obtain ⟨_, hx⟩ := grd_inv hx
    cases hx
    first | rfl | (dsimp only; rw [List.length_set, lcl_len]) | (dsimp only; rw [List.length_set, List.length_set, lcl_len])
  | putfield _ =>
    obtain ⟨_, _, _, hx⟩ := popI_inv hx
    obtain ⟨_, _, _, hx⟩ := popA_inv hx
    obtain ⟨_, hx⟩ := grd_inv hx
    cases hx
    first | rfl | (dsimp only; rw [List.length_set, lcl_len]) | (dsimp only; rw [List.length_set, List.length_set, lcl_len])
  | putstatic _ =>
    obtain ⟨_, _, _, hx⟩ := popI_inv hx
    obtain ⟨_, _, _, hx⟩ := popA_inv hx
    obtain ⟨_, hx⟩ := grd_inv hx
    cases hx
    first | rfl | (dsimp only; rw [List.length_set, lcl_len]) | (dsimp only; rw [List.length_set, List.length_set, lcl_len])
  | fstore _ =>
    obtain ⟨_, _, _, hx⟩ := popJ_inv hx
    obtain ⟨_, _, _, hx⟩ := popA_inv hx
    obtain ⟨_, hx⟩ := grd_inv hx
    cases hx
    first | rfl | (dsimp only; rw [List.length_set, lcl_len]) | (dsimp only; rw [List.length_set, List.length_set, lcl_len])
  | dstore _ =>
    obtain ⟨_, _, _, hx⟩ := popR_inv hx
    obtain ⟨_, _, _, hx⟩ := popA_inv hx
    obtain ⟨_, hx⟩ := grd_inv hx
    cases hx
    first | rfl | (dsimp only; rw [List.length_set, lcl_len]) | (dsimp only; rw [List.length_set, List.length_set, lcl_len])
  | iaload =>
    obtain ⟨_, _, _, hx⟩ := popI_inv hx
    obtain ⟨_, _, _, hx⟩ := popA_inv hx
    obtain ⟨_, hx⟩ := grd_inv hx
    cases hx
    first | rfl | (dsimp only; rw [List.length_set, lcl_len]) | (dsimp only; rw [List.length_set, List.length_set, lcl_len])
  | baload =>
    obtain ⟨_, _, _, hx⟩ := popI_inv hx
    obtain ⟨_, _, _, hx⟩ := popA_inv hx
    obtain ⟨_, hx⟩ := grd_inv hx
    cases hx
    first | rfl | (dsimp only; rw [List.length_set, lcl_len]) | (dsimp only; rw [List.length_set, List.length_set, lcl_len])
  | laload =>
    obtain ⟨_, _, _, hx⟩ := popI_inv hx
    obtain ⟨_, _, _, hx⟩ := popA_inv hx
    obtain ⟨_, hx⟩ := grd_inv hx
    cases hx
    first | rfl | (dsimp only; rw [List.length_set, lcl_len]) | (dsimp only; rw [List.length_set, List.length_set, lcl_len])
  | aaload =>
    obtain ⟨_, _, _, hx⟩ := popI_inv hx
    obtain ⟨_, _, _, hx⟩ := popA_inv hx
    obtain ⟨_, hx⟩ := grd_inv hx
    cases hx
    first | rfl | (dsimp only; rw [List.length_set, lcl_len]) | (dsimp only; rw [List.length_set, List.length_set, lcl_len])
  | iastore =>
    obtain ⟨_, _, _, hx⟩ := popI_inv hx
    obtain ⟨_, _, _, hx⟩ := popI_inv hx
    obtain ⟨_, _, _, hx⟩ := popA_inv hx
    obtain ⟨_, hx⟩ := grd_inv hx
    cases hx
    first | rfl | (dsimp only; rw [List.length_set, lcl_len]) | (dsimp only; rw [List.length_set, List.length_set, lcl_len])
  | bastore =>
    obtain ⟨_, _, _, hx⟩ := popI_inv hx
    obtain ⟨_, _, _, hx⟩ := popI_inv hx
    obtain ⟨_, _, _, hx⟩ := popA_inv hx
    obtain ⟨_, hx⟩ := grd_inv hx
    cases hx
    first | rfl | (dsimp only; rw [List.length_set, lcl_len]) | (dsimp only; rw [List.length_set, List.length_set, lcl_len])
  | lastore =>
    obtain ⟨_, _, _, hx⟩ := popJ_inv hx
    obtain ⟨_, _, _, hx⟩ := popI_inv hx
    obtain ⟨_, _, _, hx⟩ := popA_inv hx
    obtain ⟨_, hx⟩ := grd_inv hx
    cases hx
    first | rfl | (dsimp only; rw [List.length_set, lcl_len]) | (dsimp only; rw [List.length_set, List.length_set, lcl_len])
  | aastore =>
    obtain ⟨_, _, _, hx⟩ := popA_inv hx
    obtain ⟨_, _, _, hx⟩ := popI_inv hx
    obtain ⟨_, _, _, hx⟩ := popA_inv hx
    obtain ⟨_, hx⟩ := grd_inv hx
    cases hx
    first | rfl | (dsimp only; rw [List.length_set, lcl_len]) | (dsimp only; rw [List.length_set, List.length_set, lcl_len])
  | arraylength =>
    obtain ⟨_, _, _, hx⟩ := popA_inv hx
    obtain ⟨_, hx⟩ := grd_inv hx
    cases hx
    first | rfl | (dsimp only; rw [List.length_set, lcl_len]) | (dsimp only; rw [List.length_set, List.length_set, lcl_len])
  | checkcast _ =>
    obtain ⟨_, _, _, hx⟩ := popA_inv hx
    obtain ⟨_, hx⟩ := grd_inv hx
    cases hx
    first | rfl | (dsimp only; rw [List.length_set, lcl_len]) | (dsimp only; rw [List.length_set, List.length_set, lcl_len])
  | invokespecial _ =>
    obtain ⟨_, _, _, hx⟩ := popA_inv hx
    obtain ⟨_, hx⟩ := grd_inv hx
    cases hx
    first | rfl | (dsimp only; rw [List.length_set, lcl_len]) | (dsimp only; rw [List.length_set, List.length_set, lcl_len])
  | _ => exact nomatch (show (none : Option SR) = some z from hx)
/-! runs, with calls -/
def RunOk (G : Nat → Option Nat) (n : Nat) : Prop := ∀ {d k pc : Nat} {lo : List (Option MV)} {st : List MV} {h h' : Hp} {r : Option MV}, rn G n d k pc lo st h = some (r, h') →
  ∀ {D : Dk} {p : Program} {l : Launch} {e : Env} {R : Room} {s : State} {m : MethodId} {args : Array Value} {below : List Frame} {meth : Method} {c : Code} {H : Heap} {locs : List Loc} {cells slots : Nat} {Q : State → Prop} {ls : Array Slot},
  FrK D G p s m args meth c k → Pr D G s H locs ls lo st h → lo.length = mxl k → (cells + (NX h' - NX h) ≤ R.cells ∧ slots + (SL h' - SL h) ≤ R.slots) → (d ≤ R.frames ∧ 40 * d ≤ R.locals) →
  Hr D G p l e R s m args below meth c k (cells + (NX h' - NX h)) (slots + (SL h' - SL h)) Q r h' → W p l e R s m args below meth c H locs cells slots Q (F0 m pc ls (st.map cv))
theorem ct_of_run {G : Nat → Option Nat} {n d j : Nat} {vs : List MV} {h h2 : Hp} {r : Option MV} (IH : RunOk G n) (hj : j < NM) (hrun : rn G n d j 0 (lay (mxl j) vs) [] h = some (r, h2)) (hv : ∀ v ∈ vs, vok v) (hlen : (lay 0 vs).length ≤ mxl j) (D : Dk) (l : Launch) : Ct D G l j d vs h h2 r := by
  obtain ⟨m1, m2, m3, -, -, -, -, m8⟩ := met_n hj
  unfold Ct
  refine Met.ofW (cc := codeOf j) (maxL := mxl j) (ret := retOf j) m3 rfl ?_
  intro p e s m args below meth c s₁ B hml hv0
  obtain ⟨rfl, hG, hR⟩ := hv0
  have hts := atoms_spec (ws := .code (metOf j) (codeOf j) (mxl j) (retOf j) :: mw) B.pre
  have hown : s.vm.findClass (metOf j).cls = some m.cls := findClass_of_methodNamed B.named
  have hnm : meth.name = (metOf j).name := (name_of_methodNamed B.named B.method).1
  have F : FrK D G p s m (vs.map cv).toArray meth c j := ⟨B.exec, B.bytes, hml, by rw [← m1]; exact hown, fun w hw => hts w (List.mem_cons_of_mem _ hw), hG, fun q => by rw [hnm]; exact (m8 q).1, m2, Nat.le_refl _⟩
  have hl := lv_entry (vs.map cv) (n := mxl j) (by rw [lg_len]; have : (lay 0 vs).length = (lay0 vs).length := by rw [lay_eq]; simp
                                                   omega)
  rw [lg_entry_eq]
  generalize (lg_sl (vs.map cv) ++ List.replicate (mxl j - (lg_sl (vs.map cv)).length) Slot.unset).toArray = ls at hl ⊢
  have hP : Pr D G s s.heap [] ls (lay (mxl j) vs) [] h := ⟨LR_entry hlen hl, fun v hv2 => by
    obtain ⟨i, hi⟩ := List.getElem?_of_mem hv2
    exact hv v (lay0_mem (List.mem_of_getElem? (lay_get hi))), (fun v hv2 => by cases hv2), hR, (fun q hq => by cases hq)⟩
  refine IH hrun F hP (lay_len hlen) ⟨by show 0 + _ ≤ _; rw [Nat.zero_add]; exact Nat.le_refl _, by show 0 + _ ≤ _; rw [Nat.zero_add]; exact Nat.le_refl _⟩ ⟨Nat.le_refl _, Nat.le_refl _⟩ ?_
  rw [Nat.zero_add, Nat.zero_add]
  exact end_met F B.returns B.notSynchronized
theorem blind {D : Dk} {G : Nat → Option Nat} {h : Hp} {vs : List MV} : FrameBlind (va_Pc (vs.map cv) (fun U => GK D G U ∧ Rel D G h U U.heap)) := fun a U g mk q =>
  ⟨q.1, GK.warm (s := U) (U := U.calling g mk a) (State.WarmedH.refl U) q.2.1, q.2.2.moved (u := U) (U := U.calling g mk a) (Vm.Alike.refl U.vm)⟩
theorem rev_take {st : List MV} {n : Nat} : st.map cv = ((st.take n).reverse.map cv).reverse ++ (st.drop n).map cv := by
  rw [← List.map_reverse, List.reverse_reverse, ← List.map_append, List.take_append_drop]
/-- behind a call -/
theorem call_go {G : Nat → Option Nat} {n d k pc : Nat} {lo : List (Option MV)} {st2 : List MV} {h h2 h' : Hp} {r r2 : Option MV} (IH : RunOk G n) (hrun2 : rn G n (d + 1) k (pc + 3) lo (r2.toList ++ st2) h2 = some (r, h'))
    {D : Dk} {p : Program} {l : Launch} {e : Env} {R : Room} {s : State} {m : MethodId} {args : Array Value} {below : List Frame} {meth : Method} {c : Code} {H : Heap} {locs : List Loc} {cells slots : Nat} {Q : State → Prop} {ls : Array Slot} {g : JFrame}
    (F : FrK D G p s m args meth c k) (P : Pr D G s H locs ls lo st2 h) (hml : lo.length = mxl k) (hm1 : NX h ≤ NX h2 ∧ SL h ≤ SL h2) (hroom : cells + (NX h' - NX h) ≤ R.cells ∧ slots + (SL h' - SL h) ≤ R.slots) (hRd : d + 1 ≤ R.frames ∧ 40 * (d + 1) ≤ R.locals)
    (hH : Hr D G p l e R s m args below meth c k (cells + (NX h' - NX h)) (slots + (SL h' - SL h)) Q r h') (hg : g.method = m ∧ g.pc = pc ∧ g.locals = ls ∧ g.locked = none ∧ g = F0 m pc ls g.stack)
    (hr : va_Run p l e R s m args below meth c H locs cells slots (NX h2 - NX h) (SL h2 - SL h) g (st2.map cv) (fun _ o t => o = .returned (r2.map cv) ∧ GK D G t ∧ Rel D G h2 t t.heap ∧ ∀ v, r2 = some v → vok v) (fun q => D.2.2.2 ≤ q)) :
    W p l e R s m args below meth c H locs cells slots Q g := by
  have hm2 := rn_mono hrun2
  intro T hT X
  obtain ⟨v, st₀, t, T', L, h0, X', hL, e1, e2, ⟨ho, hG2, hR2, hv2⟩, stp⟩ := hr T hT X
  have hv : v = r2.map cv := by cases ho; rfl
  subst hv
  have hal : t.vm.Alike s.vm := by rw [← e2]; exact X'.warmed.alike.symm
  have hP2 : Pr D G s T'.heap (locs ++ L) ls lo (r2.toList ++ st2) h2 := ⟨P.1, P.2.1, fun w hw => (List.mem_append.mp hw).elim (fun q => hv2 w (by cases r2 with | none => cases q | some x => rw [List.mem_singleton.mp q])) (P.2.2.1 w), by rw [e1]; exact hR2.moved hal, fun q hq => (List.mem_append.mp hq).elim (P.2.2.2.2 q) (hL q)⟩
  have q1 : cells + (NX h2 - NX h) + (NX h' - NX h2) = cells + (NX h' - NX h) := by omega
  have q2 : slots + (SL h2 - SL h) + (SL h' - SL h2) = slots + (SL h' - SL h) := by omega
  have k2 := IH hrun2 (cells := cells + (NX h2 - NX h)) (slots := slots + (SL h2 - SL h)) (below := below) (e := e) (l := l) (R := R) (Q := Q) F hP2 hml (by rw [q1, q2]; exact hroom) hRd (by rw [q1, q2]; exact hH)
  obtain ⟨t2, a1, b1⟩ := k2 T' rfl X'
  refine ⟨t2, stp t2 ?_, b1⟩
  obtain ⟨-, -, -, -, hg5⟩ := hg
  rw [hg5]
  have : (r2.toList ++ st2).map cv = (r2.map cv).toList ++ st2.map cv := by cases r2 <;> rfl
  rw [this] at a1
  exact a1
theorem kcell {D : Dk} {G : Nat → Option Nat} {h : Hp} {s : State} {H : Heap} {j a : Nat} (hj : j < NM) (hk : knd j ≠ 0) (hG : GK D G s) (hR : Rel D G h s H) (hka : KD h a = rcv j) : ∃ cellB : Cell, H[a]? = some cellB ∧ cellB.vm.isStatics = false ∧ s.vm.findClass (metOf j).cls = some cellB.cls := by
  have h1 := all_range own_14 hj
  simp only [Bool.and_eq_true, Bool.or_eq_true, decide_eq_true_eq] at h1
  rw [(met_n hj).1]
  unfold rcv at hka
  rcases h1.2 with (h2 | h2) | h2
  · exact absurd h2 hk
  · rw [if_pos h2] at hka
    obtain ⟨-, cell, q1, q2, q3, -⟩ := hR.2.2.2.1 a _ h2 (by omega)
    exact ⟨cell, q1, by rw [q3]; rfl, by rw [q2]; exact (hG.1.1 _ _ (mcl_get h2)).2.1⟩
  · rw [if_neg (by omega)] at hka
    obtain ⟨⟨cell, q1, q2, q3, -⟩, -⟩ := hR.2.2.2.2.2.1 a hka
    exact ⟨cell, q1, q2, by rw [h2]; exact q3⟩
theorem mw_ne14 {j : Nat} (hj : j < NM) : ownOf j ≠ 14 := by
  have h1 := all_range own_14 hj
  simp only [Bool.and_eq_true, Bool.not_eq_true', beq_eq_false_iff_ne] at h1
  exact h1.1
theorem knd_w {j : Nat} (hj : j < NM) : (knd j = 0 → Cond.static (metOf j) ∈ mw) ∧ (knd j = 1 ∨ knd j = 2 → Cond.instanceMethod (metOf j) ∈ mw) := by
  have h1 := all_range knd_c hj
  refine ⟨fun q => ?_, fun q => ?_⟩
  · rw [if_pos q] at h1
    exact mw_of h1
  · rw [if_neg (by omega), if_neg (by omega)] at h1
    exact mw_of h1
theorem sel_w {j : Nat} (hj : j < NM) (hk : knd j = 1) : Cond.selects (metOf j).cls (metOf j) (metOf j) ∈ mw := by
  have h1 := all_range sel_c hj
  rw [if_pos hk] at h1
  split at h1
  · rw [Bool.and_eq_true] at h1
    obtain ⟨h2, h3⟩ := h1
    split at h2
    · rename_i q hq
      rw [decide_eq_true_eq] at h2
      refine List.mem_filter.mpr ⟨List.mem_append_left _ ?_, h3⟩
      refine List.mem_map.mpr ⟨q, prvP_in (List.mem_of_getElem? hq), ?_⟩
      rw [h2]
    · cases h2
  · exact mw_of h1
theorem knd_in {j : Nat} (h : knd j ≠ 9) : j < NM := by
  rcases Nat.lt_or_ge j NM with q | q
  · exact q
  · refine absurd ?_ h
    rcases Nat.eq_or_lt_of_le q with e | e
    · rw [← e]; rfl
    · unfold knd
      have hl : kndT.length = NM + 1 := by decide +kernel
      rw [List.getD_eq_getElem?_getD, List.getElem?_eq_none (by rw [hl]; omega)]
      rfl
/-- which instruction calls -/
theorem rs_call {k pc j : Nat} {I0 : Instr} (hr : rs k pc I0 = some (.invokevirtual j)) : (∃ i, I0 = .invokevirtual i ∧ knd j = 1 ∧ ∃ x, (mthT.getD (ownOf k) []).lookup i = some (j, x)) ∨ (∃ i, I0 = .invokestatic i ∧ knd j = 0 ∧ ∃ x, (mthT.getD (ownOf k) []).lookup i = some (j, x)) ∨ (∃ i, I0 = .invokespecial i ∧ knd j = 2 ∧ ∃ x, (mthT.getD (ownOf k) []).lookup i = some (j, x)) := by
  cases I0 with
  | getfield i =>
    obtain ⟨x, -, hI⟩ := Option.bind_eq_some_iff.mp (show (Option.bind _ (fun e : Nat × Nat × Bool => gkI e.1)) = some _ from hr)
    rcases gkI_inv hI with ⟨-, h⟩ | ⟨-, h⟩ | ⟨-, h⟩ <;> cases h
  | putfield i =>
    obtain ⟨x, -, hI⟩ := Option.bind_eq_some_iff.mp (show (Option.bind _ (fun e : Nat × Nat × Bool => if fin e.1 && !(knd k == 2 && ownOf k == e.1 / 128 && !e.2.2) then none else pkI e.1)) = some _ from hr)
    split at hI
    · cases hI
    · rcases pkI_inv hI with ⟨-, h⟩ | ⟨-, h⟩ | ⟨-, h⟩ | ⟨-, h⟩ <;> cases h
  | getstatic i =>
    obtain ⟨x, -, hI⟩ := Option.map_eq_some_iff.mp (show (Option.map (fun e : Nat × Nat × Bool => if e.1 < 1000 then Instr.getstatic e.1 else .iconst ((e.1 - 1000 : Nat) : Int)) _) = some _ from hr)
    split at hI <;> cases hI
  | new i =>
    obtain ⟨x, -, h⟩ := Option.map_eq_some_iff.mp (show (Option.map (fun e : Nat × Nat => Instr.new e.1) _) = some _ from hr)
    cases h
  | anewarray i =>
    obtain ⟨x, -, h⟩ := Option.map_eq_some_iff.mp (show (Option.map (fun e : Nat × Nat => Instr.anewarray e.1) _) = some _ from hr)
    cases h
  | multianewarray i dd =>
    obtain ⟨x, -, h⟩ := Option.map_eq_some_iff.mp (show (Option.map (fun e : Nat × Nat => Instr.multianewarray e.1 dd) _) = some _ from hr)
    cases h
  | checkcast i =>
    obtain ⟨x, -, h⟩ := Option.map_eq_some_iff.mp (show (Option.map (fun e : Nat × Nat => Instr.checkcast e.1) _) = some _ from hr)
    cases h
  | ldc i =>
    simp only [rs] at hr
    split at hr
    · cases hr
    · obtain ⟨x, -, h⟩ := Option.map_eq_some_iff.mp hr
      cases h
  | ldc_w i =>
    simp only [rs] at hr
    split at hr
    · cases hr
    · obtain ⟨x, -, h⟩ := Option.map_eq_some_iff.mp hr
      cases h
  | ldc2_w i =>
    obtain ⟨x, -, h⟩ := Option.map_eq_some_iff.mp (show (Option.map (fun e : Nat × Nat => Instr.ldc2_w e.1) _) = some _ from hr)
    cases h
  | invokevirtual i =>
    obtain ⟨⟨j', x⟩, hx, hI⟩ := Option.bind_eq_some_iff.mp (show (Option.bind _ (fun e : Nat × Nat × Bool => if e.1 = 1002 then some (Instr.invokestatic 1) else if e.1 = 1003 then some (.invokestatic 2) else if knd e.1 = 1 then some (.invokevirtual e.1) else none)) = some _ from hr)
    split at hI
    · cases hI
    · split at hI
      · cases hI
      · split at hI
        · rename_i hk
          cases hI
          exact Or.inl ⟨i, rfl, hk, x, hx⟩
        · cases hI
  | invokestatic i =>
    obtain ⟨⟨j', x⟩, hx, hI⟩ := Option.bind_eq_some_iff.mp (show (Option.bind _ (fun e : Nat × Nat × Bool => if e.1 = 1001 then some (Instr.invokestatic 0) else if e.1 = 1004 then some (.invokestatic 3) else if e.1 = 1005 then some (.invokestatic 4) else if knd e.1 = 0 then some (.invokevirtual e.1) else none)) = some _ from hr)
    split at hI
    · cases hI
    · split at hI
      · cases hI
      · split at hI
        · cases hI
        · split at hI
          · rename_i hk
            cases hI
            exact Or.inr (Or.inl ⟨i, rfl, hk, x, hx⟩)
          · cases hI
  | invokespecial i =>
    obtain ⟨⟨j', x⟩, hx, hI⟩ := Option.bind_eq_some_iff.mp (show (Option.bind _ (fun e : Nat × Nat × Bool => if e.1 = 1000 then some (Instr.invokespecial 0) else if knd e.1 = 2 then some (.invokevirtual e.1) else none)) = some _ from hr)
    split at hI
    · cases hI
    · split at hI
      · rename_i hk
        cases hI
        exact Or.inr (Or.inr ⟨i, rfl, hk, x, hx⟩)
      · cases hI
  | return_ => simp only [rs] at hr; split at hr <;> cases hr
  | ireturn => simp only [rs] at hr; split at hr <;> cases hr
  | lreturn => simp only [rs] at hr; split at hr <;> cases hr
  | areturn => simp only [rs] at hr; split at hr <;> cases hr
  | _ =>
    first
      | exact nomatch (show (none : Option Instr) = some _ from hr)
      | cases hr
set_option maxHeartbeats 1000000 in
/-- a call -/
theorem s_call {G : Nat → Option Nat} {n d k pc j len : Nat} {I0 : Instr} {lo : List (Option MV)} {st : List MV} {h h2 h' : Hp} {r r2 : Option MV} (IH : RunOk G n)
    (hrun1 : rn G n d j 0 (lay (mxl j) (st.take (argN j)).reverse) [] h = some (r2, h2)) (hrun2 : rn G n (d + 1) k (pc + len) lo (r2.toList ++ st.drop (argN j)) h2 = some (r, h'))
    (hst : argN j ≤ st.length ∧ st.length ≤ argN j + 4) (hrok : rok j (st.take (argN j)).reverse h = true) (hlen : (lay 0 (st.take (argN j)).reverse).length ≤ mxl j)
    {D : Dk} {p : Program} {l : Launch} {e : Env} {R : Room} {s : State} {m : MethodId} {args : Array Value} {below : List Frame} {meth : Method} {c : Code} {H : Heap} {locs : List Loc} {cells slots : Nat} {Q : State → Prop} {ls : Array Slot}
    (F : FrK D G p s m args meth c k) (P : Pr D G s H locs ls lo st h) (hml : lo.length = mxl k) (hroom : cells + (NX h' - NX h) ≤ R.cells ∧ slots + (SL h' - SL h) ≤ R.slots) (hRd : d + 1 ≤ R.frames ∧ 40 * (d + 1) ≤ R.locals)
    (hH : Hr D G p l e R s m args below meth c k (cells + (NX h' - NX h)) (slots + (SL h' - SL h)) Q r h') (hd : decode (codeOf k) pc = .ok (I0, len)) (hl : lenOk I0 len = true) (hr : rs k pc I0 = some (.invokevirtual j)) : W p l e R s m args below meth c H locs cells slots Q (F0 m pc ls (st.map cv)) := by
  have hts := F.2.2.2.2.1
  have hG := F.2.2.2.2.2.1
  have hR := P.2.2.2.1
  have hm1 := rn_mono hrun1
  have hm2 := rn_mono hrun2
  have hNM := NM_lt
  have hvok : ∀ v ∈ (st.take (argN j)).reverse, vok v := fun v hv => P.2.2.1 v (List.mem_of_mem_take (List.mem_reverse.mp hv))
  have hPd : Pr D G s H locs ls lo (st.drop (argN j)) h := ⟨P.1, P.2.1, fun v hv => P.2.2.1 v (List.mem_of_mem_drop hv), hR, P.2.2.2.2⟩
  have hcat := cat_le (st.drop (argN j))
  have hdl : (st.drop (argN j)).length ≤ 4 := by rw [List.length_drop]; omega
  have hf : cells + (NX h2 - NX h) ≤ R.cells ∧ slots + (SL h2 - SL h) ≤ R.slots := by omega
  have hsplit : st.map cv = ((st.take (argN j)).reverse.map cv).reverse ++ (st.drop (argN j)).map cv := rev_take
  have hpre : ∀ U : State, U.heap = H → s.WarmedH U.vm → GK D G U ∧ Rel D G h U U.heap := fun U hU hW => ⟨GK.warm hW hG, by rw [hU]; exact hR.moved hW.alike⟩
  have common : j < NM → ∀ idx nest, (if nest then wMtx (ownOf k) idx j true ∈ nestL else wMtx (ownOf k) idx j false ∈ mw) →
      (nest = false → CallB R s args (onm (ownOf k)) idx (metOf j) (codeOf j) (mxl j) (retOf j) (.code (metOf j) (codeOf j) (mxl j) (retOf j) :: mw) { frames := d, cells := NX h2 - NX h, slots := SL h2 - SL h, locals := 40 * d } (NX h2 - NX h) (SL h2 - SL h) (argN j - (if knd j = 0 then 0 else 1))) ∧
      (nest = true → va_CN R s args (onm (ownOf k)) idx (metOf j) (host (ownOf k)) (codeOf j) (mxl j) (retOf j) (.code (metOf j) (codeOf j) (mxl j) (retOf j) :: mw) { frames := d, cells := NX h2 - NX h, slots := SL h2 - SL h, locals := 40 * d } (NX h2 - NX h) (SL h2 - SL h) (argN j - (if knd j = 0 then 0 else 1))) := by
    intro hj idx nest hw
    obtain ⟨m1, m2, m3, m4, m5, m6, m7, m8⟩ := met_n hj
    have hini : (Cond.initialized (metOf j).cls).before args s = true := by rw [m1]; exact hts _ (ini_n m2 (mw_ne14 hj))
    have hx : xm j = metOf j := by unfold xm; rw [if_neg (by omega), if_neg (by omega), if_neg (by omega), if_neg (by omega), if_neg (by omega), if_neg (by omega)]
    have hrm : d + 1 ≤ R.frames ∧ 8 + (mxl j + 11) + 40 * d ≤ R.locals := ⟨hRd.1, by omega⟩
    refine ⟨fun hn => ?_, fun hn => ?_⟩
    · subst hn
      simp only [Bool.false_eq_true, if_false] at hw
      unfold wMtx at hw
      rw [hx] at hw
      exact callB_of _ hts (ws_in hj) rfl rfl rfl hini (hts _ hw) ⟨m4.1, m4.2, m5⟩ hrm
    · subst hn
      simp only [if_true] at hw
      unfold wMtx at hw
      rw [hx] at hw
      exact va_cnB _ hts (ws_in hj) rfl rfl rfl (hG.2.1 _ hw) hini ⟨m4.1, m4.2, m5⟩ hrm
  have hloc : (F0 m pc ls (st.map cv)).locals.size = mxl k := by rw [← hml]; exact P.1.1
  have hfix : CallFix p m c (codeOf k) (mxl k) s args mw (onm (ownOf k)) := ⟨F.1, F.2.1, F.2.2.1, F.2.2.2.1, hts⟩
  have hWc : 2 * (F0 m pc ls (st.map cv)).monitorRoom + (((st.drop (argN j)).map cv).map fun v => v.category).sum ≤ 8 := by show 2 * 0 + _ ≤ 8; omega
  have hlr : ((st.take (argN j)).reverse).length = argN j := by rw [List.length_reverse, List.length_take]; omega
  have hgg : (F0 m pc ls (st.map cv)).method = m ∧ (F0 m pc ls (st.map cv)).pc = pc ∧ (F0 m pc ls (st.map cv)).locals = ls ∧ (F0 m pc ls (st.map cv)).locked = none ∧ F0 m pc ls (st.map cv) = F0 m pc ls (F0 m pc ls (st.map cv)).stack := ⟨rfl, rfl, rfl, rfl, rfl⟩
  rcases rs_call hr with ⟨i, rfl, hk, ⟨ps, nest⟩, hlk⟩ | ⟨i, rfl, hk, ⟨ps, nest⟩, hlk⟩ | ⟨i, rfl, hk, ⟨ps, nest⟩, hlk⟩
  · obtain rfl := len_of (n := 3) hl (fun _ => rfl)
    have hj : j < NM := knd_in (by omega)
    obtain ⟨hw, -⟩ := mth_n F.2.2.2.2.2.2.2.1 hlk
    have hct := ct_of_run IH hj hrun1 hvok hlen D l
    obtain ⟨hc1, hc2⟩ := common hj i nest hw
    rw [if_neg (by omega)] at hc1 hc2
    have hm6 : 1 ≤ argN j := ((met_n hj).2.2.2.2.2.1).resolve_left (by omega)
    obtain ⟨a, vs, hvs⟩ : ∃ a vs, (st.take (argN j)).reverse = vR (some a) :: vs := by
      unfold rok at hrok
      rw [if_neg (by omega)] at hrok
      split at hrok
      · exact ⟨_, _, by assumption⟩
      · cases hrok
    have hka : KD h a = rcv j := by
      unfold rok at hrok
      rw [if_neg (by omega), hvs] at hrok
      exact beq_iff_eq.mp hrok
    rw [hvs] at hct hsplit hlr
    have hAl : (vs.map cv).length = argN j - 1 := by rw [List.length_map]; rw [List.length_cons] at hlr; omega
    have hstk : st.map cv = (vs.map cv).reverse ++ .ref a :: (st.drop (argN j)).map cv := by rw [hsplit, List.map_cons, List.reverse_cons, List.append_assoc]; rfl
    have hpV : PreV s H (metOf j).cls a (va_Pc ((vR (some a) :: vs).map cv) (fun U => GK D G U ∧ Rel D G h U U.heap)) (vs.map cv) := ⟨blind, kcell hj (by omega) hG hR hka, fun U hU hW => ⟨rfl, hpre U hU hW⟩⟩
    cases nest with
    | false => exact call_go IH hrun2 F hPd hml hm1 hroom hRd hH hgg (va_runV (below := below) (e := e) (meth := meth) (locs := locs) hfix hct ⟨hc1 rfl, hts _ ((knd_w hj).2 (Or.inl hk)), hts _ (sel_w hj hk)⟩ hpV rfl hAl hloc hstk hWc hd hf)
    | true => exact call_go IH hrun2 F hPd hml hm1 hroom hRd hH hgg (va_runVN (below := below) (e := e) (meth := meth) (locs := locs) hfix hct ⟨hc2 rfl, hts _ ((knd_w hj).2 (Or.inl hk)), hts _ (sel_w hj hk)⟩ hpV rfl hAl hloc hstk hWc hd hf)
  · obtain rfl := len_of (n := 3) hl (fun _ => rfl)
    have hj : j < NM := knd_in (by omega)
    obtain ⟨hw, -⟩ := mth_n F.2.2.2.2.2.2.2.1 hlk
    have hct := ct_of_run IH hj hrun1 hvok hlen D l
    obtain ⟨hc1, hc2⟩ := common hj i nest hw
    rw [if_pos hk, Nat.sub_zero] at hc1 hc2
    have hpS : PreS s H (va_Pc ((st.take (argN j)).reverse.map cv) (fun U => GK D G U ∧ Rel D G h U U.heap)) ((st.take (argN j)).reverse.map cv) := ⟨blind, fun U hU hW => ⟨rfl, hpre U hU hW⟩⟩
    have hAl : ((st.take (argN j)).reverse.map cv).length = argN j := by rw [List.length_map]; exact hlr
    cases nest with
    | false => exact call_go IH hrun2 F hPd hml hm1 hroom hRd hH hgg (va_runS (below := below) (e := e) (meth := meth) (locs := locs) hfix hct ⟨hc1 rfl, hts _ ((knd_w hj).1 hk)⟩ hpS rfl hAl hloc hsplit hWc hd hf)
    | true => exact call_go IH hrun2 F hPd hml hm1 hroom hRd hH hgg (va_runSN (below := below) (e := e) (meth := meth) (locs := locs) hfix hct ⟨hc2 rfl, hts _ ((knd_w hj).1 hk), trivial⟩ hpS rfl hAl hloc hsplit hWc hd hf)
  · obtain rfl := len_of (n := 3) hl (fun _ => rfl)
    have hj : j < NM := knd_in (by omega)
    obtain ⟨hw, -⟩ := mth_n F.2.2.2.2.2.2.2.1 hlk
    have hct := ct_of_run IH hj hrun1 hvok hlen D l
    obtain ⟨hc1, hc2⟩ := common hj i nest hw
    rw [if_neg (by omega)] at hc1 hc2
    have hm6 : 1 ≤ argN j := ((met_n hj).2.2.2.2.2.1).resolve_left (by omega)
    obtain ⟨hm8, hm9⟩ := (met_n hj).2.2.2.2.2.2.2 hk
    obtain ⟨a, vs, hvs⟩ : ∃ a vs, (st.take (argN j)).reverse = vR (some a) :: vs := by
      unfold rok at hrok
      rw [if_neg (by omega)] at hrok
      split at hrok
      · exact ⟨_, _, by assumption⟩
      · cases hrok
    have hka : KD h a = rcv j := by
      unfold rok at hrok
      rw [if_neg (by omega), hvs] at hrok
      exact beq_iff_eq.mp hrok
    rw [hvs] at hct hsplit hlr
    have hAl : (vs.map cv).length = argN j - 1 := by rw [List.length_map]; rw [List.length_cons] at hlr; omega
    have hstk : st.map cv = (vs.map cv).reverse ++ .ref a :: (st.drop (argN j)).map cv := by rw [hsplit, List.map_cons, List.reverse_cons, List.append_assoc]; rfl
    unfold Ct at hct
    rw [hm9] at hct hc1 hc2
    have hpS : PreS s H (va_Pc ((vR (some a) :: vs).map cv) (fun U => GK D G U ∧ Rel D G h U U.heap)) (.ref a :: vs.map cv) := ⟨blind, fun U hU hW => ⟨rfl, hpre U hU hW⟩⟩
    cases nest with
    | false => exact call_go IH hrun2 F hPd hml hm1 hroom hRd hH hgg (va_runI (below := below) (e := e) (meth := meth) (locs := locs) hfix hct ⟨hc1 rfl, hm8, hts _ ((knd_w hj).2 (Or.inr hk))⟩ hpS rfl hAl hloc hstk hWc hd hf)
    | true => exact call_go IH hrun2 F hPd hml hm1 hroom hRd hH hgg (va_runIN (below := below) (e := e) (meth := meth) (locs := locs) hfix hct ⟨hc2 rfl, hm8, hts _ ((knd_w hj).2 (Or.inr hk))⟩ hpS rfl hAl hloc hstk hWc hd hf)
/-- every run -/
theorem run_ok (G : Nat → Option Nat) : ∀ n, RunOk G n := by
  intro n
  induction n with
  | zero => intro d k pc lo st h h' r hrun; cases hrun
  | succ n IH =>
    intro d k pc lo st h h' r hrun D p l e R s m args below meth c H locs cells slots Q ls F P hml hroom hRd hH
    obtain ⟨I, pc', hdc, q⟩ := rn_step hrun
    obtain ⟨I0, len, hd, hl, hr, rfl⟩ := dc_inv hdc
    rcases q with ⟨he, rfl, rfl⟩ | ⟨j, d', r2, h2, rfl, rfl, b1, b2, b3, e1, e2⟩ | ⟨z, e1, e2⟩
    · have := hH ls H locs pc I0 len I hd hl hr he (fun v hv => P.2.2.1 v (by rw [hv]; exact List.mem_cons_self)) P.2.2.2.1 P.2.2.2.2
      exact W0 this
    · exact s_call IH e1 e2 b1 b2 b3 F P hml hroom hRd hH hd hl hr
    · have hm1 := sx_mono e1
      have hm2 := rn_mono e2
      refine sok_all I0 F P hml hd hl hr e1 (by omega) hRd (fun ls2 H2 locs2 l1 l2 l3 l4 l5 => ?_)
      have q1 : cells + (NX z.2.2.2 - NX h) + (NX h' - NX z.2.2.2) = cells + (NX h' - NX h) := by omega
      have q2 : slots + (SL z.2.2.2 - SL h) + (SL h' - SL z.2.2.2) = slots + (SL h' - SL h) := by omega
      exact IH e2 (cells := cells + (NX z.2.2.2 - NX h)) (slots := slots + (SL z.2.2.2 - SL h)) F ⟨l1, l2, l3, l4, l5⟩ (by rw [← hml]; exact sx_len e1) (by rw [q1, q2]; exact hroom) hRd (by rw [q1, q2]; exact hH)
