/-! all steps together -/
theorem sx_no {G : Nat → Option Nat} {d j pc' : Nat} {lo : List (Option MV)} {st : List MV} {h : Hp} {z : SR} (hx : sx G d (.invokevirtual j) pc' lo st h = some z) : False := by
  have : (none : Option SR) = some z := hx
  cases this
theorem s_invokespecial (i : Nat) : Sok (.invokespecial i) := by
  intro p l e R s m args below meth c H locs cells slots Q D G d k pc ls lo st h I len z F P hml hd hl hr hx hroom hRd kk
  exact s_special i (k := k) (pc := pc) (fun j q => by
    rw [hr] at q
    cases q
    exact sx_no hx) F P hml hd hl hr hx hRd kk
theorem s_invokevirtual (i : Nat) : Sok (.invokevirtual i) := by
  intro p l e R s m args below meth c H locs cells slots Q D G d k pc ls lo st h I len z F P hml hd hl hr hx hroom hRd kk
  obtain rfl := len_of (n := 3) hl (fun _ => rfl)
  obtain ⟨⟨j, ps, nest⟩, hlk, hI⟩ := Option.bind_eq_some_iff.mp (show ((mthT.getD (ownOf k) []).lookup i).bind (fun e => if e.1 = 1002 then some (.invokestatic 1) else if e.1 = 1003 then some (.invokestatic 2) else if knd e.1 = 1 then some (.invokevirtual e.1) else none) = some I from hr)
  obtain ⟨hw, hj⟩ := mth_n F.2.2.2.2.2.2.2.1 hlk
  have hNM := NM_lt
  dsimp only at hI
  split at hI
  · rename_i e1
    subst e1
    cases hI
    obtain ⟨b, r, rfl, hx⟩ := popA_inv hx
    obtain ⟨⟨b1, b2, b3⟩, hx⟩ := grd_inv hx
    cases hx
    have hn : nest = false := by rcases hj with hj | hj; exact absurd hj (by omega); exact hj.2.2
    subst hn
    simp only [Bool.false_eq_true, if_false] at hw
    exact s_clone F P hml hd hw hRd b1 b2 b3 hroom kk
  · split at hI
    · rename_i e0 e1
      subst e1
      cases hI
      obtain ⟨b, r, rfl, hx⟩ := popA_inv hx
      obtain ⟨⟨b1, b2, b3⟩, hx⟩ := grd_inv hx
      cases hx
      have hn : nest = false := by rcases hj with hj | hj; exact absurd hj (by omega); exact hj.2.2
      subst hn
      simp only [Bool.false_eq_true, if_false] at hw
      have hroom : cells + (NX h - NX h) ≤ R.cells ∧ slots + (SL h - SL h) ≤ R.slots := hroom
      exact s_ord F P hml hd hw hRd b1 b2 b3 (by omega) (by omega) kk
    · split at hI
      · cases hI
        exact (sx_no hx).elim
      · cases hI
theorem s_invokestatic (i : Nat) : Sok (.invokestatic i) := by
  intro p l e R s m args below meth c H locs cells slots Q D G d k pc ls lo st h I len z F P hml hd hl hr hx hroom hRd kk
  obtain rfl := len_of (n := 3) hl (fun _ => rfl)
  obtain ⟨⟨j, ps, nest⟩, hlk, hI⟩ := Option.bind_eq_some_iff.mp (show ((mthT.getD (ownOf k) []).lookup i).bind (fun e => if e.1 = 1001 then some (.invokestatic 0) else if e.1 = 1004 then some (.invokestatic 3) else if e.1 = 1005 then some (.invokestatic 4) else if knd e.1 = 0 then some (.invokevirtual e.1) else none) = some I from hr)
  obtain ⟨hw, hj⟩ := mth_n F.2.2.2.2.2.2.2.1 hlk
  have hNM := NM_lt
  dsimp only at hI
  split at hI
  · rename_i e1
    subst e1
    cases hI
    obtain ⟨n, r, rfl, hx⟩ := popI_inv hx
    obtain ⟨tp, r, rfl, hx⟩ := popI_inv hx
    obtain ⟨t, r, rfl, hx⟩ := popA_inv hx
    obtain ⟨sp, r, rfl, hx⟩ := popI_inv hx
    obtain ⟨sa, r, rfl, hx⟩ := popA_inv hx
    obtain ⟨⟨⟨⟨b1, b2, b3⟩, b4, b5⟩, b6, b7, b8, b9, b10⟩, hx⟩ := grd_inv hx
    cases hx
    have hn : nest = false := by rcases hj with hj | hj; exact absurd hj (by omega); exact hj.2.2
    subst hn
    simp only [Bool.false_eq_true, if_false] at hw
    exact s_copy F P.tail.tail.tail.tail.tail hml hd hw hRd b2 b3 b4 b5 b6 b7 b8 b9 b10 b1 rfl kk
  · split at hI
    · rename_i e0 e1
      subst e1
      cases hI
      obtain ⟨y, r, rfl, hx⟩ := popI_inv hx
      obtain ⟨x, r, rfl, hx⟩ := popI_inv hx
      obtain ⟨⟨b1, b2⟩, hx⟩ := grd_inv hx
      cases hx
      have hn : nest = false := by rcases hj with hj | hj; exact absurd hj (by omega); exact hj.2.2
      subst hn
      simp only [Bool.false_eq_true, if_false] at hw
      have hroom : cells + (NX h - NX h) ≤ R.cells ∧ slots + (SL h - SL h) ≤ R.slots := hroom
      exact s_max F P hml hd hw hRd b1 b2 (by omega) (by omega) kk
    · split at hI
      · rename_i e0 e00 e1
        subst e1
        cases hI
        obtain ⟨y, r, rfl, hx⟩ := popI_inv hx
        obtain ⟨x, r, rfl, hx⟩ := popI_inv hx
        obtain ⟨⟨b1, b2⟩, hx⟩ := grd_inv hx
        cases hx
        have hn : nest = false := by rcases hj with hj | hj; exact absurd hj (by omega); exact hj.2.2
        subst hn
        simp only [Bool.false_eq_true, if_false] at hw
        have hroom : cells + (NX h - NX h) ≤ R.cells ∧ slots + (SL h - SL h) ≤ R.slots := hroom
        exact s_min F P hml hd hw hRd b1 b2 (by omega) (by omega) kk
      · split at hI
        · cases hI
          exact (sx_no hx).elim
        · cases hI
set_option maxHeartbeats 4000000 in
theorem sok_all (I0 : Instr) : Sok I0 := by
  cases I0 with
  | aconst_null => exact s_aconst_null
  | iconst n => exact s_iconst n
  | bipush n => exact s_bipush n
  | sipush n => exact s_sipush n
  | lconst n => exact s_lconst n
  | iload i => exact s_iload i
  | iload_n i => exact s_iload_n i
  | lload i => exact s_lload i
  | lload_n i => exact s_lload_n i
  | aload i => exact s_aload i
  | aload_n i => exact s_aload_n i
  | istore i => exact s_istore i
  | istore_n i => exact s_istore_n i
  | lstore i => exact s_lstore i
  | lstore_n i => exact s_lstore_n i
  | astore i => exact s_astore i
  | astore_n i => exact s_astore_n i
  | iinc i n => exact s_iinc i n
  | iadd => exact s_iadd
  | isub => exact s_isub
  | imul => exact s_imul
  | idiv => exact s_idiv
  | irem => exact s_irem
  | iand => exact s_iand
  | ior => exact s_ior
  | ixor => exact s_ixor
  | ishl => exact s_ishl
  | ishr => exact s_ishr
  | iushr => exact s_iushr
  | i2b => exact s_i2b
  | i2c => exact s_i2c
  | i2l => exact s_i2l
  | l2i => exact s_l2i
  | land => exact s_land
  | lor => exact s_lor
  | lxor => exact s_lxor
  | lmul => exact s_lmul
  | lshl => exact s_lshl
  | lushr => exact s_lushr
  | lcmp => exact s_lcmp
  | dup => exact s_dup
  | dup2 => exact s_dup2
  | pop => exact s_pop
  | goto o => exact s_goto o
  | ifCond c o => exact s_ifCond c o
  | if_icmp c o => exact s_if_icmp c o
  | if_acmp c o => exact s_if_acmp c o
  | ifnull o => exact s_ifnull o
  | ifnonnull o => exact s_ifnonnull o
  | tableswitch a b c d => exact s_tableswitch a b c d
  | getfield i => exact s_getfield i
  | putfield i => exact s_putfield i
  | iaload => exact s_iaload
  | baload => exact s_baload
  | laload => exact s_laload
  | aaload => exact s_aaload
  | iastore => exact s_iastore
  | bastore => exact s_bastore
  | lastore => exact s_lastore
  | aastore => exact s_aastore
  | arraylength => exact s_arraylength
  | getstatic i => exact s_getstatic i
  | ldc i => exact s_ldc i
  | ldc_w i => exact s_ldc_w i
  | ldc2_w i => exact s_ldc2_w i
  | new i => exact s_new i
  | newarray t => exact s_newarray t
  | anewarray i => exact s_anewarray i
  | multianewarray i d => exact s_multianewarray i d
  | checkcast i => exact s_checkcast i
  | invokespecial i => exact s_invokespecial i
  | invokevirtual i => exact s_invokevirtual i
  | invokestatic i => exact s_invokestatic i
  | return_ =>
    intro p l e R s m args below meth c H locs cells slots Q D G d k pc ls lo st h I len z F P hml hd hl hr hx hroom hRd kk
    simp only [rs] at hr
    split at hr <;> cases hr
    exact nomatch (show (none : Option SR) = some z from hx)
  | lreturn =>
    intro p l e R s m args below meth c H locs cells slots Q D G d k pc ls lo st h I len z F P hml hd hl hr hx hroom hRd kk
    simp only [rs] at hr
    split at hr <;> cases hr
    exact nomatch (show (none : Option SR) = some z from hx)
  | areturn =>
    intro p l e R s m args below meth c H locs cells slots Q D G d k pc ls lo st h I len z F P hml hd hl hr hx hroom hRd kk
    simp only [rs] at hr
    split at hr <;> cases hr
    all_goals exact nomatch (show (none : Option SR) = some z from hx)
  | ireturn =>
    intro p l e R s m args below meth c H locs cells slots Q D G d k pc ls lo st h I len z F P hml hd hl hr hx hroom hRd kk
    simp only [rs] at hr
    split at hr <;> cases hr
    all_goals exact nomatch (show (none : Option SR) = some z from hx)
  | _ =>
    intro p l e R s m args below meth c H locs cells slots Q D G d k pc ls lo st h I len z F P hml hd hl hr hx hroom hRd kk
    first
      | exact nomatch (show (none : Option Instr) = some I from hr)
      | (cases hr; exact nomatch (show (none : Option SR) = some z from hx))
