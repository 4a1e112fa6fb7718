/-! new int[14][3] -/
theorem outer_eq (c : ClassId) (N h0 : Nat) : ∀ i : Nat, Jvm.Free.Multi.outerC c N h0 i = arrV c N (fun j => va_rf (if j < i then some (h0 + 1 + j) else none))
  | 0 => by
    show ({ cls := c, slots := Array.replicate N .null, vm := .none } : Cell) = _
    rw [arrV_new]
    refine congrArg (arrV c N) (funext fun j => ?_)
    simp [va_rf]
  | i + 1 => by
    show (Jvm.Free.Multi.outerC c N h0 i).setSlot i (.ref (h0 + 1 + i)) = _
    rw [outer_eq c N h0 i, arrV_store]
    refine congrArg (arrV c N) (funext fun j => ?_)
    by_cases e : j = i
    · subst e
      simp [updV, va_rf]
    · by_cases h : j < i
      · simp [updV, e, h, Nat.lt_succ_of_lt h]
      · simp [updV, e, h, show ¬ j < i + 1 by omega]
theorem nwM_off {h : Hp} {n k b : Nat} (e : b < NX h ∨ NX h + n < b) : KD (nwM h n k) b = KD h b ∧ LN (nwM h n k) b = LN h b ∧ (∀ f, FI (nwM h n k) f b = FI h f b ∧ FL (nwM h n k) f b = FL h f b ∧ FR (nwM h n k) f b = FR h f b) ∧ ∀ j, AI (nwM h n k) b j = AI h b j ∧ AL (nwM h n k) b j = AL h b j ∧ AR (nwM h n k) b j = AR h b j := by
  have e1 : ¬ (NX h ≤ b ∧ b ≤ NX h + n) := by omega
  have e2 : ¬ b = NX h := by omega
  refine ⟨?_, ?_, fun f => ⟨?_, ?_, ?_⟩, fun j => ⟨?_, ?_, ?_⟩⟩
  · exact (if_neg e2).trans (if_neg e1)
  · exact (if_neg e2).trans (if_neg e1)
  · exact if_neg e1
  · exact if_neg e1
  · exact if_neg e1
  · exact if_neg e1
  · exact if_neg e1
  · exact (if_neg e2).trans (if_neg e1)
theorem nwM_in {h : Hp} {n k b : Nat} (e : NX h ≤ b ∧ b ≤ NX h + n) : (∀ f, FI (nwM h n k) f b = 0) ∧ ∀ j, AI (nwM h n k) b j = 0 := ⟨fun f => if_pos e, fun j => if_pos e⟩
theorem s_multianewarray (i dd : Nat) : Sok (.multianewarray i dd) := by
  intro p l e R s m args below meth c H locs cells slots Q D G d k pc ls lo st h I len z F P hml hd hl hr hx hroom hRd kk
  obtain rfl := len_of (n := 4) hl (fun _ => rfl)
  obtain ⟨⟨ec, ps⟩, hlk, rfl⟩ := Option.map_eq_some_iff.mp (show ((clsT.getD (ownOf k) []).lookup i).map (fun e => Instr.multianewarray e.1 dd) = some I from hr)
  obtain ⟨k2, r, rfl, hx⟩ := popI_inv hx
  obtain ⟨n, r, rfl, hx⟩ := popI_inv hx
  obtain ⟨⟨⟨b1, b2⟩, b3, b4⟩, hx⟩ := grd_inv hx
  cases hx
  dsimp only at b1
  subst b1
  subst b2
  subst b3
  subst b4
  have hw := cls_n F.2.2.2.2.2.2.2.1 hlk
  have hts := F.2.2.2.2.1
  have hG := F.2.2.2.2.2.1
  have hR := P.2.2.2.1
  have n1 : NX (nwM h 14 3) - NX h = 15 := by show NX h + 1 + 14 - NX h = 15; omega
  have n2 : SL (nwM h 14 3) - SL h = 56 := Nat.add_sub_cancel_left (SL h) _
  rw [show NX (pc + 4, lo, vR (some (NX h)) :: r, nwM h 14 3).2.2.2 = NX (nwM h 14 3) from rfl, show SL (pc + 4, lo, vR (some (NX h)) :: r, nwM h 14 3).2.2.2 = SL (nwM h 14 3) from rfl, n1, n2] at hroom
  have c14 : (i32 14).toNatClampNeg = 14 := rfl
  have c3 : (i32 3).toNatClampNeg = 3 := rfl
  intro T hT X
  obtain ⟨vm₁, cA, comp, -, fA, fC, hO, -, X', stp⟩ := X.multianewarray2F F.1 F.2.2.2.1 (ty := .int) (hts _ hw) hG.2.2.2.1 (hts _ (mw_of (i := 142) (by decide +kernel))) (g := F0 m pc ls _) rfl (by rw [F.2.1]; exact hd) (n := i32 14) (k := i32 3) rfl (by decide) (by decide) (by decide) (by decide) (by decide) rfl rfl hroom.1 (by exact hroom.2)
  rw [c14, c3] at X' stp
  have hA : D.2.2.1 76 = cA := by
    have q : s.vm.findClass ("[" ++ (FieldType.array .int).toString) = some (D.2.2.1 76) := (tys_arr hG (kd := 76) (by decide)).2
    exact Option.some.inj (q.symm.trans fA)
  have hC : D.2.2.1 40 = comp := by
    have q : s.vm.findClass ("[" ++ (FieldType.int).toString) = some (D.2.2.1 40) := (tys_arr hG (kd := 40) (by decide)).2
    exact Option.some.inj (q.symm.trans fC)
  generalize hF : Jvm.Free.Multi.fill (T.setVm vm₁) cA comp 14 3 (defaultValue .int) 14 = Fl at X' stp
  have hTh : (T.setVm vm₁).heap = H := hT
  obtain ⟨f1, f2, -, -⟩ := Jvm.Free.Multi.fill_facts (T.setVm vm₁) cA comp 14 3 (defaultValue .int) 14
  rw [hF, hTh, hR.1] at f1 f2
  have hold : ∀ x : Nat, x < NX h → Fl.heap[x]? = H[x]? := fun x hx => by
    have := Jvm.Free.Multi.fill_old (T.setVm vm₁) cA comp 14 3 (defaultValue .int) (a := x) (by rw [hTh, hR.1]; exact hx) 14
    rw [hF, hTh] at this
    exact this
  have hrow : ∀ j : Nat, j < 14 → Fl.heap[NX h + 1 + j]? = some (arrV (D.2.2.1 40) 3 (fun _ => .int 0)) := fun j hj => by
    have := Jvm.Free.Multi.fill_inner (T.setVm vm₁) cA comp 14 3 (defaultValue .int) 14 j hj
    rw [hF, hTh, hR.1] at this
    rw [this, hC]
    exact congrArg some (arrV_new comp 3 (.int 0))
  rw [outer_eq, ← hA] at f2
  obtain ⟨o1, o2, o3, o4, o5⟩ := hR.2.2.1
  have hK0 : KD (nwM h 14 3) (NX h) = 76 := if_pos rfl
  have hKj : ∀ b, NX h < b → b ≤ NX h + 14 → KD (nwM h 14 3) b = 40 ∧ LN (nwM h 14 3) b = 3 := fun b e1 e2 => by
    have q1 : ¬ b = NX h := by omega
    have q2 : NX h ≤ b ∧ b ≤ NX h + 14 := by omega
    exact ⟨(if_neg q1).trans (if_pos q2), (if_neg q1).trans (if_pos q2)⟩
  have hok' : hok (nwM h 14 3) := by
    refine ⟨fun f b => ?_, fun b j => ?_, fun b j q => ?_, fun b j q => ?_, fun b => ?_⟩ <;> by_cases e : NX h ≤ b ∧ b ≤ NX h + 14
    · rw [(nwM_in e).1]; exact InR_0
    · rw [((nwM_off (n := 14) (k := 3) (by omega)).2.2.1 f).1]; exact o1 f b
    · rw [(nwM_in e).2]; exact InR_0
    · rw [((nwM_off (n := 14) (k := 3) (by omega)).2.2.2 j).1]; exact o2 b j
    · rw [(nwM_in e).2]; decide
    · rw [((nwM_off (n := 14) (k := 3) (by omega)).2.2.2 j).1]; exact o3 b j ((nwM_off (n := 14) (k := 3) (by omega)).1.symm.trans q)
    · rw [(nwM_in e).2]; exact Or.inl rfl
    · rw [((nwM_off (n := 14) (k := 3) (by omega)).2.2.2 j).1]; exact o4 b j ((nwM_off (n := 14) (k := 3) (by omega)).1.symm.trans q)
    · by_cases e0 : b = NX h
      · rw [show LN (nwM h 14 3) b = 14 from if_pos e0]; decide
      · rw [(hKj b (by omega) e.2).2]; decide
    · rw [(nwM_off (n := 14) (k := 3) (by omega)).2.1]; exact o5 b
  have hrel : Rel D G (nwM h 14 3) s Fl.heap := by
    refine rel_new hR f1 (by show NX h ≤ NX h + 1 + 14; omega) hold (fun b hb => nwM_off (Or.inl hb)) (fun b hb => ?_) hok'
    by_cases e : b ≤ NX h + 14
    · by_cases e0 : b = NX h
      · subst e0
        refine ⟨fun c hc hk => by rw [hK0] at hk; omega, fun kd hkd hk => ?_, fun hk => by rw [hK0] at hk; omega⟩
        rw [hK0] at hk
        subst hk
        refine ⟨by decide, ?_⟩
        rw [f2, show LN (nwM h 14 3) (NX h) = 14 from if_pos rfl]
        refine congrArg some (congrArg (arrV (D.2.2.1 76) 14) (funext fun j => ?_))
        show va_rf _ = va_rf (AR (nwM h 14 3) (NX h) j)
        rw [show AR (nwM h 14 3) (NX h) j = (if j < 14 then some (NX h + 1 + j) else none) from if_pos rfl]
      · obtain ⟨k1, k2⟩ := hKj b (by omega) e
        refine ⟨fun c hc hk => by rw [k1] at hk; omega, fun kd hkd hk => ?_, fun hk => by rw [k1] at hk; omega⟩
        rw [k1] at hk
        subst hk
        refine ⟨by decide, ?_⟩
        have := hrow (b - NX h - 1) (by omega)
        rw [show NX h + 1 + (b - NX h - 1) = b by omega] at this
        rw [this, k2]
        refine congrArg some (congrArg (arrV (D.2.2.1 40) 3) (funext fun j => ?_))
        show Value.int 0 = .int (i32 (AI (nwM h 14 3) b j))
        rw [(nwM_in ⟨hb, e⟩).2]
        rfl
    · obtain ⟨q1, q2, q3, q4⟩ := nwM_off (h := h) (n := 14) (k := 3) (b := b) (by omega)
      exact ⟨fun c hc hk => ((off_kd hR hb).1 c hc (q1.symm.trans hk)).elim, fun kd' hkd' hk => ((off_kd hR hb).2 kd' hkd' (q1.symm.trans hk)).elim, fun hk => ⟨q1.symm, q2, fun f _ => ⟨(q3 f).1, (q3 f).2.2⟩, fun j => ⟨(q4 j).1, (q4 j).2.2⟩⟩⟩
  have kk2 := kk ls _ locs P.1 P.2.1 (fun w hw => (List.mem_cons.mp hw).elim (fun q => by rw [q]; trivial) (P.tail.tail.2.2.1 w)) hrel P.2.2.2.2
  dsimp only at kk2
  rw [n1, n2] at kk2
  obtain ⟨t, a1, b1⟩ := kk2 Fl rfl X'
  refine ⟨t, stp t ?_, b1⟩
  rw [show T.heap.size = NX h by rw [hT]; exact hR.1]
  exact a1
