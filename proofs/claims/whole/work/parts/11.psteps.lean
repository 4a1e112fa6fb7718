/-! arrays of references, copies, the JDK's own members -/
theorem s_anewarray (i : Nat) : Sok (.anewarray i) := by
  intro p l e R s m args below meth c H locs cells slots Q D G d k pc ls lo st h I len z F P hml hd hl hr hx hroom hRd kk
  obtain rfl := len_of (n := 3) hl (fun _ => rfl)
  obtain ⟨⟨ec, ps⟩, hlk, rfl⟩ := Option.map_eq_some_iff.mp (show ((clsT.getD (ownOf k) []).lookup i).map (fun e => Instr.anewarray e.1) = some I from hr)
  obtain ⟨n, r, rfl, hx⟩ := popI_inv hx
  obtain ⟨⟨⟨b1, b2⟩, b3⟩, hx⟩ := grd_inv hx
  cases hx
  dsimp only at b3
  have hw := cls_n F.2.2.2.2.2.2.2.1 hlk
  have hc : cnm ec = onm ec := by unfold cnm; rw [if_neg (by omega), if_neg (by omega)]
  rw [hc] at hw
  have hG := F.2.2.2.2.2.1
  have hts := F.2.2.2.2.1
  have hR := P.2.2.2.1
  have n1 : NX (nwA h (50 + ec) n.toNat) - NX h = 1 := Nat.add_sub_cancel_left (NX h) 1
  have n2 : SL (nwA h (50 + ec) n.toNat) - SL h = n.toNat := Nat.add_sub_cancel_left (SL h) _
  rw [show NX (pc + 3, lo, vR (some (NX h)) :: r, nwA h (50 + ec) n.toNat).2.2.2 = NX (nwA h (50 + ec) n.toNat) from rfl, show SL (pc + 3, lo, vR (some (NX h)) :: r, nwA h (50 + ec) n.toNat).2.2.2 = SL (nwA h (50 + ec) n.toNat) from rfl, n1, n2] at hroom
  have f1 : kty (50 + ec) = .object (onm ec) ∧ 50 + ec ∈ aUs ∧ ec ∈ [1, 2, 5, 12] := by
    rcases b3 with rfl | rfl | rfl | rfl <;> exact ⟨rfl, by decide, by decide⟩
  have hcl := clamp_i32 b1 b2
  refine W.anew F.1 F.2.1 F.2.2.2.1 (hts _ hw) (va_AO.use (hG.2.2.1 _ f1.2.2)) (g := F0 m pc ls _) rfl hd (n := i32 n) rfl (by rw [← i32_0, i32_lt ⟨by omega, by omega⟩ InR_0]; omega) (by rw [hcl]; omega) hroom.1 (by rw [hcl]; exact hroom.2) (fun cA kA comp c1 c2 c3 c4 => ?_)
  rw [hcl]
  have hcA : D.2.2.1 (50 + ec) = cA := by
    have q := (tys_arr hG f1.2.1).2
    rw [f1.1] at q
    obtain ⟨_, _, -, -, -, q4⟩ := q
    exact Option.some.inj (q4.symm.trans c1)
  rw [arrV_new, ← hcA]
  have kk2 := kk ls (H.push (arrV (D.2.2.1 (50 + ec)) n.toNat (fun _ => .null))) locs P.1 P.2.1 (fun w hw => (List.mem_cons.mp hw).elim (fun q => by rw [q]; trivial) (P.tail.2.2.1 w))
    (rel_nwA hR f1.2.1 (by omega) (by rw [f1.1, ← hR.1]; simp; rfl) (by rw [Array.size_push, hR.1]) (fun q hq => by rw [Array.getElem?_push, if_neg (by rw [hR.1]; omega)])) P.2.2.2.2
  dsimp only at kk2
  rw [n1, n2] at kk2
  rw [hR.1]
  exact kk2
theorem s_checkcast (i : Nat) : Sok (.checkcast i) := by
  intro p l e R s m args below meth c H locs cells slots Q D G d k pc ls lo st h I len z F P hml hd hl hr hx hroom hRd kk
  obtain rfl := len_of (n := 3) hl (fun _ => rfl)
  obtain ⟨⟨ec, ps⟩, hlk, rfl⟩ := Option.map_eq_some_iff.mp (show ((clsT.getD (ownOf k) []).lookup i).map (fun e => Instr.checkcast e.1) = some I from hr)
  obtain ⟨b, r, rfl, hx⟩ := popA_inv hx
  obtain ⟨⟨b1, b2⟩, hx⟩ := grd_inv hx
  cases hx
  dsimp only at b1
  subst b1
  have hw := cls_n F.2.2.2.2.2.2.2.1 hlk
  have hG := F.2.2.2.2.2.1
  have hR := P.2.2.2.1
  have ha := arr_own hR (b := b) (by rw [b2]; decide)
  rw [b2] at ha
  obtain ⟨kA, comp, r1, r2, r3, r4⟩ := (tys_arr hG (kd := 75) (by decide)).2
  intro T hT X
  obtain ⟨vm', X', stp⟩ := X.checkcastYes F.1 F.2.2.2.1 (F.2.2.2.2.1 _ hw) (by rw [hT]; exact ha) rfl r4 (va_asg _ _) (g := F0 m pc ls _) rfl rfl (by rw [F.2.1]; exact hd)
  obtain ⟨t, a1, b1⟩ := st_push (v := vR (some b)) P.tail trivial kk (T.setVm vm') hT X'
  exact ⟨t, stp t a1, b1⟩
theorem mth_n {o idx j ps : Nat} {nest : Bool} (ho : o < 22) (h : (mthT.getD o []).lookup idx = some (j, ps, nest)) :
    (if nest then wMtx o idx j true ∈ nestL else wMtx o idx j false ∈ mw) ∧ (j < NM ∨ (1000 ≤ j ∧ j < 1006 ∧ nest = false)) := by
  have h1 := List.all_eq_true.mp (all_range mth_c ho) _ (lookup_mem h)
  dsimp only at h1
  simp only [Bool.and_eq_true, Bool.or_eq_true, decide_eq_true_eq, Bool.not_eq_true'] at h1
  obtain ⟨⟨h2, h3⟩, h4⟩ := h1
  refine ⟨?_, by rcases h4 with h4 | ⟨⟨a, b⟩, c⟩; exact Or.inl h4; exact Or.inr ⟨a, b, c⟩⟩
  cases nest with
  | true =>
    simp only [if_true] at h3 ⊢
    exact ne_of (by rw [h2, h3]; rfl)
  | false =>
    simp only [Bool.false_eq_true, if_false] at h3 ⊢
    exact mw_of (by rw [h2, h3]; rfl)
theorem cat_le (r : List MV) : ((r.map cv).map fun v => v.category).sum ≤ 2 * r.length := by
  induction r with
  | nil => exact Nat.le_refl _
  | cons v r ih =>
    rw [List.map_cons, List.map_cons, List.sum_cons, List.length_cons]
    have : (cv v).category ≤ 2 := by
      rcases v with x | x | x
      · exact Nat.le_succ 1
      · exact Nat.le_refl 2
      · cases x <;> exact Nat.le_succ 1
    omega
theorem NM_lt : NM < 1000 := by decide
theorem s_special (i : Nat) {k pc : Nat} (hk : ∀ j, rs k pc (.invokespecial i) ≠ some (.invokevirtual j)) : ∀ {p : Program} {l : Launch} {e : Env} {R : Room} {s : State} {m : MethodId} {args : Array Value} {below : List Frame} {meth : Method} {c : Code} {H : Heap} {locs : List Loc} {cells slots : Nat} {Q : State → Prop} {D : Dk} {G : Nat → Option Nat} {d : Nat} {ls : Array Slot} {lo : List (Option MV)} {st : List MV} {h : Hp} {I : Instr} {len : Nat} {z : SR},
  FrK D G p s m args meth c k → Pr D G s H locs ls lo st h → lo.length = mxl k → decode (codeOf k) pc = .ok (.invokespecial i, len) → lenOk (.invokespecial i) len = true → rs k pc (.invokespecial i) = some I → sx G d I (pc + len) lo st h = some z → (d ≤ R.frames ∧ 40 * d ≤ R.locals) →
  Kk D G p l e R s m args below meth c cells slots Q h z → W p l e R s m args below meth c H locs cells slots Q (F0 m pc ls (st.map cv)) := by
  intro p l e R s m args below meth c H locs cells slots Q D G d ls lo st h I len z F P hml hd hl hr hx hRd kk
  obtain rfl := len_of (n := 3) hl (fun _ => rfl)
  obtain ⟨⟨j, ps, nest⟩, hlk, hI⟩ := Option.bind_eq_some_iff.mp (show ((mthT.getD (ownOf k) []).lookup i).bind (fun e => if e.1 = 1000 then some (.invokespecial 0) else if knd e.1 = 2 then some (.invokevirtual e.1) else none) = some I from hr)
  obtain ⟨hw, hj⟩ := mth_n F.2.2.2.2.2.2.2.1 hlk
  dsimp only at hI
  split at hI
  · rename_i e1
    subst e1
    cases hI
    obtain ⟨a, r, rfl, hx⟩ := popA_inv hx
    obtain ⟨⟨b1, b2, b3⟩, hx⟩ := grd_inv hx
    cases hx
    have hn : nest = false := by rcases hj with hj | hj; exact absurd hj (by have := NM_lt; omega); exact hj.2.2
    subst hn
    simp only [Bool.false_eq_true, if_false] at hw
    have hts := F.2.2.2.2.1
    have hcat := cat_le r
    exact W.objInit F.1 F.2.1 F.2.2.2.1 (hts _ hw) (hts _ (mw_of (i := 32) (by decide +kernel))) (hts _ (mw_of (i := 33) (by decide +kernel))) (g := F0 m pc ls _) rfl (by rw [F.2.2.1, ← hml]; exact P.1.1) rfl hd (by omega) (by show 2 * 0 + _ + 12 ≤ _; omega) (P.tail.go kk)
  · split at hI
    · cases hI
      exact absurd hr (hk _)
    · cases hI
theorem fill_av {h : Hp} {kd a s sp tp n : Nat} (hk : kd = 40 ∨ kd = 41 ∨ kd = 42) : aval (cpI h s sp a tp n) kd a = va_cpy (aval h kd s) (aval h kd a) sp tp n := by
  funext j
  have e1 : ¬ kd = 44 := by omega
  have e2 : ¬ ((50 ≤ kd ∧ kd < 77) ∨ kd = 82) := by omega
  simp only [aval, va_cpy, e1, e2, if_false]
  show Value.int (i32 (cpy2 (AI h) s sp a tp n a j)) = _
  unfold cpy2
  by_cases q : tp ≤ j ∧ j < tp + n
  · rw [if_pos ⟨rfl, q.1, q.2⟩, if_pos q]
  · rw [if_neg (fun z => q z.2), if_neg q]
theorem fill_avL {h : Hp} {a s sp tp n : Nat} : aval (cpL h s sp a tp n) 44 a = va_cpy (aval h 44 s) (aval h 44 a) sp tp n := by
  funext j
  simp only [aval, va_cpy, if_true]
  show Value.long (cpy2 (AL h) s sp a tp n a j) = _
  unfold cpy2
  by_cases q : tp ≤ j ∧ j < tp + n
  · rw [if_pos ⟨rfl, q.1, q.2⟩, if_pos q]
  · rw [if_neg (fun z => q z.2), if_neg q]
theorem cpy2_off {α : Type} {A : Nat → Nat → α} {b s sp t tp n : Nat} (h : b ≠ t) (j : Nat) : cpy2 A s sp t tp n b j = A b j := if_neg (fun q => h q.1)
theorem hok_cpI {h : Hp} {s sp t tp n : Nat} (hh : hok h) (hst : KD h s = KD h t) : hok (cpI h s sp t tp n) := by
  obtain ⟨o1, o2, o3, o4, o5⟩ := hh
  refine ⟨o1, fun b j => ?_, fun b j q => ?_, fun b j q => ?_, o5⟩
  · show InR (cpy2 (AI h) s sp t tp n b j)
    unfold cpy2; split
    · exact o2 _ _
    · exact o2 _ _
  · show -128 ≤ cpy2 (AI h) s sp t tp n b j ∧ cpy2 (AI h) s sp t tp n b j < 128
    unfold cpy2; split
    · rename_i z
      exact o3 _ _ (by rw [hst, ← z.1]; exact q)
    · exact o3 _ _ q
  · show cpy2 (AI h) s sp t tp n b j = 0 ∨ cpy2 (AI h) s sp t tp n b j = 1
    unfold cpy2; split
    · rename_i z
      exact o4 _ _ (by rw [hst, ← z.1]; exact q)
    · exact o4 _ _ q
/-- System.arraycopy over two arrays of numbers -/
theorem s_copy {k pc i : Nat} {p : Program} {l : Launch} {e : Env} {R : Room} {s : State} {m : MethodId} {args : Array Value} {below : List Frame} {meth : Method} {c : Code} {H : Heap} {locs : List Loc} {cells slots : Nat} {Q : State → Prop} {D : Dk} {G : Nat → Option Nat} {d : Nat} {ls : Array Slot} {lo : List (Option MV)} {r : List MV} {h h' : Hp} {sa ta : Nat} {sp tp n : Int}
    (F : FrK D G p s m args meth c k) (P : Pr D G s H locs ls lo r h) (hml : lo.length = mxl k) (hd : decode (codeOf k) pc = .ok (.invokestatic i, 3)) (hw : wMtx (ownOf k) i 1001 false ∈ mw) (hRd : d ≤ R.frames ∧ 40 * d ≤ R.locals)
    (k1 : KD h sa = KD h ta) (k2 : KD h ta = 40 ∨ KD h ta = 41 ∨ KD h ta = 42 ∨ KD h ta = 44) (b2 : r.length ≤ 4) (b3 : 1 ≤ d) (c1 : 0 ≤ sp) (c2 : 0 ≤ tp) (c3 : 0 ≤ n) (c4 : sp + n ≤ (LN h sa : Int)) (c5 : tp + n ≤ (LN h ta : Int)) (hne : sa ≠ ta)
    (hh : h' = if KD h ta = 44 then cpL h sa sp.toNat ta tp.toNat n.toNat else cpI h sa sp.toNat ta tp.toNat n.toNat)
    (kk : Kk D G p l e R s m args below meth c cells slots Q h (pc + 3, lo, r, h')) : W p l e R s m args below meth c H locs cells slots Q (F0 m pc ls ((vI n :: vI tp :: vR (some ta) :: vI sp :: vR (some sa) :: r).map cv)) := by
  have hR := P.2.2.2.1
  have hG := F.2.2.2.2.2.1
  have hts := F.2.2.2.2.1
  have hta : KD h ta ∈ aKs := by rcases k2 with q | q | q | q <;> rw [q] <;> decide
  have hsa : KD h sa ∈ aKs := by rw [k1]; exact hta
  have cs := arr_own hR hsa
  have ct := arr_own hR hta
  rw [k1] at cs
  obtain ⟨-, kt, hkt, cmt, hkkt⟩ := (tys_arr hG (arr_use hR hta)).1 0 (fun _ => .null)
  have hkt' : s.vm.classes[D.2.2.1 (KD h ta)]? = some kt := hkt
  have hnf : nativeFrameWords "java/lang/System" "arraycopy" 5 + 11 ≤ 32 := by decide +kernel
  have ls1 : LN h sa ≤ 60000000 := hR.2.2.1.2.2.2.2 sa
  have lt1 : LN h ta ≤ 60000000 := hR.2.2.1.2.2.2.2 ta
  have e1 := clamp_i32 (i := sp) c1 (by omega)
  have e2 := clamp_i32 (i := tp) c2 (by omega)
  have e3 := clamp_i32 (i := n) c3 (by omega)
  have r1 : InR sp := ⟨by omega, by omega⟩
  have r2 : InR tp := ⟨by omega, by omega⟩
  have r3 : InR n := ⟨by omega, by omega⟩
  have nn : ∀ {x : Int}, InR x → 0 ≤ x → ¬ i32 x < 0 := fun hx h0 => by rw [← i32_0, i32_lt hx InR_0]; omega
  have hprim : refKind (kty (KD h ta)) = false := by rcases k2 with q | q | q | q <;> rw [q] <;> rfl
  have hav : aval h' (KD h ta) ta = va_cpy (aval h (KD h ta) sa) (aval h (KD h ta) ta) sp.toNat tp.toNat n.toNat := by
    by_cases q : KD h ta = 44
    · rw [hh, if_pos q, q]; exact fill_avL
    · rw [hh, if_neg q]; exact fill_av (by omega)
  have hcat := cat_le r
  intro T hT X
  obtain ⟨vm', X', stp⟩ := X.arraycopy F.1 F.2.2.2.1 (hts _ hw) (hts _ (mw_of (i := 562) (by decide +kernel))) (hts _ (mw_of (i := 561) (by decide +kernel))) (hts _ (mw_of (i := 18) (by decide +kernel))) (src := sa) (dst := ta) (cs := arrV (D.2.2.1 (KD h ta)) (LN h sa) (aval h (KD h ta) sa)) (cd := arrV (D.2.2.1 (KD h ta)) (LN h ta) (aval h (KD h ta) ta)) (srcPos := i32 sp) (destPos := i32 tp) (n := i32 n) (by rw [hT]; exact cs) (by rw [hT]; exact ct)
    (fun _ q => by cases q) (fun _ q => by cases q) (fun q => by cases q) (fun q => by cases q) hkt' hkt' hkkt hkkt (by simp [hprim]) (nn r1 c1) (nn r2 c2) (nn r3 c3)
    (by rw [i32_ok r1, i32_ok r3, arrV_size]; omega) (by rw [i32_ok r2, i32_ok r3, arrV_size]; omega)
    (fun vm₁ _ j hj => by
      rw [e3] at hj
      rw [e1, Array.getD_eq_getD_getElem?, arrV_read _ _ (by omega)]
      obtain ⟨o1, o2, o3, o4, o5⟩ := hR.2.2.1
      show fits (kty (KD h ta)) (aval h (KD h ta) sa (sp.toNat + j)) = true ∧ (T.setVm vm₁).takes cmt (aval h (KD h ta) sa (sp.toNat + j))
      rcases k2 with q | q | q | q
      · rw [q]; exact ⟨rfl, trivial⟩
      · have hx := o3 sa (sp.toNat + j) (k1.trans q)
        rw [q]
        refine ⟨?_, trivial⟩
        have hb := nar_b hx
        show fits .byte (.int (i32 (AI h sa (sp.toNat + j)))) = true
        have ht : (i32 (AI h sa (sp.toNat + j))).toInt8.toInt32 = i32 (AI h sa (sp.toNat + j)) := by
          have := congrArg Value.int (vp_nar_byte (i32 (AI h sa (sp.toNat + j))))
          rw [show Value.int (vp_nar .byte (i32 (AI h sa (sp.toNat + j)))) = narrow .byte (.int (i32 (AI h sa (sp.toNat + j)))) from rfl, hb] at this
          exact (Value.int.inj this).symm
        rw [← ht]
        exact pk_fb _
      · have hx := o4 sa (sp.toNat + j) (k1.trans q)
        rw [q]
        refine ⟨?_, trivial⟩
        show fits .boolean (.int (i32 (AI h sa (sp.toNat + j)))) = true
        rcases hx with hx | hx <;> rw [hx] <;> rfl
      · rw [q]; exact ⟨rfl, trivial⟩)
    (g := F0 m pc ls _) rfl (by rw [F.2.2.1, ← hml]; exact P.1.1) (rest := r.map cv) rfl (by rw [F.2.1]; exact hd) (by omega) (by show 2 * 0 + _ + _ ≤ _; omega)
  have ec : copied (arrV (D.2.2.1 (KD h ta)) (LN h sa) (aval h (KD h ta) sa)) (arrV (D.2.2.1 (KD h ta)) (LN h ta) (aval h (KD h ta) ta)) (i32 sp) (i32 tp) (i32 n) = arrV (D.2.2.1 (KD h ta)) (LN h ta) (aval h' (KD h ta) ta) := by
    rw [hav]
    have := va_copied (fun z : Value => z) (D.2.2.1 (KD h ta)) (D.2.2.1 (KD h ta)) (n0 := LN h sa) (n1 := LN h ta) (sp := sp.toNat) (dp := tp.toNat) (n := n.toNat) (aval h (KD h ta) sa) (aval h (KD h ta) ta) (by omega)
    rw [← e1, ← e2, ← e3] at this
    rw [← e1, ← e2, ← e3]
    exact this
  rw [ec] at X' stp
  have hlt := (kd_own hR (Or.inr hta)).2
  have hmaps : FI h' = FI h ∧ FL h' = FL h ∧ FR h' = FR h ∧ KD h' = KD h ∧ LN h' = LN h ∧ NX h' = NX h ∧ SL h' = SL h ∧ (∀ b j, b ≠ ta → AI h' b j = AI h b j ∧ AL h' b j = AL h b j ∧ AR h' b j = AR h b j) ∧ hok h' := by
    by_cases q : KD h ta = 44
    · rw [hh, if_pos q]; exact ⟨rfl, rfl, rfl, rfl, rfl, rfl, rfl, fun b j hb => ⟨rfl, cpy2_off hb j, rfl⟩, hR.2.2.1⟩
    · rw [hh, if_neg q]; exact ⟨rfl, rfl, rfl, rfl, rfl, rfl, rfl, fun b j hb => ⟨cpy2_off hb j, rfl, rfl⟩, hok_cpI hR.2.2.1 k1⟩
  obtain ⟨m1, m2, m3, m4, m5, m6, m7, m8, m9⟩ := hmaps
  have hheap : ((T.setVm vm').setCell ta (arrV (D.2.2.1 (KD h ta)) (LN h ta) (aval h' (KD h ta) ta))).heap = H.setIfInBounds ta (arrV (D.2.2.1 (KD h ta)) (LN h ta) (aval h' (KD h ta) ta)) := by rw [← hT]; rfl
  have hrel := rel_ast (H' := H.setIfInBounds ta (arrV (D.2.2.1 (KD h ta)) (LN h ta) (aval h' (KD h ta) ta))) hR hta (by simp) (fun q hq => by simp [Array.getElem?_setIfInBounds, Ne.symm hq]) (by simp [Array.getElem?_setIfInBounds, hlt]) ⟨m1, m2, m3⟩ m8 ⟨m4, m5, m6⟩ m9
  have kk2 := kk ls _ (locs ++ (((arrV (D.2.2.1 (KD h ta)) (LN h sa) (aval h (KD h ta) sa)).stretch (i32 sp).toNatClampNeg (i32 n).toNatClampNeg).zipIdx.map fun q => (⟨ta, (i32 tp).toNatClampNeg + q.2⟩ : Loc))) P.1 P.2.1 P.2.2.1 hrel (fun w hw => (List.mem_append.mp hw).elim (P.2.2.2.2 w) (fun hw => by
      obtain ⟨y, -, hy⟩ := List.mem_map.mp hw
      rw [← hy]
      exact (kd_own hR (Or.inr hta)).1))
  dsimp only at kk2
  rw [m6, m7] at kk2
  obtain ⟨t, a1, b1⟩ := W0 kk2 _ hheap X'
  exact ⟨t, stp t a1, b1⟩
