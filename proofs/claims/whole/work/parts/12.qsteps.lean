/-! the JDK's own members: max, min, ordinal, clone; new int[14][3] -/
section QSTEP
variable {p : Program} {l : Launch} {e : Env} {R : Room} {s : State} {m : MethodId} {args : Array Value} {below : List Frame} {meth : Method} {c : Code} {H : Heap} {locs : List Loc} {cells slots : Nat} {Q : State → Prop}
variable {D : Dk} {G : Nat → Option Nat} {d k pc i : Nat} {ls : Array Slot} {lo : List (Option MV)} {r : List MV} {h : Hp}
theorem s_max {x y : Int} (F : FrK D G p s m args meth c k) (P : Pr D G s H locs ls lo (vI y :: vI x :: r) h) (hml : lo.length = mxl k) (hd : decode (codeOf k) pc = .ok (.invokestatic i, 3)) (hw : wMtx (ownOf k) i 1004 false ∈ mw) (hRd : d ≤ R.frames ∧ 40 * d ≤ R.locals) (b2 : r.length ≤ 4) (b3 : 1 ≤ d) (hc : cells ≤ R.cells) (hs : slots ≤ R.slots)
    (kk : Kk D G p l e R s m args below meth c cells slots Q h (pc + 3, lo, vI (if x < y then y else x) :: r, h)) : W p l e R s m args below meth c H locs cells slots Q (F0 m pc ls ((vI y :: vI x :: r).map cv)) := by
  have hts := F.2.2.2.2.1
  have hy : InR y := P.hd
  have hx : InR x := P.tail.hd
  have hcat := cat_le r
  refine va_mmax F.1 F.2.1 (by rw [F.2.2.1, ← hml]; exact P.1.1.symm) F.2.2.2.1 (hts _ hw) (hts _ (mw_of (i := 41) (by decide +kernel))) (hts _ (mw_of (i := 3) (by decide +kernel))) (hts _ (mw_of (i := 42) (by decide +kernel))) (by omega) (by omega) hc hs hd ?_
  have q := st_push (v := vI (if x < y then y else x)) P.tail.tail (by show InR _; split <;> assumption) kk
  rwa [show cv (vI (if x < y then y else x)) = .int (if i32 x < i32 y then i32 y else i32 x) by
    by_cases z : x < y
    · rw [if_pos z, if_pos ((i32_lt hx hy).mpr z)]; rfl
    · rw [if_neg z, if_neg (fun w => z ((i32_lt hx hy).mp w))]; rfl] at q
theorem s_min {x y : Int} (F : FrK D G p s m args meth c k) (P : Pr D G s H locs ls lo (vI y :: vI x :: r) h) (hml : lo.length = mxl k) (hd : decode (codeOf k) pc = .ok (.invokestatic i, 3)) (hw : wMtx (ownOf k) i 1005 false ∈ mw) (hRd : d ≤ R.frames ∧ 40 * d ≤ R.locals) (b2 : r.length ≤ 4) (b3 : 1 ≤ d) (hc : cells ≤ R.cells) (hs : slots ≤ R.slots)
    (kk : Kk D G p l e R s m args below meth c cells slots Q h (pc + 3, lo, vI (if y < x then y else x) :: r, h)) : W p l e R s m args below meth c H locs cells slots Q (F0 m pc ls ((vI y :: vI x :: r).map cv)) := by
  have hts := F.2.2.2.2.1
  have hy : InR y := P.hd
  have hx : InR x := P.tail.hd
  have hcat := cat_le r
  refine va_mmin F.1 F.2.1 (by rw [F.2.2.1, ← hml]; exact P.1.1.symm) F.2.2.2.1 (hts _ hw) (hts _ (mw_of (i := 558) (by decide +kernel))) (hts _ (mw_of (i := 3) (by decide +kernel))) (hts _ (mw_of (i := 559) (by decide +kernel))) (by omega) (by omega) hc hs hd ?_
  have q := st_push (v := vI (if y < x then y else x)) P.tail.tail (by show InR _; split <;> assumption) kk
  rwa [show cv (vI (if y < x then y else x)) = .int (if i32 y < i32 x then i32 y else i32 x) by
    by_cases z : y < x
    · rw [if_pos z, if_pos ((i32_lt hy hx).mpr z)]; rfl
    · rw [if_neg z, if_neg (fun w => z ((i32_lt hy hx).mp w))]; rfl] at q
theorem goodIn_ap {big a b : List Cond} (ha : GoodIn big a) (hb : GoodIn big b) : GoodIn big (a ++ b) := fun w h => (List.mem_append.mp h).elim (ha w) (hb w)
def yOrd : MethodName := ⟨"java/lang/Enum", "ordinal", "()I"⟩
def wsOrd : List Cond := .code yOrd prog_20_method_2_code 1 (some .int) :: [.fieldLink "java/lang/Enum" 7 "java/lang/Enum" "ordinal" "I"]
theorem ord_0 : decode prog_20_method_2_code 0 = .ok (.aload_n 0, 1) := by decide +kernel
theorem ord_1 : decode prog_20_method_2_code 1 = .ok (.getfield 7, 3) := by decide +kernel
theorem ord_4 : decode prog_20_method_2_code 4 = .ok (.ireturn, 1) := by decide +kernel
theorem wsOrd_in : GoodIn mw wsOrd := by
  intro w hw
  have h1 : w ∈ mw := by
    rcases List.mem_cons.mp hw with rfl | hw
    · exact wCd_in (p := 809) (by rfl)
    · rw [List.mem_singleton.mp hw]
      exact mw_of (i := 2546) (by decide +kernel)
  exact ⟨h1, (mw_self w h1).2⟩
set_option maxRecDepth 100000 in
theorem c_ord (l : Launch) (a : Nat) (v : Int32) (A : Nat → Prop) : Met l yOrd wsOrd ({ frames := 0, cells := 0, slots := 0, locals := 0 }) (va_Pc [.ref a] (fun U => va_OF "java/lang/Enum" "ordinal" "I" (.int v) a A U U.heap)) (QcRead v) 0 0 (fun _ => False) := by
  refine Met.ofW (cc := prog_20_method_2_code) (maxL := 1) (ret := some .int) (by decide) rfl ?_
  intro p e s m args below meth c s₁ B hml hv
  obtain ⟨rfl, hF⟩ := hv
  have hx := B.exec
  have hb := B.bytes
  have hr := B.returns
  have hts := atoms_spec (ws := wsOrd) B.pre
  have hown : s.vm.findClass "java/lang/Enum" = some m.cls := findClass_of_methodNamed B.named
  have hlocks := B.notSynchronized
  have hl := lv_entry ([.ref a]) (n := 1) (Nat.le_of_ble_eq_true rfl)
  rw [lg_entry_eq]
  generalize (lg_sl ([.ref a]) ++ List.replicate (1 - (lg_sl ([.ref a])).length) Slot.unset).toArray = ls at hl ⊢
  have hl : lv_has ls 1 [(0, .ref a)] := hl
  obtain ⟨cf, kf, i, fd, cell, g1, g2, g3, g4, g5, -⟩ := hF
  refine lv_aload_n hx hb ord_0 rfl (lv_at hl 0 rfl) ?_
  refine W.getf hx hb hown (hts _ (List.mem_cons_of_mem _ List.mem_cons_self)) g1 g2 g3 g4 g5 (g := F0 m 1 ls [.ref a]) rfl rfl ord_1 ?_
  exact W.iret hx hb hr (fun t ht _ => ⟨rfl, ht⟩) (fun q hq => by cases hq) ord_4
theorem s_ord {a : Nat} (F : FrK D G p s m args meth c k) (P : Pr D G s H locs ls lo (vR (some a) :: r) h) (hml : lo.length = mxl k) (hd : decode (codeOf k) pc = .ok (.invokevirtual i, 3)) (hw : wMtx (ownOf k) i 1003 false ∈ mw) (hRd : d ≤ R.frames ∧ 40 * d ≤ R.locals) (hka : KD h a = 31) (b2 : r.length ≤ 4) (b3 : 2 ≤ d) (hc : cells ≤ R.cells) (hs : slots ≤ R.slots)
    (kk : Kk D G p l e R s m args below meth c cells slots Q h (pc + 3, lo, vI (FI h 2179 a) :: r, h)) : W p l e R s m args below meth c H locs cells slots Q (F0 m pc ls ((vR (some a) :: r).map cv)) := by
  have hts := F.2.2.2.2.1
  have hR := P.2.2.2.1
  obtain ⟨v1, -, -, -, v5⟩ := hR.2.2.2.2.2.2.1 a hka
  obtain ⟨cellB, c1, c2, c3, -⟩ := v1
  have hcat := cat_le r
  have hT : GoodIn mw (va_wsU (onm (ownOf k)) i "BuildHouse$Verb" "java/lang/Enum" ⟨"BuildHouse$Verb", "ordinal", "()I"⟩ yOrd wsOrd) := by
    refine goodIn_ap (fun w hw2 => ?_) wsOrd_in
    have h1 : w ∈ mw := by
      simp only [List.mem_cons, List.not_mem_nil, or_false] at hw2
      rcases hw2 with rfl | rfl | rfl | rfl | rfl
      · exact hw
      · exact mw_of (i := 805) (by decide +kernel)
      · exact mw_of (i := 807) (by decide +kernel)
      · exact mw_of (i := 808) (by decide +kernel)
      · exact mw_of (i := 5) (by decide +kernel)
    exact ⟨h1, (mw_self w h1).2⟩
  have cw := va_cwU (R := R) (s := s) (args := args) (mc := 0) (ms := 0) (rm := { frames := 0, cells := 0, slots := 0, locals := 0 }) 0 hts hT rfl rfl rfl rfl ⟨by decide, by decide, by decide +kernel⟩ ⟨by show 0 + 1 ≤ _; omega, by show 8 + (1 + 11) + 0 ≤ _; omega⟩
  have hr := va_runU (l := l) (p := p) (e := e) (below := below) (meth := meth) (locs := locs) (cells := cells) (slots := slots) (nL := mxl k) (As := []) (rest := r.map cv) (g := F0 m pc ls (.ref a :: r.map cv)) ⟨F.1, F.2.1, F.2.2.1, F.2.2.2.1, hts⟩ (c_ord l a (i32 (FI h 2179 a)) (oA D)) cw ⟨fun b U g mk q => ⟨q.1, q.2.moved (u := U) (U := U.calling g mk b) (Vm.Alike.refl U.vm)⟩, ⟨cellB, c1, c2, c3⟩, fun U hU hW => ⟨rfl, by show va_OF _ _ _ _ _ _ U U.heap; rw [hU]; exact v5.moved hW.alike⟩⟩ rfl rfl (by rw [← hml]; exact P.1.1) rfl (by show 2 * 0 + _ ≤ 8; omega) hd ⟨by omega, by omega⟩
  intro T hT2 X
  obtain ⟨v, st₀, t, T', L, h0, X', hL, e1, e2, ⟨hv, hh⟩, stp⟩ := hr T hT2 X
  cases hv
  obtain ⟨t2, a1, b1⟩ := st_push (v := vI (FI h 2179 a)) P.tail (hR.2.2.1.1 2179 a) kk T' (by rw [e1, hh, h0]) (Stand.forget X' (fun q hq => (hL q hq).elim))
  exact ⟨t2, stp t2 a1, b1⟩
theorem ofFn_ext {cell : Cell} {cA : ClassId} {N : Nat} {f : Nat → Value} (h0 : cell.cls = cA) (h1 : cell.slots.size = N) (h2 : ∀ j, j < N → cell.slots[j]? = some (f j)) : ({ cls := cell.cls, slots := cell.slots } : Cell) = arrV cA N f := by
  have e : cell.slots = (arrV cA N f).slots := by
    apply Array.ext
    · rw [h1, arrV_size]
    · intro i hi hi2
      have a1 := h2 i (by rw [← h1]; exact hi)
      have a2 := arrV_read cA f (j := i) (N := N) (by rw [← h1]; exact hi)
      rw [Array.getElem?_eq_getElem hi] at a1
      rw [Array.getElem?_eq_getElem hi2] at a2
      exact (Option.some.inj a1).trans (Option.some.inj a2).symm
  rw [e, h0]
  rfl
theorem nwC_off {h : Hp} {x kd b : Nat} (e : b ≠ NX h) : KD (nwC h x kd) b = KD h b ∧ LN (nwC h x kd) b = LN h b ∧ (∀ f, FI (nwC h x kd) f b = FI h f b ∧ FL (nwC h x kd) f b = FL h f b ∧ FR (nwC h x kd) f b = FR h f b) ∧ ∀ j, AI (nwC h x kd) b j = AI h b j ∧ AL (nwC h x kd) b j = AL h b j ∧ AR (nwC h x kd) b j = AR h b j :=
  ⟨up1_ne e, up1_ne e, fun f => ⟨cl2_ne e f, cl2_ne e f, cl2_ne e f⟩, fun j => ⟨cl1_ne e j, cl1_ne e j, if_neg e⟩⟩
theorem s_clone {b : Nat} (F : FrK D G p s m args meth c k) (P : Pr D G s H locs ls lo (vR (some b) :: r) h) (hml : lo.length = mxl k) (hd : decode (codeOf k) pc = .ok (.invokevirtual i, 3)) (hw : wMtx (ownOf k) i 1002 false ∈ mw) (hRd : d ≤ R.frames ∧ 40 * d ≤ R.locals) (hkb : KD h b = 82) (b2 : r.length ≤ 4) (b3 : 1 ≤ d) (hroom : cells + (NX (nwC h b 75) - NX h) ≤ R.cells ∧ slots + (SL (nwC h b 75) - SL h) ≤ R.slots)
    (kk : Kk D G p l e R s m args below meth c cells slots Q h (pc + 3, lo, vR (some (NX h)) :: r, nwC h b 75)) : W p l e R s m args below meth c H locs cells slots Q (F0 m pc ls ((vR (some b) :: r).map cv)) := by
  have hts := F.2.2.2.2.1
  have hG := F.2.2.2.2.2.1
  have hR := P.2.2.2.1
  have hcat := cat_le r
  have n1 : NX (nwC h b 75) - NX h = 1 := Nat.add_sub_cancel_left (NX h) 1
  have n2 : SL (nwC h b 75) - SL h = LN h b := Nat.add_sub_cancel_left (SL h) _
  rw [n1, n2] at hroom
  obtain ⟨cell, c1, c2, c3, c4⟩ := hR.2.2.2.2.2.2.2.2.2 b hkb
  obtain ⟨cell', c1', g2, g3, -, -, g6, -⟩ := hR.2.2.2.2.2.2.2.1 b 82 (by simp) hkb
  cases c1.symm.trans c1'
  obtain ⟨kA, comp, r1, r2, r3, r4⟩ := (tys_arr hG (kd := 75) (by decide)).2
  obtain ⟨c0, t0', f1, f2, f3⟩ := Cond.castable_spec (va_Nw.use (A := args) rfl hG.2.2.2.2.1)
  have hnm : s.vm.findClass "[LBuildHouse$Verb;" = some (D.2.2.1 75) := r4
  cases hnm.symm.trans f1
  have hce := ofFn_ext (cell := cell) c3 c2 (fun j hj => g6 j hj)
  have e75 : aval h 82 b = fun j => va_rf (AR h b j) := by funext j; rfl
  intro T hT X
  obtain ⟨-, kT, hkT, compT, hkindT⟩ := State.isArrayOf_alike X.warmed.alike g2
  obtain ⟨vm', X', stp⟩ := X.cloneArray F.1 F.2.2.2.1 (hts _ hw) (hts _ (mw_of (i := 65) (by decide +kernel))) (hts _ (mw_of (i := 66) (by decide +kernel))) (hts _ (mw_of (i := 67) (by decide +kernel))) (hts _ (mw_of (i := 68) (by decide +kernel))) (a := b) (cell := cell) (by rw [hT]; exact c1) g2.1 g3 (by rw [c3]; exact hnm) f2 (by rw [c3]; exact f3)
    (fun j v hv => by
      have hj : j < LN h b := by rw [← c2]; exact (Array.getElem?_eq_some_iff.mp hv).1
      have := hv.symm.trans (g6 j hj)
      cases this
      rw [e75]
      have hk' : T.vm.classes[cell.cls]? = some kT := hkT
      have : fits (kty 82) (va_rf (AR h b j)) = true := by cases AR h b j <;> rfl
      simpa [State.fitsSlot, State.slotType?, hk', hkindT] using this)
    (g := F0 m pc ls (.ref b :: r.map cv)) rfl (by rw [F.2.2.1, ← hml]; exact P.1.1) rfl (by rw [F.2.1]; exact hd) (by omega) (by show 2 * 0 + _ + 14 ≤ _; omega) hroom.1 (by rw [c2]; exact hroom.2) (hloader := by rw [c3]; exact Vm.clonesLoader_of_array r1 r2)
  rw [hce, c2] at X'
  have h15 : ∀ x ∈ aKs, 15 ≤ x ∧ x < 77 := by decide
  have hoff : ∀ {y : Nat}, y ≠ NX h → _ := fun {y} e => nwC_off (h := h) (x := b) (kd := 75) (b := y) e
  have hK : KD (nwC h b 75) (NX h) = 75 := up1_eq _ _ _
  obtain ⟨o1, o2, o3, o4, o5⟩ := hR.2.2.1
  have hok' : hok (nwC h b 75) := by
    refine ⟨InR_cl2 o1, InR_cl1 o2, fun y j q => ?_, fun y j q => ?_, fun y => ?_⟩
    · by_cases e : y = NX h
      · rw [e, hK] at q; omega
      · rw [((hoff e).2.2.2 j).1]; exact o3 y j ((hoff e).1.symm.trans q)
    · by_cases e : y = NX h
      · rw [e, hK] at q; omega
      · rw [((hoff e).2.2.2 j).1]; exact o4 y j ((hoff e).1.symm.trans q)
    · by_cases e : y = NX h
      · rw [e, show LN (nwC h b 75) (NX h) = LN h b from up1_eq _ _ _]; exact o5 b
      · rw [(hoff e).2.1]; exact o5 y
  have hrel : Rel D G (nwC h b 75) s (H.push (arrV (D.2.2.1 75) (LN h b) (aval h 82 b))) := by
    refine rel_new hR (by rw [Array.size_push, hR.1]; rfl) (Nat.le_succ _) (fun q hq => by rw [Array.getElem?_push, if_neg (by rw [hR.1]; omega)]) (fun y hy => hoff (by omega)) (fun y hy => ?_) hok'
    by_cases e : y = NX h
    · subst e
      refine ⟨fun c hc hk => ?_, fun kd' hkd' hk => ?_, fun hk => ?_⟩
      · rw [hK] at hk; omega
      · rw [hK] at hk
        subst hk
        refine ⟨by decide, ?_⟩
        rw [show LN (nwC h b 75) (NX h) = LN h b from up1_eq _ _ _, ← hR.1, Array.getElem?_push_size]
        congr 2
        funext j
        rw [e75]
        show va_rf (AR h b j) = va_rf (AR (nwC h b 75) H.size j)
        rw [hR.1, show AR (nwC h b 75) (NX h) j = AR h b j from if_pos rfl]
      · rw [hK] at hk; omega
    · obtain ⟨o1, o2, o3, o4⟩ := hoff e
      exact ⟨fun c hc hk => ((off_kd hR hy).1 c hc (o1.symm.trans hk)).elim, fun kd' hkd' hk => ((off_kd hR hy).2 kd' hkd' (o1.symm.trans hk)).elim, fun hk => ⟨o1.symm, o2, fun f _ => ⟨(o3 f).1, (o3 f).2.2⟩, fun j => ⟨(o4 j).1, (o4 j).2.2⟩⟩⟩
  have kk2 := kk ls _ locs P.1 P.2.1 (fun w hw => (List.mem_cons.mp hw).elim (fun q => by rw [q]; trivial) (P.tail.2.2.1 w)) hrel P.2.2.2.2
  dsimp only at kk2
  rw [n1, n2] at kk2
  obtain ⟨t, a1, b1⟩ := kk2 _ (by rw [← hT]; rfl) X'
  refine ⟨t, stp t ?_, b1⟩
  rw [hce, show T.heap.size = NX h by rw [hT]; exact hR.1]
  exact a1
end QSTEP
