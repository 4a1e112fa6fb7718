/-! arrays -/
section ASTEP
variable {p : Program} {l : Launch} {e : Env} {R : Room} {s : State} {m : MethodId} {args : Array Value} {below : List Frame} {meth : Method} {c : Code} {H : Heap} {locs : List Loc} {cells slots : Nat} {Q : State → Prop}
variable {D : Dk} {G : Nat → Option Nat} {d k pc : Nat} {ls : Array Slot} {lo : List (Option MV)} {st : List MV} {h : Hp}
theorem tys_arr {kd : Nat} (hG : GK D G s) (hk : kd ∈ aUs) : ArrOfT s (D.2.2.1 kd) (kty kd) ∧ va_RA s (D.2.2.1 kd) (kty kd) := by
  obtain ⟨j, hj⟩ := List.getElem?_of_mem hk
  exact hG.1.2 j (D.2.2.1 kd, kty kd) (by unfold tysL; rw [List.getElem?_map, hj]; rfl)
theorem clamp_i32 {i : Int} (h0 : 0 ≤ i) (h1 : i ≤ 60000000) : (i32 i).toNatClampNeg = i.toNat := by
  show (i32 i).toInt.toNat = i.toNat
  rw [i32_ok ⟨by omega, by omega⟩]
theorem nin_i32 {i : Int} {n : Nat} (h : bnd i n) (hn : n ≤ 60000000) : ¬ (i32 i < 0 ∨ n ≤ (i32 i).toNatClampNeg) := by
  obtain ⟨h0, h1⟩ := h
  rw [clamp_i32 h0 (by omega), ← i32_0, i32_lt ⟨by omega, by omega⟩ InR_0]
  omega
/-- a cell of an array, ours or not: what a load of place i finds -/
theorem arr_cell {b kd : Nat} {i : Int} (hG : GK D G s) (hR : Rel D G h s H) (hk : KD h b = kd) (hkd : kd ∈ aKs ∨ kd = 80 ∨ kd = 81 ∨ kd = 82) (hi : bnd i (LN h b)) :
    ∃ cell : Cell, H[b]? = some cell ∧ s.isArrayOf cell (kty kd) ∧ cell.vm ≠ .unknown ∧ ¬ (i32 i < 0 ∨ cell.slots.size ≤ (i32 i).toNatClampNeg) ∧ cell.slots[(i32 i).toNatClampNeg]? = some (aval h kd b i.toNat) := by
  have hn : LN h b ≤ 60000000 := hR.2.2.1.2.2.2.2 b
  have hc := clamp_i32 (i := i) hi.1 (by have := hi.2; omega)
  have hni := nin_i32 hi hn
  have hlt : i.toNat < LN h b := by have := hi.1; have := hi.2; omega
  rcases hkd with hkd | hkd
  · obtain ⟨-, g2, g3⟩ := hR.2.2.2.2.1 b kd hkd hk
    refine ⟨_, g3, (tys_arr hG g2).1 _ _, (fun q => by cases q), (by rw [arrV_size]; exact hni), ?_⟩
    rw [hc, arrV_read _ _ hlt]
  · obtain ⟨cell, g1, g2, g3, g4, g5, g6, -⟩ := hR.2.2.2.2.2.2.2.1 b kd hkd hk
    refine ⟨cell, g1, g2, g3, fun q => hni (q.imp id (fun q => by omega)), ?_⟩
    rw [hc]
    exact g6 _ hlt
theorem arr_len {b kd : Nat} (hG : GK D G s) (hR : Rel D G h s H) (hk : KD h b = kd) (hkd : kd ∈ aKs ∨ kd = 80 ∨ kd = 81 ∨ kd = 82) :
    ∃ cell : Cell, H[b]? = some cell ∧ s.isArrayOf cell (kty kd) ∧ cell.slots.size.toInt32 = i32 (LN h b) := by
  rcases hkd with hkd | hkd
  · obtain ⟨-, g2, g3⟩ := hR.2.2.2.2.1 b kd hkd hk
    exact ⟨_, g3, (tys_arr hG g2).1 _ _, by rw [arrV_size]; rfl⟩
  · obtain ⟨cell, g1, g2, g3, g4, g5, g6, -⟩ := hR.2.2.2.2.2.2.2.1 b kd hkd hk
    exact ⟨cell, g1, g2, by rw [g5]; rfl⟩
theorem arr_st {b : Nat} (hR : Rel D G h s H) (hk : KD h b ∈ aKs) {h' : Hp} {v : Value} {j : Nat} {H' : Heap} (e1 : H'[b]? = some ((arrV (D.2.2.1 (KD h b)) (LN h b) (aval h (KD h b) b)).setSlot j v))
    (hv : aval h' (KD h b) b = updV (aval h (KD h b) b) j v) : H'[b]? = some (arrV (D.2.2.1 (KD h b)) (LN h b) (aval h' (KD h b) b)) := by
  rw [e1, arrV_store, hv]
theorem arr_own {b : Nat} (hR : Rel D G h s H) (hk : KD h b ∈ aKs) : H[b]? = some (arrV (D.2.2.1 (KD h b)) (LN h b) (aval h (KD h b) b)) := (hR.2.2.2.2.1 b _ hk rfl).2.2
theorem arr_use {b : Nat} (hR : Rel D G h s H) (hk : KD h b ∈ aKs) : KD h b ∈ aUs := (hR.2.2.2.2.1 b _ hk rfl).2.1
theorem av_I {h h' : Hp} {b j : Nat} {x : Int} (hk : KD h b = 40 ∨ KD h b = 41 ∨ KD h b = 42) (e : h' = sAI h b j x) : aval h' (KD h b) b = updV (aval h (KD h b) b) j (.int (i32 x)) := by
  funext i
  subst e
  have e1 : ¬ KD h b = 44 := by omega
  have e2 : ¬ ((50 ≤ KD h b ∧ KD h b < 77) ∨ KD h b = 82) := by omega
  simp only [aval, updV, e1, e2, if_false]
  show Value.int (i32 (up2 (AI h) b j x b i)) = _
  unfold up2
  by_cases q : i = j
  · rw [if_pos ⟨rfl, q⟩, if_pos q]
  · rw [if_neg (fun z => q z.2), if_neg q]
theorem av_J {h h' : Hp} {b j : Nat} {x : Int64} (hk : KD h b = 44) (e : h' = sAL h b j x) : aval h' (KD h b) b = updV (aval h (KD h b) b) j (.long x) := by
  funext i
  subst e
  simp only [aval, updV, hk, if_true]
  show Value.long (up2 (AL h) b j x b i) = _
  unfold up2
  by_cases q : i = j
  · rw [if_pos ⟨rfl, q⟩, if_pos q]
  · rw [if_neg (fun z => q z.2), if_neg q]
theorem av_R {h h' : Hp} {b j : Nat} {x : Option Nat} (hk : 50 ≤ KD h b ∧ KD h b < 77) (e : h' = sAR h b j x) : aval h' (KD h b) b = updV (aval h (KD h b) b) j (va_rf x) := by
  funext i
  subst e
  have e1 : ¬ KD h b = 44 := by omega
  have e2 : ((50 ≤ KD h b ∧ KD h b < 77) ∨ KD h b = 82) := Or.inl hk
  simp only [aval, updV, e1, e2, if_false, if_true]
  show va_rf (up2 (AR h) b j x b i) = _
  unfold up2
  by_cases q : i = j
  · rw [if_pos ⟨rfl, q⟩, if_pos q]
  · rw [if_neg (fun z => q z.2), if_neg q]
theorem up2_off {α : Type} {F : Nat → Nat → α} {b a j : Nat} {v : α} (h : b ≠ a) (i : Nat) : up2 F a j v b i = F b i := if_neg (fun q => h q.1)
/-- behind a store of an element -/
theorem st_ast {b pc' : Nat} {h' : Hp} {H' : Heap} {q : Loc} (P : Pr D G s H locs ls lo st h) (hk : KD h b ∈ aKs) (hq : q.base = b) (e2 : H'.size = H.size) (e3 : ∀ q, q ≠ b → H'[q]? = H[q]?)
    (e1 : H'[b]? = some (arrV (D.2.2.1 (KD h b)) (LN h b) (aval h' (KD h b) b))) (hF : FI h' = FI h ∧ FL h' = FL h ∧ FR h' = FR h) (hA : ∀ a j, a ≠ b → AI h' a j = AI h a j ∧ AL h' a j = AL h a j ∧ AR h' a j = AR h a j) (hM : KD h' = KD h ∧ LN h' = LN h ∧ NX h' = NX h) (hs : SL h' = SL h) (hok' : hok h')
    (kk : Kk D G p l e R s m args below meth c cells slots Q h (pc', lo, st, h')) : W p l e R s m args below meth c H' (locs ++ [q]) cells slots Q (F0 m pc' ls (st.map cv)) := by
  have kk2 := kk ls H' (locs ++ [q]) P.1 P.2.1 P.2.2.1 (rel_ast P.2.2.2.1 hk e2 e3 e1 hF hA hM hok') (fun w hw => (List.mem_append.mp hw).elim (P.2.2.2.2 w) (fun hw => by rw [List.mem_singleton.mp hw, hq]; exact (kd_own P.2.2.2.1 (Or.inr hk)).1))
  dsimp only at kk2
  rw [hM.2.2, hs] at kk2
  exact W0 kk2
end ASTEP
theorem s_iaload : Sok .iaload := by
  intro p l e R s m args below meth c H locs cells slots Q D G d k pc ls lo st h I len z F P hml hd hl hr hx hroom hRd kk
  cases hr
  obtain rfl := len_of (n := 1) hl (fun _ => rfl)
  obtain ⟨i, r, rfl, hx⟩ := popI_inv hx
  obtain ⟨b, r, rfl, hx⟩ := popA_inv hx
  obtain ⟨⟨hk, hi⟩, hx⟩ := grd_inv hx
  cases hx
  have hkd : KD h b = 40 ∨ KD h b = 80 := by simpa [isIA] using hk
  obtain ⟨cell, g1, g2, g3, g4, g5⟩ := arr_cell F.2.2.2.2.2.1 P.2.2.2.1 (kd := KD h b) rfl (by rcases hkd with q | q <;> rw [q] <;> decide) hi
  have hv : aval h (KD h b) b i.toNat = cv (vI (AI h b i.toNat)) := by unfold aval; rw [if_neg (by omega), if_neg (by omega)]; rfl
  rw [hv] at g5
  exact W.iald F.1 F.2.1 g1 (by rcases hkd with q | q <;> rw [q] at g2 <;> exact g2) g3 g4 g5 (g := F0 m pc ls _) rfl rfl hd (st_push (v := vI (AI h b i.toNat)) P.tail.tail (P.2.2.2.1.2.2.1.2.1 b _) kk)
theorem s_baload : Sok .baload := by
  intro p l e R s m args below meth c H locs cells slots Q D G d k pc ls lo st h I len z F P hml hd hl hr hx hroom hRd kk
  cases hr
  obtain rfl := len_of (n := 1) hl (fun _ => rfl)
  obtain ⟨i, r, rfl, hx⟩ := popI_inv hx
  obtain ⟨b, r, rfl, hx⟩ := popA_inv hx
  obtain ⟨⟨hk, hi⟩, hx⟩ := grd_inv hx
  cases hx
  have hkd : KD h b = 41 ∨ KD h b = 42 ∨ KD h b = 81 := by simpa [isBA, or_assoc] using hk
  obtain ⟨cell, g1, g2, g3, g4, g5⟩ := arr_cell F.2.2.2.2.2.1 P.2.2.2.1 (kd := KD h b) rfl (by rcases hkd with q | q | q <;> rw [q] <;> decide) hi
  have hv : aval h (KD h b) b i.toNat = cv (vI (AI h b i.toNat)) := by unfold aval; rw [if_neg (by omega), if_neg (by omega)]; rfl
  rw [hv] at g5
  rcases hkd with q | q | q <;> rw [q] at g2
  · exact W.bald F.1 F.2.1 g1 g2 g3 g4 g5 (g := F0 m pc ls _) rfl rfl hd (st_push (v := vI (AI h b i.toNat)) P.tail.tail (P.2.2.2.1.2.2.1.2.1 b _) kk)
  · exact W.zald F.1 F.2.1 g1 g2 g3 g4 g5 (g := F0 m pc ls _) rfl rfl hd (st_push (v := vI (AI h b i.toNat)) P.tail.tail (P.2.2.2.1.2.2.1.2.1 b _) kk)
  · exact W.bald F.1 F.2.1 g1 g2 g3 g4 g5 (g := F0 m pc ls _) rfl rfl hd (st_push (v := vI (AI h b i.toNat)) P.tail.tail (P.2.2.2.1.2.2.1.2.1 b _) kk)
theorem s_laload : Sok .laload := by
  intro p l e R s m args below meth c H locs cells slots Q D G d k pc ls lo st h I len z F P hml hd hl hr hx hroom hRd kk
  cases hr
  obtain rfl := len_of (n := 1) hl (fun _ => rfl)
  obtain ⟨i, r, rfl, hx⟩ := popI_inv hx
  obtain ⟨b, r, rfl, hx⟩ := popA_inv hx
  obtain ⟨⟨hk, hi⟩, hx⟩ := grd_inv hx
  cases hx
  obtain ⟨cell, g1, g2, g3, g4, g5⟩ := arr_cell F.2.2.2.2.2.1 P.2.2.2.1 hk (by decide) hi
  exact W.lald F.1 F.2.1 g1 g2 g3 g4 g5 (g := F0 m pc ls _) rfl rfl hd (st_push (v := vJ (AL h b i.toNat)) P.tail.tail trivial kk)
theorem kty_ref : ∀ kd ∈ ([50, 51, 52, 53, 54, 55, 56, 57, 58, 59, 60, 61, 62, 63, 75, 76, 82] : List Nat), (kty kd).isReference = true := by decide
theorem isRA_mem {kd : Nat} (h : isRA kd = true) : kd ∈ ([50, 51, 52, 53, 54, 55, 56, 57, 58, 59, 60, 61, 62, 63, 75, 76, 82] : List Nat) := by
  simp only [isRA, Bool.or_eq_true, Bool.and_eq_true, decide_eq_true_eq, beq_iff_eq] at h
  simp only [List.mem_cons, List.not_mem_nil, or_false]
  omega
theorem ref_aK : ∀ kd ∈ ([50, 51, 52, 53, 54, 55, 56, 57, 58, 59, 60, 61, 62, 63, 75, 76, 82] : List Nat), kd ∈ aKs ∨ kd = 80 ∨ kd = 81 ∨ kd = 82 := by decide
theorem s_aaload : Sok .aaload := by
  intro p l e R s m args below meth c H locs cells slots Q D G d k pc ls lo st h I len z F P hml hd hl hr hx hroom hRd kk
  cases hr
  obtain rfl := len_of (n := 1) hl (fun _ => rfl)
  obtain ⟨i, r, rfl, hx⟩ := popI_inv hx
  obtain ⟨b, r, rfl, hx⟩ := popA_inv hx
  obtain ⟨⟨hk, hi⟩, hx⟩ := grd_inv hx
  cases hx
  have hm := isRA_mem hk
  obtain ⟨cell, g1, g2, g3, g4, g5⟩ := arr_cell F.2.2.2.2.2.1 P.2.2.2.1 (kd := KD h b) rfl (ref_aK _ hm) hi
  have hv : aval h (KD h b) b i.toNat = cv (vR (AR h b i.toNat)) := by
    simp only [isRA, Bool.or_eq_true, Bool.and_eq_true, decide_eq_true_eq, beq_iff_eq] at hk
    unfold aval
    rw [if_neg (by omega), if_pos (by omega)]
    rfl
  rw [hv] at g5
  exact W.aald F.1 F.2.1 g1 g2 (kty_ref _ hm) g3 g4 g5 (g := F0 m pc ls _) rfl rfl hd (st_push (v := vR (AR h b i.toNat)) P.tail.tail trivial kk)
theorem s_arraylength : Sok .arraylength := by
  intro p l e R s m args below meth c H locs cells slots Q D G d k pc ls lo st h I len z F P hml hd hl hr hx hroom hRd kk
  cases hr
  obtain rfl := len_of (n := 1) hl (fun _ => rfl)
  obtain ⟨b, r, rfl, hx⟩ := popA_inv hx
  obtain ⟨hk, hx⟩ := grd_inv hx
  cases hx
  have hkd : KD h b ∈ aKs ∨ KD h b = 80 ∨ KD h b = 81 ∨ KD h b = 82 := by
    simp only [isArr, isIA, isBA, isRA, Bool.or_eq_true, Bool.and_eq_true, decide_eq_true_eq, beq_iff_eq] at hk
    simp only [aKs, List.mem_cons, List.not_mem_nil, or_false]
    omega
  obtain ⟨cell, g1, g2, g3⟩ := arr_len F.2.2.2.2.2.1 P.2.2.2.1 (kd := KD h b) rfl hkd
  have hn : LN h b ≤ 60000000 := P.2.2.2.1.2.2.1.2.2.2.2 b
  exact W.alen F.1 F.2.1 g1 g2 g3 (g := F0 m pc ls _) rfl rfl hd (st_push (v := vI (LN h b)) P.tail ⟨by omega, by omega⟩ kk)
theorem s_iastore : Sok .iastore := by
  intro p l e R s m args below meth c H locs cells slots Q D G d k pc ls lo st h I len z F P hml hd hl hr hx hroom hRd kk
  cases hr
  obtain rfl := len_of (n := 1) hl (fun _ => rfl)
  obtain ⟨x, r, rfl, hx⟩ := popI_inv hx
  obtain ⟨i, r, rfl, hx⟩ := popI_inv hx
  obtain ⟨b, r, rfl, hx⟩ := popA_inv hx
  obtain ⟨⟨hk, hi⟩, hx⟩ := grd_inv hx
  cases hx
  have hR := P.2.2.2.1
  have ha : KD h b ∈ aKs := by rw [hk]; decide
  obtain ⟨cell, g1, g2, g3, g4, g5⟩ := arr_cell F.2.2.2.2.2.1 hR hk (by decide) hi
  have hc := clamp_i32 (i := i) hi.1 (by have := hi.2; have := hR.2.2.1.2.2.2.2 b; omega)
  have hce : cell = arrV (D.2.2.1 (KD h b)) (LN h b) (aval h (KD h b) b) := Option.some.inj (g1.symm.trans (arr_own hR ha))
  refine W.iast F.1 F.2.1 g1 g2 g3 g4 (g := F0 m pc ls _) rfl rfl hd (fun H' e1 e2 e3 => ?_)
  rw [hce, hc] at e1
  refine st_ast (h' := sAI h b i.toNat x) P.tail.tail.tail ha rfl e2 e3 (arr_st hR ha e1 (av_I (Or.inl hk) rfl)) ⟨rfl, rfl, rfl⟩ (fun a j q => ⟨up2_off q j, rfl, rfl⟩) ⟨rfl, rfl, rfl⟩ rfl ?_ kk
  obtain ⟨o1, o2, o3, o4, o5⟩ := hR.2.2.1
  refine ⟨o1, InR_up2 o2 P.hd, fun a j q => ?_, fun a j q => ?_, o5⟩
  · show -128 ≤ up2 (AI h) b i.toNat x a j ∧ up2 (AI h) b i.toNat x a j < 128
    rw [up2_off (by rintro rfl; have : KD h a = 41 := q; omega)]
    exact o3 a j q
  · show up2 (AI h) b i.toNat x a j = 0 ∨ up2 (AI h) b i.toNat x a j = 1
    rw [up2_off (by rintro rfl; have : KD h a = 42 := q; omega)]
    exact o4 a j q
theorem s_lastore : Sok .lastore := by
  intro p l e R s m args below meth c H locs cells slots Q D G d k pc ls lo st h I len z F P hml hd hl hr hx hroom hRd kk
  cases hr
  obtain rfl := len_of (n := 1) hl (fun _ => rfl)
  obtain ⟨x, r, rfl, hx⟩ := popJ_inv hx
  obtain ⟨i, r, rfl, hx⟩ := popI_inv hx
  obtain ⟨b, r, rfl, hx⟩ := popA_inv hx
  obtain ⟨⟨hk, hi⟩, hx⟩ := grd_inv hx
  cases hx
  have hR := P.2.2.2.1
  have ha : KD h b ∈ aKs := by rw [hk]; decide
  obtain ⟨cell, g1, g2, g3, g4, g5⟩ := arr_cell F.2.2.2.2.2.1 hR hk (by decide) hi
  have hc := clamp_i32 (i := i) hi.1 (by have := hi.2; have := hR.2.2.1.2.2.2.2 b; omega)
  have hce : cell = arrV (D.2.2.1 (KD h b)) (LN h b) (aval h (KD h b) b) := Option.some.inj (g1.symm.trans (arr_own hR ha))
  refine W.last F.1 F.2.1 g1 g2 g3 g4 (g := F0 m pc ls _) rfl rfl hd (fun H' e1 e2 e3 => ?_)
  rw [hce, hc] at e1
  exact st_ast (h' := sAL h b i.toNat x) P.tail.tail.tail ha rfl e2 e3 (arr_st hR ha e1 (av_J hk rfl)) ⟨rfl, rfl, rfl⟩ (fun a j q => ⟨rfl, up2_off q j, rfl⟩) ⟨rfl, rfl, rfl⟩ rfl hR.2.2.1 kk
theorem nar_b {x : Int} (h : -128 ≤ x ∧ x < 128) : narrow .byte (.int (i32 x)) = .int (i32 x) := by
  have e : narrow .byte (.int (i32 x)) = .int ((i32 x).toInt8.toInt32) := congrArg Value.int (vp_nar_byte (i32 x))
  rw [e]
  congr 1
  rw [← Int32.toInt_inj, Int8.toInt_toInt32, Int32.toInt_toInt8, i32_ok ⟨by omega, by omega⟩]
  rw [Int.bmod_eq_of_le (by omega) (by omega)]
theorem s_bastore : Sok .bastore := by
  intro p l e R s m args below meth c H locs cells slots Q D G d k pc ls lo st h I len z F P hml hd hl hr hx hroom hRd kk
  cases hr
  obtain rfl := len_of (n := 1) hl (fun _ => rfl)
  obtain ⟨x, r, rfl, hx⟩ := popI_inv hx
  obtain ⟨i, r, rfl, hx⟩ := popI_inv hx
  obtain ⟨b, r, rfl, hx⟩ := popA_inv hx
  obtain ⟨⟨hk, hi⟩, hx⟩ := grd_inv hx
  cases hx
  have hR := P.2.2.2.1
  have ha : KD h b ∈ aKs := by rcases hk with ⟨hk, -⟩ | ⟨hk, -⟩ <;> rw [hk] <;> decide
  obtain ⟨cell, g1, g2, g3, g4, g5⟩ := arr_cell F.2.2.2.2.2.1 hR (kd := KD h b) rfl (Or.inl ha) hi
  have hc := clamp_i32 (i := i) hi.1 (by have := hi.2; have := hR.2.2.1.2.2.2.2 b; omega)
  have hce : cell = arrV (D.2.2.1 (KD h b)) (LN h b) (aval h (KD h b) b) := Option.some.inj (g1.symm.trans (arr_own hR ha))
  obtain ⟨o1, o2, o3, o4, o5⟩ := hR.2.2.1
  have fin2 : ∀ H' : Heap, H'[b]? = some (cell.setSlot (i32 i).toNatClampNeg (.int (i32 x))) → H'.size = H.size → (∀ q, q ≠ b → H'[q]? = H[q]?) → W p l e R s m args below meth c H' (locs ++ [⟨b, (i32 i).toNatClampNeg⟩]) cells slots Q (F0 m (pc + 1) ls (r.map cv)) := by
    intro H' e1 e2 e3
    rw [hce, hc] at e1
    refine st_ast (h' := sAI h b i.toNat x) P.tail.tail.tail ha rfl e2 e3 (arr_st hR ha e1 (av_I (by omega) rfl)) ⟨rfl, rfl, rfl⟩ (fun a j q => ⟨up2_off q j, rfl, rfl⟩) ⟨rfl, rfl, rfl⟩ rfl ?_ kk
    refine ⟨o1, InR_up2 o2 P.hd, fun a j q => ?_, fun a j q => ?_, o5⟩
    · show -128 ≤ up2 (AI h) b i.toNat x a j ∧ up2 (AI h) b i.toNat x a j < 128
      unfold up2
      split
      · rename_i z
        have q' : KD h a = 41 := q
        rw [z.1] at q'
        omega
      · exact o3 a j q
    · show up2 (AI h) b i.toNat x a j = 0 ∨ up2 (AI h) b i.toNat x a j = 1
      unfold up2
      split
      · rename_i z
        have q' : KD h a = 42 := q
        rw [z.1] at q'
        omega
      · exact o4 a j q
  rcases hk with ⟨hk, hb⟩ | ⟨hk, hb⟩
  · rw [hk] at g2
    exact W.bast F.1 F.2.1 g1 g2 g3 g4 (g := F0 m pc ls _) rfl rfl hd (fun H' e1 e2 e3 => fin2 H' (by rw [← nar_b hb]; exact e1) e2 e3)
  · rw [hk] at g2
    exact W.zast F.1 F.2.1 g1 g2 g3 g4 (g := F0 m pc ls _) rfl rfl hd (fun H' e1 e2 e3 => fin2 H' (by rcases hb with rfl | rfl <;> exact e1) e2 e3)
theorem s_aastore : Sok .aastore := by
  intro p l e R s m args below meth c H locs cells slots Q D G d k pc ls lo st h I len z F P hml hd hl hr hx hroom hRd kk
  cases hr
  obtain rfl := len_of (n := 1) hl (fun _ => rfl)
  obtain ⟨v, r, rfl, hx⟩ := popA_inv hx
  obtain ⟨i, r, rfl, hx⟩ := popI_inv hx
  obtain ⟨b, r, rfl, hx⟩ := popA_inv hx
  obtain ⟨⟨⟨k1, k2, k3⟩, hi⟩, hx⟩ := grd_inv hx
  cases hx
  have hR := P.2.2.2.1
  have hG := F.2.2.2.2.2.1
  have ha : KD h b ∈ aKs := by simp only [aKs, List.mem_cons, List.not_mem_nil, or_false]; omega
  have hu := arr_use hR ha
  obtain ⟨cell, g1, g2, g3, g4, g5⟩ := arr_cell hG hR (kd := KD h b) rfl (Or.inl ha) hi
  have hc := clamp_i32 (i := i) hi.1 (by have := hi.2; have := hR.2.2.1.2.2.2.2 b; omega)
  have hce : cell = arrV (D.2.2.1 (KD h b)) (LN h b) (aval h (KD h b) b) := Option.some.inj (g1.symm.trans (arr_own hR ha))
  have hkt : kty (KD h b) = .object (onm (KD h b - 50)) := by
    have : ∀ kd ∈ ([50, 51, 52, 53, 54, 55, 56, 57, 58, 59, 60, 61, 62, 63] : List Nat), kty kd = .object (onm (kd - 50)) := by decide +kernel
    exact this _ (by simp only [List.mem_cons, List.not_mem_nil, or_false]; omega)
  have hRA := (tys_arr hG hu).2
  rw [hkt] at hRA
  obtain ⟨kA, comp, r1, r2, r3, -⟩ := hRA
  have hc14 : KD h b - 50 < 14 := by omega
  obtain ⟨-, cv2, v1, v2, v3, -⟩ := hR.2.2.2.1 v (KD h b - 50) hc14 (by omega)
  obtain ⟨-, hfc, kC, hkC, hkind⟩ := hG.1.1 _ _ (mcl_get hc14)
  have hcomp : comp = D.1 (KD h b - 50) := Option.some.inj (r3.symm.trans hfc)
  subst hce
  refine W.aast F.1 F.2.1 g1 (fun q z => by cases z) g3 (k := kA) r1 r2 rfl (kcomp := kC) (by rw [hcomp]; exact hkC) ⟨fun z => g4 (Or.inl z), Nat.not_le.mp fun z => g4 (Or.inr z)⟩ v1 (fun q z => by rw [v3] at z; cases z) (kv := kC) (by rw [v2]; exact hkC) (by rw [v2, hcomp]; exact va_asg _ _) (g := F0 m pc ls _) rfl rfl hd (fun H' e1 e2 e3 => ?_)
  rw [hc] at e1
  exact st_ast (h' := sAR h b i.toNat (some v)) P.tail.tail.tail ha rfl e2 e3 (arr_st hR ha e1 (av_R (by omega) rfl)) ⟨rfl, rfl, rfl⟩ (fun a j q => ⟨rfl, rfl, up2_off q j⟩) ⟨rfl, rfl, rfl⟩ rfl hR.2.2.1 kk
