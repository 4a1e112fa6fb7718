/-! constants, statics, new cells -/
theorem cst_n {o idx ps : Nat} {v : Int} (ho : o < 22) (h : (cstT.getD o []).lookup idx = some (v, ps)) : Cond.constant (onm o) idx (i32 v) ∈ mw ∧ InR v := by
  have h1 := List.all_eq_true.mp (all_range cst_c ho) _ (lookup_mem h)
  dsimp only at h1
  simp only [Bool.and_eq_true] at h1
  exact ⟨mw_of (by rw [h1.1.1, h1.1.2]; rfl), ir_iff.mp h1.2⟩
theorem lng_n {o idx t ps : Nat} (ho : o < 22) (h : (lngT.getD o []).lookup idx = some (t, ps)) : Cond.constantLong (onm o) idx (lngV t) ∈ mw := by
  have h1 := List.all_eq_true.mp (all_range lng_c ho) _ (lookup_mem h)
  dsimp only at h1
  simp only [Bool.and_eq_true] at h1
  exact mw_of (by rw [h1.1, h1.2]; rfl)
theorem cls_n {o idx ec ps : Nat} (ho : o < 22) (h : (clsT.getD o []).lookup idx = some (ec, ps)) : Cond.classLink (onm o) idx (cnm ec) ∈ mw := by
  have h1 := List.all_eq_true.mp (all_range cls_c ho) _ (lookup_mem h)
  dsimp only at h1
  simp only [Bool.and_eq_true] at h1
  exact mw_of (by rw [h1.1, h1.2]; rfl)
theorem stt_n {o idx g ps : Nat} {nest : Bool} (ho : o < 22) (h : (sttT.getD o []).lookup idx = some (g, ps, nest)) :
    (if nest then Cond.fieldLinkNest (onm o) idx (sdn g).1 (sdn g).2.1 (sdn g).2.2 (host o) ∈ nestL else Cond.fieldLink (onm o) idx (sdn g).1 (sdn g).2.1 (sdn g).2.2 ∈ mw) ∧ (g, sdn g) ∈ sttN ∧ (g < 1000 ∨ g = 1001) := by
  have h1 := List.all_eq_true.mp (all_range stt_c ho) _ (lookup_mem h)
  dsimp only at h1
  simp only [Bool.and_eq_true, Bool.or_eq_true, decide_eq_true_eq] at h1
  obtain ⟨⟨⟨h2, h3⟩, h4⟩, h5⟩ := h1
  refine ⟨?_, h4, h5⟩
  cases nest with
  | true =>
    simp only [if_true] at h2 h3 ⊢
    exact ne_of (by rw [h2, h3]; rfl)
  | false =>
    simp only [Bool.false_eq_true, if_false] at h2 h3 ⊢
    exact mw_of (by rw [h2, h3]; rfl)
theorem ini_n {o : Nat} (ho : o < 22) (h14 : o ≠ 14) : Cond.initialized (onm o) ∈ mw := by
  have h1 := all_range ini_c ho
  rw [if_neg h14] at h1
  exact mw_of h1
theorem ins_n {o : Nat} (ho : o < 14) : Cond.instantiable (onm o) (mN o) ∈ mw := mw_of (all_range ins_c ho)
theorem s_ldc2_w (i : Nat) : Sok (.ldc2_w i) := by
  intro p l e R s m args below meth c H locs cells slots Q D G d k pc ls lo st h I len z F P hml hd hl hr hx hroom hRd kk
  obtain rfl := len_of (n := 3) hl (fun _ => rfl)
  obtain ⟨⟨t, ps⟩, hlk, rfl⟩ := Option.map_eq_some_iff.mp (show ((lngT.getD (ownOf k) []).lookup i).map (fun e => Instr.ldc2_w e.1) = some I from hr)
  cases hx
  exact lv_ldc2 F.1 F.2.1 F.2.2.2.1 (F.2.2.2.2.1 _ (lng_n F.2.2.2.2.2.2.2.1 hlk)) hd (st_push (v := vJ (lngV t)) P trivial kk)
theorem s_getstatic (i : Nat) : Sok (.getstatic i) := by
  intro p l e R s m args below meth c H locs cells slots Q D G d k pc ls lo st h I len z F P hml hd hl hr hx hroom hRd kk
  obtain rfl := len_of (n := 3) hl (fun _ => rfl)
  obtain ⟨⟨g, ps, nest⟩, hlk, hI⟩ := Option.map_eq_some_iff.mp (show ((sttT.getD (ownOf k) []).lookup i).map (fun e => if e.1 < 1000 then Instr.getstatic e.1 else .iconst ((e.1 - 1000 : Nat) : Int)) = some I from hr)
  obtain ⟨hw, hm, hg⟩ := stt_n F.2.2.2.2.2.2.2.1 hlk
  have hZ := P.2.2.2.1.2.2.2.2.2.2.2.2.1 g _ _ _ hm
  obtain ⟨cf, kf, fi, f, a, cell, z1, z2, z3, z4, z5, z6, z7, z8⟩ := hZ
  dsimp only at hI
  have fin2 : ∀ v : Value, (if g < 1000 then va_rf (G g) else Value.int (i32 ((g - 1000 : Nat) : Int))) = v → W p l e R s m args below meth c H locs cells slots Q (F0 m (pc + 3) ls (v :: st.map cv)) → W p l e R s m args below meth c H locs cells slots Q (F0 m pc ls (st.map cv)) := by
    intro v hv kk2
    rw [hv] at z7
    cases nest with
    | true =>
      simp only [if_true] at hw
      exact va_WgetsN F.1 F.2.1 F.2.2.2.1 (va_Nw.use rfl (F.2.2.2.2.2.1.2.1 _ hw)) z1 z2 z3 z4 z5 (fun e => by rw [e] at z6; cases z6) z7 rfl hd kk2
    | false =>
      simp only [Bool.false_eq_true, if_false] at hw
      exact W.gets F.1 F.2.1 F.2.2.2.1 (F.2.2.2.2.1 _ hw) z1 z2 z3 z4 z5 (fun e => by rw [e] at z6; cases z6) z7 rfl hd kk2
  rcases hg with hg | rfl
  · rw [if_pos hg] at hI
    subst hI
    cases hx
    exact fin2 (cv (vR (G g))) (if_pos hg) (st_push (v := vR (G g)) P trivial kk)
  · rw [if_neg (by decide)] at hI
    subst hI
    obtain ⟨b, hx⟩ := grd_inv hx
    cases hx
    exact fin2 (cv (vI ((1001 - 1000 : Nat) : Int))) (if_neg (by decide)) (st_push (v := vI ((1001 - 1000 : Nat) : Int)) P b kk)
theorem s_ldc (i : Nat) : Sok (.ldc i) := by
  intro p l e R s m args below meth c H locs cells slots Q D G d k pc ls lo st h I len z F P hml hd hl hr hx hroom hRd kk
  obtain rfl := len_of (n := 2) hl (fun _ => rfl)
  simp only [rs] at hr
  split at hr
  · rename_i v hlk
    obtain ⟨v, ps⟩ := v
    cases hr
    obtain ⟨hw, hv⟩ := cst_n F.2.2.2.2.2.2.2.1 hlk
    obtain ⟨b, hx⟩ := grd_inv hx
    cases hx
    exact lv_ldc F.1 F.2.1 F.2.2.2.1 (F.2.2.2.2.1 _ hw) hd (st_push (v := vI v) P hv kk)
  · obtain ⟨⟨g, ps⟩, hlk, rfl⟩ := Option.map_eq_some_iff.mp hr
    cases hx
    obtain ⟨tx, a, e1, e2⟩ := F.2.2.2.2.2.1.2.2.2.2.2.2 _ _ _ _ (lookup_mem hlk)
    have q := st_push (v := vR (G g)) P trivial kk
    rw [show cv (vR (G g)) = .ref a by rw [e1]; rfl] at q
    exact va_ldcS F.1 F.2.1 F.2.2.2.1 e2 hd q
theorem s_ldc_w (i : Nat) : Sok (.ldc_w i) := by
  intro p l e R s m args below meth c H locs cells slots Q D G d k pc ls lo st h I len z F P hml hd hl hr hx hroom hRd kk
  obtain rfl := len_of (n := 3) hl (fun _ => rfl)
  simp only [rs] at hr
  split at hr
  · rename_i v hlk
    obtain ⟨v, ps⟩ := v
    cases hr
    obtain ⟨hw, hv⟩ := cst_n F.2.2.2.2.2.2.2.1 hlk
    obtain ⟨b, hx⟩ := grd_inv hx
    cases hx
    exact lv_ldcw F.1 F.2.1 F.2.2.2.1 (F.2.2.2.2.1 _ hw) hd (st_push (v := vI v) P hv kk)
  · obtain ⟨⟨g, ps⟩, hlk, rfl⟩ := Option.map_eq_some_iff.mp hr
    cases hx
    obtain ⟨tx, a, e1, e2⟩ := F.2.2.2.2.2.1.2.2.2.2.2.2 _ _ _ _ (lookup_mem hlk)
    have q := st_push (v := vR (G g)) P trivial kk
    rw [show cv (vR (G g)) = .ref a by rw [e1]; rfl] at q
    intro T hT X
    obtain ⟨t, a1, b1⟩ := q T hT X
    exact ⟨t, X.ldcStringW F.1 F.2.2.2.1 (text := tx) (a := a) e2.1 e2.2 (g := F0 m pc ls (st.map cv)) rfl (by rw [F.2.1]; exact hd) t a1, b1⟩
theorem cl2_eq {α : Type} (F : Nat → Nat → α) (a : Nat) (z : α) (g : Nat) : cl2 F a z g a = z := if_pos rfl
theorem cl2_ne {α : Type} {F : Nat → Nat → α} {a b : Nat} {z : α} (h : b ≠ a) (g : Nat) : cl2 F a z g b = F g b := if_neg h
theorem cl1_eq {α : Type} (F : Nat → Nat → α) (a : Nat) (z : α) (j : Nat) : cl1 F a z a j = z := if_pos rfl
theorem cl1_ne {α : Type} {F : Nat → Nat → α} {a b : Nat} {z : α} (h : b ≠ a) (j : Nat) : cl1 F a z b j = F b j := if_neg h
theorem up1_eq {α : Type} (F : Nat → α) (a : Nat) (v : α) : up1 F a v a = v := if_pos rfl
theorem up1_ne {α : Type} {F : Nat → α} {a b : Nat} {v : α} (h : b ≠ a) : up1 F a v b = F b := if_neg h
theorem InR_cl2 {F : Nat → Nat → Int} {a : Nat} (h : ∀ g b, InR (F g b)) : ∀ g b, InR (cl2 F a 0 g b) := by
  intro g b; unfold cl2; split
  · exact InR_0
  · exact h g b
theorem InR_cl1 {F : Nat → Nat → Int} {a : Nat} (h : ∀ g b, InR (F g b)) : ∀ g b, InR (cl1 F a 0 g b) := by
  intro g b; unfold cl1; split
  · exact InR_0
  · exact h g b
theorem dflt_val {i k : Nat} {h : Hp} {a : Nat} (hi : i < 14) (hk : k < mN i) (h1 : FI h (128 * i + k) a = 0) (h2 : FL h (128 * i + k) a = 0) (h3 : FR h (128 * i + k) a = none) : defaultValue (fTy i k) = fval h i k a := by
  obtain ⟨-, t2, -⟩ := fty_of hi hk
  unfold fval
  generalize (ftyT.getD i []).getD k 9 = kd at t2
  cases ht : fTy i k <;> rw [ht] at t2 <;> simp [kOk] at t2 <;> subst t2 <;> first | (rw [h3]; rfl) | (rw [h2]; rfl) | (rw [h1]; rfl)
theorem hok_new {h : Hp} {kd n : Nat} (hh : hok h) (hn : n ≤ 60000000) : hok (nwA h kd n) := by
  obtain ⟨o1, o2, o3, o4, o5⟩ := hh
  refine ⟨InR_cl2 o1, InR_cl1 o2, fun b j q => ?_, fun b j q => ?_, fun b => ?_⟩
  · show -128 ≤ cl1 (AI h) (NX h) 0 b j ∧ cl1 (AI h) (NX h) 0 b j < 128
    by_cases e : b = NX h
    · rw [e, cl1_eq]; decide
    · rw [cl1_ne e]; exact o3 b j (by have q' : up1 (KD h) (NX h) kd b = 41 := q; rwa [up1_ne e] at q')
  · show cl1 (AI h) (NX h) 0 b j = 0 ∨ cl1 (AI h) (NX h) 0 b j = 1
    by_cases e : b = NX h
    · rw [e, cl1_eq]; exact Or.inl rfl
    · rw [cl1_ne e]; exact o4 b j (by have q' : up1 (KD h) (NX h) kd b = 42 := q; rwa [up1_ne e] at q')
  · show up1 (LN h) (NX h) n b ≤ 60000000
    by_cases e : b = NX h
    · rw [e, up1_eq]; exact hn
    · rw [up1_ne e]; exact o5 b
theorem new_off {h : Hp} {kd n b : Nat} (e : b ≠ NX h) : KD (nwA h kd n) b = KD h b ∧ LN (nwA h kd n) b = LN h b ∧ (∀ f, FI (nwA h kd n) f b = FI h f b ∧ FL (nwA h kd n) f b = FL h f b ∧ FR (nwA h kd n) f b = FR h f b) ∧ ∀ j, AI (nwA h kd n) b j = AI h b j ∧ AL (nwA h kd n) b j = AL h b j ∧ AR (nwA h kd n) b j = AR h b j :=
  ⟨up1_ne e, up1_ne e, fun f => ⟨cl2_ne e f, cl2_ne e f, cl2_ne e f⟩, fun j => ⟨cl1_ne e j, cl1_ne e j, cl1_ne e j⟩⟩
theorem off_kd {D : Dk} {G : Nat → Option Nat} {h : Hp} {U : State} {H : Heap} (hR : Rel D G h U H) {b : Nat} (hb : NX h ≤ b) : (∀ c, c < 14 → KD h b = 1 + c → False) ∧ (∀ kd, kd ∈ aKs → KD h b = kd → False) := by
  refine ⟨fun c hc hk => ?_, fun kd hkd hk => ?_⟩
  · have := (kd_own hR (a := b) (Or.inl (by omega))).2
    rw [hR.1] at this
    omega
  · have := (kd_own hR (a := b) (Or.inr (by rw [hk]; exact hkd))).2
    rw [hR.1] at this
    omega
/-- behind a new array -/
theorem rel_nwA {D : Dk} {G : Nat → Option Nat} {h : Hp} {U : State} {H H' : Heap} {kd n : Nat} (hR : Rel D G h U H) (hkd : kd ∈ aUs) (hn : n ≤ 60000000) (e1 : H'[NX h]? = some (arrV (D.2.2.1 kd) n (fun _ => defaultValue (kty kd)))) (e2 : H'.size = NX h + 1) (e3 : ∀ q, q < NX h → H'[q]? = H[q]?) : Rel D G (nwA h kd n) U H' := by
  have hlt : ∀ x ∈ aUs, x ∈ aKs ∧ 15 ≤ x ∧ x < 77 ∧ x ≠ 30 ∧ x ≠ 31 := by decide
  obtain ⟨ha, g1, g2, g3, g4⟩ := hlt kd hkd
  refine rel_new hR e2 (Nat.le_succ _) e3 (fun b hb => new_off (by omega)) (fun b hb => ?_) (hok_new hR.2.2.1 hn)
  by_cases e : b = NX h
  · subst e
    have hK : KD (nwA h kd n) (NX h) = kd := up1_eq _ _ _
    refine ⟨fun c hc hk => ?_, fun kd' hkd' hk => ?_, fun hk => ?_⟩
    · rw [hK] at hk; omega
    · rw [hK] at hk
      subst hk
      refine ⟨hkd, ?_⟩
      rw [e1, show LN (nwA h kd n) (NX h) = n from up1_eq _ _ _]
      congr 2
      funext j
      have v1 : AI (nwA h kd n) (NX h) j = 0 := cl1_eq _ _ _ _
      have v2 : AL (nwA h kd n) (NX h) j = 0 := cl1_eq _ _ _ _
      have v3 : AR (nwA h kd n) (NX h) j = none := cl1_eq _ _ _ _
      unfold aval
      rw [v1, v2, v3]
      have hl : ∀ x ∈ aUs, defaultValue (kty x) = (if x = 44 then Value.long 0 else if (50 ≤ x ∧ x < 77) ∨ x = 82 then va_rf none else .int (i32 0)) := by decide +kernel
      exact hl kd hkd
    · rw [hK] at hk; omega
  · obtain ⟨o1, o2, o3, o4⟩ := new_off (h := h) (kd := kd) (n := n) e
    refine ⟨fun c hc hk => ((off_kd hR hb).1 c hc (o1.symm.trans hk)).elim, fun kd' hkd' hk => ((off_kd hR hb).2 kd' hkd' (o1.symm.trans hk)).elim, fun hk => ⟨o1.symm, o2, fun f _ => ⟨(o3 f).1, (o3 f).2.2⟩, fun j => ⟨(o4 j).1, (o4 j).2.2⟩⟩⟩
/-- behind a new object -/
theorem rel_nwO {D : Dk} {G : Nat → Option Nat} {h : Hp} {U : State} {H H' : Heap} {i : Nat} (hR : Rel D G h U H) (hi : i < 14) (e1 : t_OB (NX h) (D.1 i) (mN i) (D.2.1 i) H' (fun k => defaultValue (fTy i k))) (e2 : H'.size = NX h + 1) (e3 : ∀ q, q < NX h → H'[q]? = H[q]?) : Rel D G (nwO h i) U H' := by
  have ha : ∀ x ∈ aKs, 15 ≤ x := by decide
  have hok' : hok (nwO h i) := hok_new (kd := 1 + i) (n := 0) hR.2.2.1 (by omega)
  have hoff : ∀ {b : Nat}, b ≠ NX h → _ := fun {b} e => new_off (h := h) (kd := 1 + i) (n := 0) (b := b) e
  refine rel_new hR e2 (Nat.le_succ _) e3 (fun b hb => hoff (by omega)) (fun b hb => ?_) hok'
  by_cases e : b = NX h
  · subst e
    have hK : KD (nwO h i) (NX h) = 1 + i := up1_eq _ _ _
    refine ⟨fun c hc hk => ?_, fun kd' hkd' hk => ?_, fun hk => ?_⟩
    · rw [hK] at hk
      have : c = i := by omega
      subst this
      exact e1.to fun k hk2 => dflt_val hc hk2 (cl2_eq _ _ _ _) (cl2_eq _ _ _ _) (cl2_eq _ _ _ _)
    · rw [hK] at hk
      have := ha kd' hkd'
      omega
    · rw [hK] at hk; omega
  · obtain ⟨o1, o2, o3, o4⟩ := hoff e
    refine ⟨fun c hc hk => ((off_kd hR hb).1 c hc (o1.symm.trans hk)).elim, fun kd' hkd' hk => ((off_kd hR hb).2 kd' hkd' (o1.symm.trans hk)).elim, fun hk => ⟨o1.symm, o2, fun f _ => ⟨(o3 f).1, (o3 f).2.2⟩, fun j => ⟨(o4 j).1, (o4 j).2.2⟩⟩⟩
theorem s_new (i : Nat) : Sok (.new i) := by
  intro p l e R s m args below meth c H locs cells slots Q D G d k pc ls lo st h I len z F P hml hd hl hr hx hroom hRd kk
  obtain rfl := len_of (n := 3) hl (fun _ => rfl)
  obtain ⟨⟨ec, ps⟩, hlk, rfl⟩ := Option.map_eq_some_iff.mp (show ((clsT.getD (ownOf k) []).lookup i).map (fun e => Instr.new e.1) = some I from hr)
  obtain ⟨b, hx⟩ := grd_inv hx
  cases hx
  dsimp only at b
  have hw := cls_n F.2.2.2.2.2.2.2.1 hlk
  have hc : cnm ec = onm ec := by unfold cnm; rw [if_neg (by omega), if_neg (by omega)]
  rw [hc] at hw
  have hG := F.2.2.2.2.2.1
  have hts := F.2.2.2.2.1
  have hKn := hG.1.1 _ _ (mcl_get b)
  obtain ⟨hS, hfc, -⟩ := id hKn
  have hR := P.2.2.2.1
  have n1 : NX (nwO h ec) - NX h = 1 := Nat.add_sub_cancel_left (NX h) 1
  have n2 : SL (nwO h ec) - SL h = mN ec := Nat.add_sub_cancel_left (SL h) _
  rw [show NX (pc + 3, lo, vR (some (NX h)) :: st, nwO h ec).2.2.2 = NX (nwO h ec) from rfl, show SL (pc + 3, lo, vR (some (NX h)) :: st, nwO h ec).2.2.2 = SL (nwO h ec) from rfl, n1, n2] at hroom
  refine W.newcK F.1 F.2.1 F.2.2.2.1 (hts _ hw) (hts _ (ins_n b)) (hts _ (ini_n (o := ec) (by omega) (by omega))) (g := F0 m pc ls (st.map cv)) rfl hd hroom.1 hroom.2 hfc hR.1 (fun H' kC k1 e1 e2 e3 => ?_)
  have hb := u_born (fTy ec) hts (lay_in b) hKn k1 e1 (fun k hk => (fty_of b hk).1)
  have kk2 := kk ls H' locs P.1 P.2.1 (fun w hw => (List.mem_cons.mp hw).elim (fun q => by rw [q]; trivial) (P.2.2.1 w)) (rel_nwO hR b hb e2 e3) P.2.2.2.2
  dsimp only at kk2
  rw [n1, n2] at kk2
  exact kk2
theorem s_newarray (t : ArrayType) : Sok (.newarray t) := by
  intro p l e R s m args below meth c H locs cells slots Q D G d k pc ls lo st h I len z F P hml hd hl hr hx hroom hRd kk
  cases hr
  obtain rfl := len_of (n := 2) hl (fun _ => rfl)
  obtain ⟨n, r, rfl, hx⟩ := popI_inv hx
  obtain ⟨⟨⟨b1, b2⟩, b3⟩, hx⟩ := grd_inv hx
  cases hx
  have hG := F.2.2.2.2.2.1
  have hts := F.2.2.2.2.1
  have hR := P.2.2.2.1
  have n1 : NX (nwA h (nak t) n.toNat) - NX h = 1 := Nat.add_sub_cancel_left (NX h) 1
  have n2 : SL (nwA h (nak t) n.toNat) - SL h = n.toNat := Nat.add_sub_cancel_left (SL h) _
  rw [show NX (pc + 2, lo, vR (some (NX h)) :: r, nwA h (nak t) n.toNat).2.2.2 = NX (nwA h (nak t) n.toNat) from rfl, show SL (pc + 2, lo, vR (some (NX h)) :: r, nwA h (nak t) n.toNat).2.2.2 = SL (nwA h (nak t) n.toNat) from rfl, n1, n2] at hroom
  have hfact : newarray.typeOf t = kty (nak t) ∧ nak t ∈ aUs ∧ Cond.arrayClass (newarray.typeOf t) ∈ mw ∧ componentBytes (newarray.typeOf t) ≤ 8 := by
    cases t
    · exact ⟨rfl, by decide, mw_of (i := 143) (by decide +kernel), by decide⟩
    · exact absurd rfl b3
    · exact absurd rfl b3
    · exact absurd rfl b3
    · exact ⟨rfl, by decide, mw_of (i := 50) (by decide +kernel), by decide⟩
    · exact absurd rfl b3
    · exact ⟨rfl, by decide, mw_of (i := 142) (by decide +kernel), by decide⟩
    · exact ⟨rfl, by decide, mw_of (i := 141) (by decide +kernel), by decide⟩
  obtain ⟨f1, f2, f3, f4⟩ := hfact
  have hc := clamp_i32 b1 b2
  refine W.newa F.1 F.2.1 (hts _ f3) (g := F0 m pc ls _) rfl hd (n := i32 n) rfl (by rw [← i32_0, i32_lt ⟨by omega, by omega⟩ InR_0]; omega) (by rw [hc]; exact Nat.le_trans (Nat.mul_le_mul (show n.toNat ≤ 60000000 by omega) f4) (by decide)) hroom.1 (by rw [hc]; exact hroom.2) (fun cA kA comp c1 c2 c3 => ?_)
  rw [hc]
  have hcA : D.2.2.1 (nak t) = cA := by
    have q := (tys_arr hG f2).2
    rw [← f1] at q
    have : va_RA s (D.2.2.1 (nak t)) (newarray.typeOf t) = (s.vm.findClass ("[" ++ (newarray.typeOf t).toString) = some (D.2.2.1 (nak t))) := by cases t <;> first | rfl | exact absurd rfl b3
    rw [this] at q
    exact Option.some.inj (q.symm.trans c1)
  rw [arrV_new, ← hcA]
  have kk2 := kk ls (H.push (arrV (D.2.2.1 (nak t)) n.toNat (fun _ => defaultValue (newarray.typeOf t)))) locs P.1 P.2.1 (fun w hw => (List.mem_cons.mp hw).elim (fun q => by rw [q]; trivial) (P.tail.2.2.1 w))
    (rel_nwA hR f2 (by omega) (by rw [← f1, ← hR.1]; simp) (by rw [Array.size_push, hR.1]) (fun q hq => by rw [Array.getElem?_push, if_neg (by rw [hR.1]; omega)])) P.2.2.2.2
  dsimp only at kk2
  rw [n1, n2] at kk2
  rw [hR.1]
  exact kk2
