/-! the reference's session and the class's: what ties them (pure) -/
theorem lists_ext {l k : List (List Nat)} (hn : l.length = k.length) (h : ∀ i, i < l.length → l.getD i [] = k.getD i []) : l = k := by
  refine List.ext_getElem hn (fun i h1 h2 => ?_)
  have := h i h1
  rw [List.getD_eq_getElem?_getD, List.getD_eq_getElem?_getD, List.getElem?_eq_getElem h1, List.getElem?_eq_getElem h2] at this
  exact this
/-- a plan's inputs are at most six -/
def six (P : PlV) : Prop := P.2.2.length ≤ 14 ∧ ∀ t, t < P.2.2.length → (tgI (tD P.2.2 t)).length ≤ 6
theorem rdy_at {ts : List (Bool × TgV)} {E : Nat → Nat} {t k : Nat} (rd : rdyB ts E t = true) (hk : k < 6) : inT ts t k < 0 ∨ E (inT ts t k).toNat = 1 := rdyB_t.mp rd k hk
theorem tkI_cg {P : PlV} {pu pu' : Nat → OutV} {t : Nat} {E : Nat → Nat} (s6 : six P) (ha : tkA P t = []) (ht : t < P.2.2.length) (hH : tH P.2.2 t = true) (rd : rdyB P.2.2 E t = true) (e : ∀ u, u < P.2.2.length → E u = 1 → pu u = pu' u) : tkI P pu t = tkI P pu' t := by
  have nom := noMis_of ha
  have h6 := s6.2 t ht
  unfold tkI
  refine lists_ext (by rw [inpL_len, inpL_len]) (fun k hk => ?_)
  rw [inpL_len] at hk
  rw [inpR_at nom hk, inpR_at nom hk]
  by_cases q : inB (tgI (tD P.2.2 t)) k = true
  · rw [if_pos q, if_pos q]
    have n1 := nom.at hk
    rw [if_pos q] at n1
    have ti := taT_in hH ht hk
    unfold taT at ti
    rw [if_pos q] at ti
    have r := inT_rg P.2.2 t k
    have rk := (rdy_at rd (show k < 6 by omega)).resolve_left (by omega)
    rw [← ti] at rk r
    rw [e _ (by omega) rk]
  · rw [if_neg q, if_neg q]
theorem rdy_up {ts : List (Bool × TgV)} {E : Nat → Nat} {t u x : Nat} (rd : rdyB ts E t = true) (hu : E u = 0) : rdyB ts (upN E u x) t = true := by
  refine rdyB_t.mpr (fun i hi => ?_)
  rcases rdy_at rd hi with z | z
  · exact Or.inl z
  · refine Or.inr ?_
    rw [upN_ne (fun w => by rw [w, hu] at z; exact absurd z (by decide))]
    exact z
/-- a hand that is full -/
def HdI (P : PlV) (pu : Nat → OutV) (r : RunV) (L Y : Nat → Int) (wk : Nat → OmV) (kf : Nat → Int64) (pf : Nat → List Int64) (w t : Nat) : Prop := t < P.2.2.length ∧ tH P.2.2 t = true ∧ rE r t = 0 ∧ rdyB P.2.2 (rE r) t = true ∧ L w = rL r w ∧ rW r w ≤ 2 ∧ Y w = ((2 - rW r w : Nat) : Int) ∧ (rW r w ≠ 2 → kf w = (rB r w).2.2 ∧ pf w = (rB r w).2.1 ∧ 0 < (pf w).length) ∧ (rW r w = 0 → tkA P t = []) ∧ (rW r w = 2 → (rB r w).1.1 = false) ∧ oV (wk w) = (if rW r w = 0 then wrkV (tD P.2.2 t) (tkI P pu t) else (rB r w).1)
def PtI (pu : Nat → OutV) (pp : Nat → List Int64) (bp : Nat → OmV) (lf : Nat → List Int64) (pb : Nat → Bool) : Prop := ∀ t, t < 14 → (pu t).1 = pb t ∧ (pb t = true → oV (bp t) = pu t ∧ lf t = pp t ∧ 0 < (lf t).length) ∧ (pb t = false → lf t = [])
def EnI (pu : Nat → OutV) (r : RunV) (bu : Nat → OmV) : Prop := (∀ t, t < 14 → rE r t ≤ 2 ∧ (rE r t = 1 → oV (bu t) = pu t) ∧ (rE r t = 2 → (bu t).2.2 ≠ [] ∧ 0 ≤ rF r ∧ rF r ≤ t)) ∧ (0 ≤ rF r → ∃ t : Nat, rF r = (t : Int) ∧ t < 14 ∧ rE r t = 2 ∧ rT r = (bu t).2.2)
def RsI (P : PlV) (r : RunV) : Prop := (∀ t, t ∈ rR r → t < P.2.2.length ∧ (rE r t ≠ 0 ∨ rH r 0 = (t : Int) ∨ rH r 1 = (t : Int))) ∧ (rR r).Nodup
def ksO (ks : List (Int64 × OmV)) : List (Int64 × OutV) := ks.map (fun p => (p.1, oV p.2))
def GoI (P : PlV) (s : GoV) (L Y : Nat → Int) (wk bu bp : Nat → OmV) (kf : Nat → Int64) (pf lf : Nat → List Int64) (ks : List (Int64 × OmV)) (pb : Nat → Bool) : Prop := (∀ w, w < 2 → 0 ≤ rH (goR s) w → ∃ t : Nat, rH (goR s) w = (t : Int) ∧ HdI P s.1 (goR s) L Y wk kf pf w t) ∧ (0 ≤ rH (goR s) 0 → rH (goR s) 0 ≠ rH (goR s) 1) ∧ PtI s.1 s.2.1 bp lf pb ∧ EnI s.1 (goR s) bu ∧ s.2.2.2.1 = ksO ks ∧ RsI P (goR s)
theorem ksO_len {ks : List (Int64 × OmV)} : (ksO ks).length = ks.length := List.length_map ..
theorem kK_O {ks : List (Int64 × OmV)} {i : Nat} (hi : i < ks.length) : kK (ksO ks) i = kM ks i ∧ kO (ksO ks) i = oV (oM ks i) := by
  unfold kK kO kM oM ksO
  rw [List.getD_eq_getElem?_getD, List.getD_eq_getElem?_getD, List.getElem?_map, List.getElem?_eq_getElem hi]
  exact ⟨rfl, rfl⟩
theorem kfd_O {ks : List (Int64 × OmV)} {x : Int64} : kfd (ksO ks) x = kfM ks x := by
  unfold kfd kfM
  rw [ksO_len]
  exact srF_congr (fun i hi => by rw [(kK_O hi).1])
theorem erase_map {α β : Type} (f : α → β) : ∀ (l : List α) (p : Nat), (l.map f).eraseIdx p = (l.eraseIdx p).map f
  | [], _ => rfl
  | _ :: _, 0 => rfl
  | a :: l, p + 1 => congrArg (f a :: ·) (erase_map f l p)
theorem kpL_O {ks : List (Int64 × OmV)} {x : Int64} {v : OmV} : kpL 24 (ksO ks) x (oV v) = ksO (kpM ks x v) := by
  unfold kpL kpM
  rw [if_neg (by decide), kfd_O, ksO_len]
  have e : ∀ p, (ksO ks).eraseIdx p ++ [(x, oV v)] = ksO (ks.eraseIdx p ++ [(x, v)]) := fun p => by
    unfold ksO
    rw [List.map_append, erase_map]
    rfl
  by_cases q : 0 ≤ kfM ks x
  · rw [if_pos q, if_pos q]; exact e _
  · rw [if_neg q, if_neg q]
    by_cases q2 : ks.length < 24
    · rw [if_pos q2, if_pos q2]
      unfold ksO
      rw [List.map_append]
      rfl
    · rw [if_neg q2, if_neg q2]; exact e _
section GOI
variable {P : PlV} {pu : Nat → OutV} {pp : Nat → List Int64} {ra ra' : Nat → Nat} {kc : List (Int64 × OutV)} {r : RunV} {L Y : Nat → Int} {wk bu bp : Nat → OmV} {kf kf' : Nat → Int64} {pf pf' lf : Nat → List Int64} {ks : List (Int64 × OmV)} {pb : Nat → Bool} {w t y : Nat} {b : BeV} {sv : Int} {x : OmV}
theorem two_cases {w j : Nat} (hw : w < 2) (hj : j < 2) : j = w ∨ j = 1 - w ∧ j ≠ w := by omega
/-- a worker takes t -/
theorem GoI.tk1 (I : GoI P (pu, pp, ra, kc, r) L Y wk bu bp kf pf lf ks pb) (hw : w < 2) (hn : rH r w < 0) (ht : t < P.2.2.length) (hH : tH P.2.2 t = true) (he : rE r t = 0) (h0 : rH r 0 ≠ t) (h1 : rH r 1 ≠ t) (rd : rdyB P.2.2 (rE r) t = true) (hy : y ≤ 2) (hk : ∀ j, j ≠ w → kf' j = kf j ∧ pf' j = pf j) (hp : y ≠ 2 → kf' w = b.2.2 ∧ pf' w = b.2.1 ∧ 0 < (pf' w).length) (ha : y = 0 → tkA P t = []) (hb : y = 2 → b.1.1 = false) (hx : oV x = if y = 0 then wrkV (tD P.2.2 t) (tkI P pu t) else b.1) : GoI P (pu, pp, ra', kc, tk1 r w t b y sv) (upO L w sv) (upO Y w ((2 - y : Nat) : Int)) (upO wk w x) bu bp kf' pf' lf ks pb := by
  obtain ⟨i1, i2, i3, i4, i5, i6⟩ := I
  change ∀ w, w < 2 → 0 ≤ rH r w → ∃ t : Nat, rH r w = (t : Int) ∧ HdI P pu r L Y wk kf pf w t at i1
  change 0 ≤ rH r 0 → rH r 0 ≠ rH r 1 at i2
  refine ⟨fun j hj h => ?_, fun h => ?_, i3, i4, i5, ⟨fun u hu => ?_, i6.2⟩⟩
  · change 0 ≤ up (rH r) w t j at h
    by_cases q : j = w
    · subst q
      refine ⟨t, up_at, ht, hH, he, rd, ?_, ?_, ?_, ?_, ?_, ?_, ?_⟩
      · exact upO_at.trans up_at.symm
      · show upN (rW r) j y j ≤ 2
        rw [upN_at]; exact hy
      · show upO Y j _ j = ((2 - upN (rW r) j y j : Nat) : Int)
        rw [upN_at, upO_at]
      · intro z
        change upN (rW r) j y j ≠ 2 at z
        rw [upN_at] at z
        show kf' j = (upO (rB r) j b j).2.2 ∧ pf' j = (upO (rB r) j b j).2.1 ∧ _
        rw [upO_at]
        exact hp z
      · intro z
        change upN (rW r) j y j = 0 at z
        rw [upN_at] at z
        exact ha z
      · intro z
        change upN (rW r) j y j = 2 at z
        rw [upN_at] at z
        show (upO (rB r) j b j).1.1 = false
        rw [upO_at]
        exact hb z
      · show oV (upO wk j x j) = if upN (rW r) j y j = 0 then wrkV (tD P.2.2 t) (tkI P pu t) else (upO (rB r) j b j).1
        rw [upO_at, upN_at, upO_at]
        exact hx
    · rw [up_ne q] at h
      obtain ⟨u, e, g⟩ := i1 j hj h
      refine ⟨u, (up_ne q).trans e, ?_⟩
      unfold HdI at g ⊢
      have k := hk j q
      show _ ∧ _ ∧ _ ∧ _ ∧ upO L w sv j = up (rL r) w sv j ∧ upN (rW r) w y j ≤ 2 ∧ upO Y w _ j = ((2 - upN (rW r) w y j : Nat) : Int) ∧ (upN (rW r) w y j ≠ 2 → kf' j = (upO (rB r) w b j).2.2 ∧ pf' j = (upO (rB r) w b j).2.1 ∧ 0 < (pf' j).length) ∧ (upN (rW r) w y j = 0 → _) ∧ (upN (rW r) w y j = 2 → (upO (rB r) w b j).1.1 = false) ∧ oV (upO wk w x j) = if upN (rW r) w y j = 0 then _ else (upO (rB r) w b j).1
      rw [upO_ne q, up_ne q, upN_ne q, upO_ne q, upO_ne q, upO_ne q, k.1, k.2]
      exact g
  · show up (rH r) w t 0 ≠ up (rH r) w t 1
    change 0 ≤ up (rH r) w t 0 at h
    unfold up at h ⊢
    have : w = 0 ∨ w = 1 := by omega
    rcases this with rfl | rfl
    · rw [if_pos rfl, if_neg (by decide)]; exact fun z => h1 z.symm
    · rw [if_neg (by decide), if_pos rfl]; exact h0
  · have g := i6.1 u hu
    refine ⟨g.1, ?_⟩
    show rE r u ≠ 0 ∨ up (rH r) w t 0 = u ∨ up (rH r) w t 1 = u
    change u < P.2.2.length ∧ (rE r u ≠ 0 ∨ rH r 0 = u ∨ rH r 1 = u) at g
    unfold up
    have : w = 0 ∨ w = 1 := by omega
    rcases this with rfl | rfl
    · rw [if_pos rfl, if_neg (by decide)]
      rcases g.2 with g | g | g
      · exact Or.inl g
      · omega
      · exact Or.inr (Or.inr g)
    · rw [if_neg (by decide), if_pos rfl]
      rcases g.2 with g | g | g
      · exact Or.inl g
      · exact Or.inr (Or.inl g)
      · omega
/-- it is set down as a run -/
theorem GoI.run (I : GoI P (pu, pp, ra, kc, r) L Y wk bu bp kf pf lf ks pb) (ht : t < P.2.2.length) (hh : rH r 0 = t ∨ rH r 1 = t) (hn : t ∉ rR r) : GoI P (pu, pp, ra', kc, rsR r (rR r ++ [t])) L Y wk bu bp kf pf lf ks pb := by
  obtain ⟨i1, i2, i3, i4, i5, i6⟩ := I
  refine ⟨i1, i2, i3, i4, i5, ⟨fun u hu => ?_, ?_⟩⟩
  · change u ∈ rR r ++ [t] at hu
    rcases List.mem_append.mp hu with q | q
    · exact i6.1 u q
    · have e := List.mem_singleton.mp q
      subst e
      exact ⟨ht, Or.inr hh⟩
  · show (rR r ++ [t]).Nodup
    rw [List.nodup_append]
    refine ⟨i6.2, List.nodup_cons.mpr ⟨List.not_mem_nil, List.nodup_nil⟩, fun a ha c hc => ?_⟩
    rw [List.mem_singleton.mp hc]
    exact fun z => hn (z ▸ ha)
theorem GoI.lt (I : GoI P (pu, pp, ra, kc, r) L Y wk bu bp kf pf lf ks pb) : GoI P (ltG w (pu, pp, ra, kc, r)) (upO L w (rL r w - 1)) Y wk bu bp kf pf lf ks pb := by
  obtain ⟨i1, i2, i3, i4, i5, i6⟩ := I
  refine ⟨fun j hj h => ?_, i2, i3, i4, i5, i6⟩
  obtain ⟨u, e, g⟩ := i1 j hj h
  refine ⟨u, e, ?_⟩
  unfold HdI at g ⊢
  obtain ⟨g1, g2, g3, g4, g5, g6⟩ := g
  refine ⟨g1, g2, g3, g4, ?_, g6⟩
  show upO L w (rL r w - 1) j = up (rL r) w (rL r w - 1) j
  by_cases q : j = w
  · rw [q, upO_at, up_at]
  · rw [upO_ne q, up_ne q]; exact g5
theorem GoI.wr (I : GoI P (pu, pp, ra, kc, r) L Y wk bu bp kf pf lf ks pb) (hw : w < 2) (hT : rH r w = (t : Int)) : GoI P (wrG P w t (pu, pp, ra, kc, r)) L Y wk bu bp kf pf lf ks pb ∧ (rB (goR (wrG P w t (pu, pp, ra, kc, r))) w).1 = oV (wk w) := by
  obtain ⟨i1, i2, i3, i4, i5, i6⟩ := I
  obtain ⟨t', e', g⟩ := i1 w hw (by show 0 ≤ rH r w; omega)
  have et : t' = t := by
    change rH r w = _ at e'
    omega
  subst et
  unfold HdI at g
  obtain ⟨g1, g2, g3, g4, g5, g6, g7, g8, g9, g10, g11⟩ := g
  change oV (wk w) = if rW r w = 0 then _ else (rB r w).1 at g11
  by_cases q : rW r w = 0
  · have e : wrG P w t' (pu, pp, ra, kc, r) = (pu, pp, ra, kc, wrR P pu r w t') := by
      unfold wrG
      exact if_pos q
    rw [if_pos q] at g11
    rw [e]
    refine ⟨⟨fun j hj h => ?_, i2, i3, i4, i5, i6⟩, ?_⟩
    · obtain ⟨u, e, g⟩ := i1 j hj h
      refine ⟨u, e, ?_⟩
      by_cases qj : j = w
      · have eu : u = t' := by
          rw [qj] at e
          change rH r w = _ at e
          omega
        subst eu
        subst qj
        refine ⟨g1, g2, g3, g4, g5, g6, g7, fun z => ?_, g9, fun z => ?_, ?_⟩
        · have k := g8 z
          show kf j = (upO (rB r) j _ j).2.2 ∧ pf j = (upO (rB r) j _ j).2.1 ∧ _
          rw [upO_at]; exact k
        · change rW r j = 2 at z
          omega
        · show oV (wk j) = if rW r j = 0 then _ else _
          rw [if_pos q]; exact g11
      · unfold HdI at g ⊢
        show _ ∧ _ ∧ _ ∧ _ ∧ _ ∧ _ ∧ _ ∧ (_ → kf j = (upO (rB r) w _ j).2.2 ∧ pf j = (upO (rB r) w _ j).2.1 ∧ _) ∧ _ ∧ (_ → (upO (rB r) w _ j).1.1 = false) ∧ oV (wk j) = if _ then _ else (upO (rB r) w _ j).1
        rw [upO_ne qj]
        exact g
    · show (upO (rB r) w _ w).1 = _
      rw [upO_at]; exact g11.symm
  · have e : wrG P w t' (pu, pp, ra, kc, r) = (pu, pp, ra, kc, r) := by
      unfold wrG
      exact if_neg q
    rw [if_neg q] at g11
    rw [e]
    exact ⟨⟨i1, i2, i3, i4, i5, i6⟩, g11.symm⟩
/-- hands and runs behind an end -/
theorem GoI.ha {pu' : Nat → OutV} {r' : RunV} {x : Nat} (I : GoI P (pu, pp, ra, kc, r) L Y wk bu bp kf pf lf ks pb) (s6 : six P) (hw : w < 2) (hT : rH r w = (t : Int)) (hx : x = 1 ∨ x = 2) (hp : ∀ v, v ≠ t → pu' v = pu v) (eE : rE r' = upN (rE r) t x) (eH : rH r' = up (rH r) w (-1)) (eL : rL r' = rL r) (eW : rW r' = rW r) (eB : rB r' = rB r) (eR : rR r' = rR r) : rE r t = 0 ∧ t < P.2.2.length ∧ (∀ w, w < 2 → 0 ≤ rH r' w → ∃ t : Nat, rH r' w = (t : Int) ∧ HdI P pu' r' L Y wk kf pf w t) ∧ (0 ≤ rH r' 0 → rH r' 0 ≠ rH r' 1) ∧ RsI P r' := by
  obtain ⟨i1, i2, i3, i4, i5, i6⟩ := I
  change ∀ w, w < 2 → 0 ≤ rH r w → ∃ t : Nat, rH r w = (t : Int) ∧ HdI P pu r L Y wk kf pf w t at i1
  change 0 ≤ rH r 0 → rH r 0 ≠ rH r 1 at i2
  obtain ⟨t', e', g⟩ := i1 w hw (by omega)
  have et : t' = t := by omega
  subst et
  have g3 := g.2.2.1
  have hd : ∀ j, j < 2 → j ≠ w → rH r j ≠ (t' : Int) := fun j hj q z => by
    have a : (w = 0 ∧ j = 1) ∨ (w = 1 ∧ j = 0) := by omega
    rcases a with ⟨a, b⟩ | ⟨a, b⟩
    · rw [a] at hT; rw [b] at z; exact i2 (by omega) (by omega)
    · rw [a] at hT; rw [b] at z; exact i2 (by omega) (by omega)
  refine ⟨g3, g.1, fun j hj h => ?_, fun h => ?_, ⟨fun u hu => ?_, by rw [eR]; exact i6.2⟩⟩
  · rw [eH] at h ⊢
    have q : j ≠ w := fun z => by rw [z, up_at] at h; omega
    rw [up_ne q] at h ⊢
    obtain ⟨u, e, k⟩ := i1 j hj h
    refine ⟨u, e, ?_⟩
    have ut : u ≠ t' := fun z => hd j hj q (by rw [e, z])
    unfold HdI at k ⊢
    obtain ⟨k1, k2, k3, k4, k5, k6, k7, k8, k9, k10, k11⟩ := k
    rw [eE, eL, eW, eB]
    refine ⟨k1, k2, by rw [upN_ne ut]; exact k3, rdy_up k4 g3, k5, k6, k7, k8, k9, k10, ?_⟩
    by_cases z : rW r j = 0
    · rw [if_pos z] at k11 ⊢
      rw [k11, tkI_cg (pu' := pu') s6 (k9 z) k1 k2 k4 (fun v _ ev => (hp v (fun y => by rw [y, g3] at ev; exact absurd ev (by decide))).symm)]
    · rw [if_neg z] at k11 ⊢; exact k11
  · rw [eH] at h ⊢
    have a : w = 0 ∨ w = 1 := by omega
    rcases a with rfl | rfl
    · rw [up_at] at h; omega
    · rw [up_ne (by decide)] at h ⊢
      rw [up_at]; omega
  · rw [eR] at hu
    have k := i6.1 u hu
    change u < P.2.2.length ∧ (rE r u ≠ 0 ∨ rH r 0 = u ∨ rH r 1 = u) at k
    refine ⟨k.1, ?_⟩
    rw [eE, eH]
    by_cases q : u = t'
    · rw [q, upN_at]; exact Or.inl (by omega)
    · rw [upN_ne q]
      have nw : rH r w ≠ (u : Int) := by omega
      rcases k.2 with k | k | k
      · exact Or.inl k
      · exact Or.inr (Or.inl (by rw [up_ne (fun z => nw (by rw [← z]; exact k))]; exact k))
      · exact Or.inr (Or.inr (by rw [up_ne (fun z => nw (by rw [← z]; exact k))]; exact k))
theorem GoI.kp (I : GoI P (pu, pp, ra, kc, r) L Y wk bu bp kf pf lf ks pb) (hw : w < 2) (hT : rH r w = (t : Int)) (hv : (rB r w).1 = oV (wk w)) : (if rW r w = 2 then kc else kpL 24 kc (rB r w).2.2 (rB r w).1) = ksO (if rW r w = 2 then ks else kpM ks (kf w) (wk w)) := by
  obtain ⟨i1, i2, i3, i4, i5, i6⟩ := I
  obtain ⟨t', e', g⟩ := i1 w hw (by show 0 ≤ rH r w; omega)
  have i5' : kc = ksO ks := i5
  by_cases q : rW r w = 2
  · rw [if_pos q, if_pos q]; exact i5'
  · rw [if_neg q, if_neg q, i5', hv, kpL_O]
    have k := g.2.2.2.2.2.2.2.1 q
    rw [k.1]
    rfl
/-- a worker ends well -/
theorem GoI.ok (I : GoI P (pu, pp, ra, kc, r) L Y wk bu bp kf pf lf ks pb) (s6 : six P) (hw : w < 2) (hT : rH r w = (t : Int)) (hv : (rB r w).1 = oV (wk w)) (hg : (wk w).2.2 = []) : GoI P (fnG 24 w t (pu, pp, ra, kc, r)) L Y wk (upO bu t (wk w)) (upO bp t (wk w)) kf pf (upO lf t (pf w)) (if rW r w = 2 then ks else kpM ks (kf w) (wk w)) (upO pb t true) ∧ fnR r w t = rsE (fn1 r w) (upN (rE r) t 1) := by
  have e1 : (rB r w).1.1 = true := by rw [hv]; exact decide_eq_true hg
  have eF : fnR r w t = rsE (fn1 r w) (upN (rE r) t 1) := by unfold fnR; exact if_pos e1
  have e : fnG 24 w t (pu, pp, ra, kc, r) = (upO pu t (rB r w).1, upO pp t (rB r w).2.1, ra, (if rW r w = 2 then kc else kpL 24 kc (rB r w).2.2 (rB r w).1), rsE (fn1 r w) (upN (rE r) t 1)) := by
    rw [← eF]
    unfold fnG
    show (if (rB r w).1.1 = true then upO pu t (rB r w).1 else pu, if (rB r w).1.1 = true then upO pp t (rB r w).2.1 else pp, _, _, _) = _
    rw [if_pos e1, if_pos e1]
    rfl
  refine ⟨?_, eF⟩
  rw [e, I.kp hw hT hv]
  obtain ⟨g3, ht, a1, a2, a3⟩ := I.ha (pu' := upO pu t (rB r w).1) (r' := rsE (fn1 r w) (upN (rE r) t 1)) s6 hw hT (Or.inl rfl) (fun v q => upO_ne q) rfl rfl rfl rfl rfl rfl
  obtain ⟨i1, i2, i3, i4, i5, i6⟩ := I
  obtain ⟨t', e', g⟩ := i1 w hw (by show 0 ≤ rH r w; omega)
  have w2 : rW r w ≠ 2 := fun z => by
    have := g.2.2.2.2.2.2.2.2.2.1 z
    change (rB r w).1.1 = false at this
    rw [e1] at this
    exact absurd this (by decide)
  have k := g.2.2.2.2.2.2.2.1 w2
  refine ⟨a1, a2, fun u hu => ?_, ⟨fun u hu => ?_, fun h => ?_⟩, rfl, a3⟩
  · show (upO pu t (rB r w).1 u).1 = upO pb t true u ∧ (upO pb t true u = true → oV (upO bp t (wk w) u) = upO pu t (rB r w).1 u ∧ upO lf t (pf w) u = upO pp t (rB r w).2.1 u ∧ 0 < (upO lf t (pf w) u).length) ∧ (upO pb t true u = false → upO lf t (pf w) u = [])
    by_cases q : u = t
    · rw [q, upO_at, upO_at, upO_at, upO_at, upO_at]
      exact ⟨e1, fun _ => ⟨hv.symm, k.2.1, k.2.2⟩, fun z => absurd z (by decide)⟩
    · rw [upO_ne q, upO_ne q, upO_ne q, upO_ne q, upO_ne q]
      exact i3 u hu
  · show upN (rE r) t 1 u ≤ 2 ∧ (upN (rE r) t 1 u = 1 → oV (upO bu t (wk w) u) = upO pu t (rB r w).1 u) ∧ (upN (rE r) t 1 u = 2 → (upO bu t (wk w) u).2.2 ≠ [] ∧ 0 ≤ rF r ∧ rF r ≤ u)
    by_cases q : u = t
    · rw [q, upN_at, upO_at, upO_at]
      exact ⟨by decide, fun _ => hv.symm, fun z => absurd z (by decide)⟩
    · rw [upN_ne q, upO_ne q, upO_ne q]
      exact i4.1 u hu
  · obtain ⟨u, e1, e2, e3, e4⟩ := i4.2 h
    have q : u ≠ t := fun z => by
      rw [z] at e3
      change rE r t = 2 at e3
      omega
    refine ⟨u, e1, e2, ?_, ?_⟩
    · show upN (rE r) t 1 u = 2
      rw [upN_ne q]; exact e3
    · show rT r = (upO bu t (wk w) u).2.2
      rw [upO_ne q]; exact e4
/-- a worker ends ill -/
theorem GoI.ill (I : GoI P (pu, pp, ra, kc, r) L Y wk bu bp kf pf lf ks pb) (s6 : six P) (hw : w < 2) (hT : rH r w = (t : Int)) (hv : (rB r w).1 = oV (wk w)) (hg : (wk w).2.2 ≠ []) : GoI P (fnG 24 w t (pu, pp, ra, kc, r)) L Y wk (upO bu t (wk w)) bp kf pf lf (if rW r w = 2 then ks else kpM ks (kf w) (wk w)) pb ∧ ∃ f y, fnR r w t = rsF (rsE (fn1 r w) (upN (rE r) t 2)) f y := by
  have e1 : ¬ (rB r w).1.1 = true := by rw [hv]; exact fun z => hg (of_decide_eq_true z)
  have e : fnG 24 w t (pu, pp, ra, kc, r) = (pu, pp, ra, (if rW r w = 2 then kc else kpL 24 kc (rB r w).2.2 (rB r w).1), fnR r w t) := by
    unfold fnG
    show (if (rB r w).1.1 = true then upO pu t (rB r w).1 else pu, if (rB r w).1.1 = true then upO pp t (rB r w).2.1 else pp, _, _, _) = _
    rw [if_neg e1, if_neg e1]
    rfl
  rw [e, I.kp hw hT hv]
  have t14 : t < 14 := by
    obtain ⟨t', e', g⟩ := I.1 w hw (by show 0 ≤ rH r w; omega)
    change rH r w = _ at e'
    have := g.1
    have := s6.1
    omega
  by_cases q : rF r < 0 ∨ (t : Int) < rF r
  · have eF : fnR r w t = rsF (rsE (fn1 r w) (upN (rE r) t 2)) t (oW (rB r w).1) := by unfold fnR; rw [if_neg e1, if_pos q]
    rw [eF]
    refine ⟨?_, t, _, rfl⟩
    obtain ⟨g3, ht, a1, a2, a3⟩ := I.ha (pu' := pu) (r' := rsF (rsE (fn1 r w) (upN (rE r) t 2)) t (oW (rB r w).1)) s6 hw hT (Or.inr rfl) (fun v q => rfl) rfl rfl rfl rfl rfl rfl
    obtain ⟨i1, i2, i3, i4, i5, i6⟩ := I
    refine ⟨a1, a2, i3, ⟨fun u hu => ?_, fun h => ⟨t, rfl, t14, ?_, ?_⟩⟩, rfl, a3⟩
    · show upN (rE r) t 2 u ≤ 2 ∧ (upN (rE r) t 2 u = 1 → oV (upO bu t (wk w) u) = pu u) ∧ (upN (rE r) t 2 u = 2 → (upO bu t (wk w) u).2.2 ≠ [] ∧ 0 ≤ (t : Int) ∧ (t : Int) ≤ u)
      by_cases z : u = t
      · rw [z, upN_at, upO_at]
        exact ⟨by decide, fun z => absurd z (by decide), fun _ => ⟨hg, by omega, by omega⟩⟩
      · rw [upN_ne z, upO_ne z]
        have k := i4.1 u hu
        refine ⟨k.1, k.2.1, fun z => ?_⟩
        have k2 := k.2.2 z
        change _ ∧ 0 ≤ rF r ∧ rF r ≤ u at k2
        exact ⟨k2.1, by omega, by omega⟩
    · show upN (rE r) t 2 t = 2
      rw [upN_at]
    · show oW (rB r w).1 = (upO bu t (wk w) t).2.2
      rw [upO_at, hv]; rfl
  · have eF : fnR r w t = rsE (fn1 r w) (upN (rE r) t 2) := by unfold fnR; rw [if_neg e1, if_neg q]
    rw [eF]
    refine ⟨?_, rF r, rT r, rfl⟩
    obtain ⟨g3, ht, a1, a2, a3⟩ := I.ha (pu' := pu) (r' := rsE (fn1 r w) (upN (rE r) t 2)) s6 hw hT (Or.inr rfl) (fun v q => rfl) rfl rfl rfl rfl rfl rfl
    obtain ⟨i1, i2, i3, i4, i5, i6⟩ := I
    refine ⟨a1, a2, i3, ⟨fun u hu => ?_, fun h => ?_⟩, rfl, a3⟩
    · show upN (rE r) t 2 u ≤ 2 ∧ (upN (rE r) t 2 u = 1 → oV (upO bu t (wk w) u) = pu u) ∧ (upN (rE r) t 2 u = 2 → (upO bu t (wk w) u).2.2 ≠ [] ∧ 0 ≤ rF r ∧ rF r ≤ u)
      by_cases z : u = t
      · rw [z, upN_at, upO_at]
        exact ⟨by decide, fun z => absurd z (by decide), fun _ => ⟨hg, by omega, by omega⟩⟩
      · rw [upN_ne z, upO_ne z]
        exact i4.1 u hu
    · obtain ⟨u, e1, e2, e3, e4⟩ := i4.2 h
      have q : u ≠ t := fun z => by
        rw [z] at e3
        change rE r t = 2 at e3
        omega
      refine ⟨u, e1, e2, ?_, ?_⟩
      · show upN (rE r) t 2 u = 2
        rw [upN_ne q]; exact e3
      · show rT r = (upO bu t (wk w) u).2.2
        rw [upO_ne q]; exact e4
end GOI
