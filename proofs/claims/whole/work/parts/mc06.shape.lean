/-! the tree of all objects is one -/
theorem opN_s {o : Option ObE} {f : ObE → Nat} {d : Nat} {e : ObE} (h : o = some e) : opN o f d = f e := by rw [h]; rfl
theorem opN_n {o : Option ObE} {f : ObE → Nat} {d : Nat} (h : o = none) : opN o f d = d := by rw [h]; rfl
theorem tLit_lt {k : Nat} {e : ObE} (h : tLit[k]? = some e) : k < tN := by
  have := (List.getElem?_eq_some_iff.mp h).1
  rw [tLit_len] at this
  exact this
theorem tLit_no {k : Nat} (h : tN ≤ k) : tLit[k]? = none := List.getElem?_eq_none (by rw [tLit_len]; exact h)
theorem kqE_s {k kd : Nat} (h : kqE k = kd) (h0 : kd ≠ 0) : ∃ e, tLit[k]? = some e ∧ kdE e = kd := by
  unfold kqE at h
  cases q : tLit[k]? with
  | none => rw [opN_n q] at h; exact absurd h.symm h0
  | some e => rw [opN_s q] at h; exact ⟨e, rfl, h⟩
theorem kqE_e {k : Nat} {e : ObE} (h : tLit[k]? = some e) : kqE k = kdE e := opN_s h
theorem lqE_e {k : Nat} {e : ObE} (h : tLit[k]? = some e) : lqE k = e.2.1 := opN_s h
theorem ek_fk {f : Nat} (h : ek f ≠ 0) : fk f ≠ 0 := by
  have c : ∀ r : Fin 14, ∀ i : Fin 128, ek (128 * r.val + i.val) ≠ 0 → fk (128 * r.val + i.val) ≠ 0 := by decide +kernel
  have l : f < 1792 := by
    unfold ek at h
    rcases Nat.lt_or_ge f 1792 with q | q
    · exact q
    · exfalso
      apply h
      have : (ekT.getD (f / 128) []) = [] := by
        rw [List.getD_eq_getElem?_getD, List.getElem?_eq_none]
        · rfl
        · show 14 ≤ f / 128
          omega
      rw [this]
      rfl
  have g := c ⟨f / 128, by omega⟩ ⟨f % 128, by omega⟩
  simp only at g
  rw [show 128 * (f / 128) + f % 128 = f by omega] at g
  exact g h
section SHS
variable {n0 : Nat} {h0 : Hp}
theorem shK (i : Nat) : sK (shS n0 h0) (n0 + i) = kqE i := by
  show (if n0 ≤ n0 + i then kqE (n0 + i - n0) else 0) = _
  rw [if_pos (Nat.le_add_right _ _), Nat.add_sub_cancel_left]
theorem shL (i : Nat) : sL (shS n0 h0) (n0 + i) = lqE i := by
  show (if n0 ≤ n0 + i then lqE (n0 + i - n0) else 0) = _
  rw [if_pos (Nat.le_add_right _ _), Nat.add_sub_cancel_left]
theorem shC (i : Nat) : sC (shS n0 h0) (n0 + i) = cqE i := by
  show (if n0 ≤ n0 + i then cqE (n0 + i - n0) else 0) = _
  rw [if_pos (Nat.le_add_right _ _), Nat.add_sub_cancel_left]
theorem shK_s {a kd : Nat} (h : sK (shS n0 h0) a = kd) (hk : kd ≠ 0) : ∃ k e, a = n0 + k ∧ tLit[k]? = some e ∧ kdE e = kd := by
  by_cases q : n0 ≤ a
  · obtain ⟨k, rfl⟩ : ∃ k, a = n0 + k := ⟨a - n0, by omega⟩
    rw [shK] at h
    obtain ⟨e, h1, h2⟩ := kqE_s h hk
    exact ⟨k, e, rfl, h1, h2⟩
  · have h : (if n0 ≤ a then kqE (a - n0) else 0) = kd := h
    rw [if_neg q] at h
    exact absurd h.symm hk
theorem tgE_s {k place i : Nat} (h : fdE k place = some i) : tgE n0 (n0 + k) place = n0 + i := by
  unfold tgE
  rw [if_pos (Nat.le_add_right _ _), Nat.add_sub_cancel_left, h]
  rfl
/-- what an address gives back -/
theorem tg_back {a place : Nat} (hp : place < 8192) : sP (shS n0 h0) (tgE n0 a place) = a ∧ sF (shS n0 h0) (tgE n0 a place) = place := by
  have vt : sP (shS n0 h0) (vtE n0 a place) = a ∧ sF (shS n0 h0) (vtE n0 a place) = place := by
    have e1 : n0 ≤ vtE n0 a place := by unfold vtE; omega
    have e2 : vtE n0 a place - n0 - tN = a * 16384 + place := by unfold vtE; omega
    have e3 : tLit[vtE n0 a place - n0]? = none := tLit_no (by unfold vtE; omega)
    constructor
    · show (if n0 ≤ vtE n0 a place then opN tLit[vtE n0 a place - n0]? (fun e => n0 + e.2.2.1) ((vtE n0 a place - n0 - tN) / 16384) else _) = a
      rw [if_pos e1, opN_n e3, e2]; omega
    · show (if n0 ≤ vtE n0 a place then opN tLit[vtE n0 a place - n0]? (fun e => e.2.2.2) ((vtE n0 a place - n0 - tN) % 16384) else _) = place
      rw [if_pos e1, opN_n e3, e2]; omega
  unfold tgE
  by_cases q : n0 ≤ a
  · rw [if_pos q]
    cases z : fdE (a - n0) place with
    | none => exact vt
    | some i =>
      obtain ⟨e, h1, h2, h3⟩ := fdE_s z
      have n1 : n0 ≤ n0 + i := Nat.le_add_right _ _
      constructor
      · show (if n0 ≤ n0 + i then opN tLit[n0 + i - n0]? (fun e => n0 + e.2.2.1) _ else _) = a
        rw [if_pos n1, Nat.add_sub_cancel_left, opN_s h1]; omega
      · show (if n0 ≤ n0 + i then opN tLit[n0 + i - n0]? (fun e => e.2.2.2) _ else _) = place
        rw [if_pos n1, Nat.add_sub_cancel_left, opN_s h1]; exact h3
  · rw [if_neg q]; exact vt
theorem ckP_at {k : Nat} {e : ObE} (h : tLit[k]? = some e) : e.2.2.1 ≤ k ∧ (e.2.2.2 < 8192 → e.2.2.1 < k) ∧ (kdE e ≠ 30 ∧ kdE e ≠ 31 ∧ kdE e < 80) ∧ (e.1 = 6 → opN tLit[k + 1]? (fun x => x.1) 0 = 41 ∧ opN tLit[k + 1]? (fun x => x.2.2.1) 0 = k ∧ opN tLit[k + 1]? (fun x => x.2.2.2) 0 = 640) ∧ (e.1 = 41 → e.2.2.2 = 640 → opN tLit[e.2.2.1]? (fun x => x.1) 0 = 6) := by
  have g := allI_t ckP_all h
  rw [Nat.zero_add] at g
  unfold ckP at g
  simp only [Bool.and_eq_true, Bool.or_eq_true, decide_eq_true_eq, bne_iff_ne, beq_iff_eq, ne_eq] at g
  obtain ⟨⟨⟨⟨g1, g2⟩, g3⟩, g4⟩, g5⟩ := g
  refine ⟨g1, fun q => g2.elim (fun z => by omega) id, ⟨g3.1.1, g3.1.2, g3.2⟩, fun q => g4.elim (fun z => absurd q z) id, fun q1 q2 => ?_⟩
  rcases g5 with (z | z) | z
  · exact absurd q1 z
  · exact absurd q2 z
  · exact z
theorem tg_lt {a place : Nat} (hp : place < 8192) : a < tgE n0 a place := by
  have vt : a < vtE n0 a place := by
    have : 0 < tN := by decide
    unfold vtE; omega
  unfold tgE
  by_cases q : n0 ≤ a
  · rw [if_pos q]
    cases z : fdE (a - n0) place with
    | none => exact vt
    | some i =>
      obtain ⟨e, h1, h2, h3⟩ := fdE_s z
      have := (ckP_at h1).2.1 (by omega)
      show a < n0 + i
      omega
  · rw [if_neg q]; exact vt
theorem fk_row {f : Nat} (h : fk f ≠ 0) : f % 128 < (fkT.getD (f / 128) []).length := by
  rcases Nat.lt_or_ge (f % 128) (fkT.getD (f / 128) []).length with q | q
  · exact q
  · exfalso
    apply h
    show ((fkT.getD (f / 128) [])[f % 128]?).getD 0 = 0
    rw [List.getElem?_eq_none q]
    rfl
theorem ck3_at {k f : Nat} {e : ObE} (hf : fk f ≠ 0) (h : tLit[k]? = some e) (hk : kdE e = kFld f) : ∃ i, fdE k f = some i ∧ kqE i = fk f ∧ (fl f ≠ 0 → lqE i = fl f) ∧ fc f ≤ cqE i ∧ (ek f ≠ 0 → ck4 i (ek f) = true) := by
  have fl' := fk_lt hf
  have kf := kFlt fl'
  have g := allI_t ck3_all h
  rw [Nat.zero_add] at g
  unfold ck3 at g
  have k1 : (kdE e == 0) = false := by rw [beq_eq_false_iff_ne]; omega
  have k2 : decide (15 ≤ kdE e) = false := decide_eq_false (by omega)
  rw [k1, k2, Bool.false_or, Bool.false_or, List.all_eq_true] at g
  have e1 : kdE e - 1 = f / 128 := by omega
  have g := g (f % 128) (List.mem_range.mpr (by rw [e1]; exact fk_row hf))
  have e2 : 128 * (kdE e - 1) + f % 128 = f := by rw [e1]; omega
  rw [e2] at g
  have k3 : (fk f == 0) = false := by rw [beq_eq_false_iff_ne]; exact hf
  rw [k3, Bool.false_or] at g
  obtain ⟨i, h1, h2⟩ := opbE_t g
  simp only [Bool.and_eq_true, Bool.or_eq_true, decide_eq_true_eq, beq_iff_eq] at h2
  obtain ⟨⟨⟨h3, h4⟩, h5⟩, h6⟩ := h2
  exact ⟨i, h1, h3, fun q => h4.elim (fun z => absurd z q) id, h5, fun q => h6.elim (fun z => absurd z q) id⟩
theorem ck4_at {i k j : Nat} (h : ck4 i k = true) (hj : j < lqE i) : ∃ u, fdE i (4096 + j) = some u ∧ kqE u = k ∧ (k = 40 → lqE u = 3) ∧ j < 4096 := by
  unfold ck4 at h
  rw [Bool.and_eq_true, List.all_eq_true, decide_eq_true_eq] at h
  obtain ⟨u, h1, h2⟩ := opbE_t (h.2 j (List.mem_range.mpr hj))
  simp only [Bool.and_eq_true, Bool.or_eq_true, beq_iff_eq, bne_iff_ne, ne_eq] at h2
  exact ⟨u, h1, h2.1, fun q => h2.2.elim (fun z => absurd q z) id, by omega⟩
theorem ck8_at {i : Nat} {e : ObE} (h : tLit[i]? = some e) (hk : kdE e = 40 ∨ kdE e = 41 ∨ kdE e = 42 ∨ kdE e = 51 ∨ kdE e = 52 ∨ kdE e = 55 ∨ kdE e = 62 ∨ kdE e = 76) : (e.2.2.2 < 4096 ∧ fdE e.2.2.1 e.2.2.2 = some i ∧ kqE e.2.2.1 = kFld e.2.2.2 ∧ fk e.2.2.2 = kdE e) ∨ (kdE e = 40 ∧ ∃ j b, j < 14 ∧ fdE e.2.2.1 (4096 + j) = some i ∧ fdE b 898 = some e.2.2.1 ∧ kqE b = 8) := by
  have g := allI_t ck8_all h
  rw [Nat.zero_add] at g
  unfold ck8 at g
  have k1 : (kdE e == 40 || kdE e == 41 || kdE e == 42 || kdE e == 51 || kdE e == 52 || kdE e == 55 || kdE e == 62 || kdE e == 76) = true := by
    simp only [Bool.or_eq_true, beq_iff_eq]
    omega
  rw [k1, Bool.not_true, Bool.false_or] at g
  simp only [Bool.and_eq_true, Bool.or_eq_true, decide_eq_true_eq, beq_iff_eq] at g
  rcases g with ⟨g1, g2, g3, g4⟩ | ⟨g0, ⟨g1, g1'⟩, g2, g3⟩
  · exact Or.inl ⟨g1, g2, g3, g4⟩
  · obtain ⟨b, hb, g3⟩ := opbE_t g3
    simp only [Bool.and_eq_true, beq_iff_eq] at g3
    exact Or.inr ⟨g0, e.2.2.2 - 4096, b, by omega, by rw [show 4096 + (e.2.2.2 - 4096) = e.2.2.2 by omega]; exact g2, g3.2, g3.1⟩
theorem shS_ok (hk : ∀ x, x < n0 → KD h0 x ≠ 6 ∧ KD h0 x ≠ 41) : SOk (shS n0 h0) := by
  have m0 : tLit[1154]? = some (14, 0, 1154, 10000) := by decide +kernel
  have x0 : tLit[0]? = some (11, 0, 0, 10000) := by decide +kernel
  have nd : ∀ kd : Nat, (kd = 40 ∨ kd = 41 ∨ kd = 42 ∨ kd = 51 ∨ kd = 52 ∨ kd = 55 ∨ kd = 62 ∨ kd = 76) → ∀ a, sK (shS n0 h0) a = kd → (∃ f b, a = sT (shS n0 h0) f b ∧ f < 4096 ∧ sK (shS n0 h0) b = kFld f ∧ fk f = kd) ∨ (kd = 40 ∧ ∃ b j, a = sE (shS n0 h0) (sT (shS n0 h0) 898 b) j ∧ sK (shS n0 h0) b = 8 ∧ j < 14) := fun kd hkd a ha => by
    obtain ⟨i, e, rfl, h1, h2⟩ := shK_s ha (by omega)
    rcases ck8_at h1 (by rw [h2]; exact hkd) with ⟨g1, g2, g3, g4⟩ | ⟨g0, j, b, g1, g2, g3, g4⟩
    · exact Or.inl ⟨e.2.2.2, n0 + e.2.2.1, (tgE_s g2).symm, g1, (shK _).trans g3, g4.trans h2⟩
    · refine Or.inr ⟨h2.symm.trans g0, n0 + b, j, ?_, (shK _).trans g4, g1⟩
      show n0 + i = tgE n0 (tgE n0 (n0 + b) 898) (4096 + j)
      rw [tgE_s g3, tgE_s g2]
  refine ⟨fun f a hf => tg_back (by omega), fun b j hj => tg_back (by omega), fun f a hf ha => ?_, fun f a j hf ha hj => ?_, ⟨?_, ?_, ?_, fun y => ?_, fun f a hf => tg_lt (by omega), fun b j hj => tg_lt (by omega)⟩, ⟨?_, ?_, ?_, ?_⟩, fun a ha => ?_, fun a ha => ?_, fun a ha => ?_, fun a ha => ?_, fun x hx => ⟨?_, hk x hx⟩⟩
  · have kf := kFlt (fk_lt hf)
    obtain ⟨k, e, rfl, h1, h2⟩ := shK_s ha (by omega)
    obtain ⟨i, g1, g2, g3, g4, -⟩ := ck3_at hf h1 h2
    have e1 : sT (shS n0 h0) f (n0 + k) = n0 + i := tgE_s g1
    rw [e1, shK, shL, shC]
    exact ⟨g2, g3, g4⟩
  · have hf2 : fk f ≠ 0 := ek_fk hf
    have kf := kFlt (fk_lt hf2)
    obtain ⟨k, e, rfl, h1, h2⟩ := shK_s ha (by omega)
    obtain ⟨i, g1, g2, g3, g4, g5⟩ := ck3_at hf2 h1 h2
    have e1 : sT (shS n0 h0) f (n0 + k) = n0 + i := tgE_s g1
    rw [e1, shL] at hj
    rw [e1]
    obtain ⟨u, u1, u2, u3, -⟩ := ck4_at (g5 hf) hj
    have e2 : sE (shS n0 h0) (n0 + i) j = n0 + u := tgE_s u1
    rw [e2, shK, shL]
    exact ⟨u2, u3⟩
  · have := shK (n0 := n0) (h0 := h0) 0
    exact this.trans (kqE_e x0)
  · exact (shK 1154).trans (kqE_e m0)
  · show n0 ≠ n0 + 1154
    omega
  · show (if n0 ≤ y then opN tLit[y - n0]? (fun e => n0 + e.2.2.1) ((y - n0 - tN) / 16384) else y) ≤ y
    split
    · rename_i q
      cases z : tLit[y - n0]? with
      | none => rw [opN_n rfl]; omega
      | some e =>
        rw [opN_s rfl]
        have := (ckP_at z).1
        omega
    · exact Nat.le_refl _
  · show (if n0 ≤ n0 then opN tLit[n0 - n0]? (fun e => n0 + e.2.2.1) _ else n0) = n0
    rw [if_pos (Nat.le_refl _), Nat.sub_self, opN_s x0]
    rfl
  · show (if n0 ≤ n0 + 1154 then opN tLit[n0 + 1154 - n0]? (fun e => n0 + e.2.2.1) _ else _) = n0 + 1154
    rw [if_pos (Nat.le_add_right _ _), Nat.add_sub_cancel_left, opN_s m0]
  · show 4096 < (if n0 ≤ n0 then opN tLit[n0 - n0]? (fun e => e.2.2.2) _ else 0)
    rw [if_pos (Nat.le_refl _), Nat.sub_self, opN_s x0]
    decide
  · show 4096 < (if n0 ≤ n0 + 1154 then opN tLit[n0 + 1154 - n0]? (fun e => e.2.2.2) _ else 0)
    rw [if_pos (Nat.le_add_right _ _), Nat.add_sub_cancel_left, opN_s m0]
    decide
  · obtain ⟨k, e, rfl, h1, h2⟩ := shK_s rfl ha
    rw [shK, kqE_e h1]
    exact (ckP_at h1).2.2.1
  · rcases nd 40 (by omega) a ha with z | ⟨-, z⟩
    · exact Or.inl z
    · exact Or.inr z
  · rcases nd _ (by omega) a rfl with z | ⟨z, -⟩
    · exact z
    · omega
  · rcases nd _ (by omega) a rfl with z | ⟨z, -⟩
    · exact z
    · omega
  · show (if n0 ≤ x then kqE (x - n0) else 0) = 0
    have hx : x < n0 := hx
    rw [if_neg (by omega)]
end SHS
