/-! the heap behind both constructors: the tree holds of it -/
def EnX (h : Hp) (p k : Nat) (e : ObE) : Prop := KD h (p + k) = e.1 ∧ LN h (p + k) = e.2.1 ∧ (e.2.2.2 < 8192 → e.2.2.2 ≠ 1288 → lkE h p e.2.2.1 e.2.2.2 k) ∧ (∀ f, FI h f (p + k) = iF e.1 f ∧ FL h f (p + k) = 0) ∧ ∀ j, AI h (p + k) j = iA e.2.2.2 j ∧ AL h (p + k) j = 0
theorem Bl.enx {kd p s0 : Nat} {L : List ObE} {zv : Nat → Option Nat} {h : Hp} (B : Bl kd 0 p s0 L [] zv (iF kd) (fun _ => 0) h) {k : Nat} {e : ObE} (he : L[k]? = some e) : EnX h p k e := by
  cases k with
  | zero =>
    rw [B.2.2.1] at he
    cases he
    obtain ⟨-, -, -, ⟨b4, b5, b6, b7⟩, -⟩ := B
    exact ⟨b4, b5, fun z => absurd z (show ¬ 10000 < 8192 by decide), b6, fun j => ⟨(b7 j).1.trans (iA_no (place := 10000) (by decide) j), (b7 j).2⟩⟩
  | succ k =>
    obtain ⟨⟨g1, g2, g3, g4, g5⟩, -⟩ := B.2.2.2.2.1 (k + 1) e (by omega) he
    exact ⟨g1, g2, fun _ => g3, g4, g5⟩
theorem EnX.fx {h h' : Hp} {p k : Nat} {e : ObE} (a : SmA h h' (p + k)) (b : e.2.2.2 < 8192 → SmA h h' (p + e.2.2.1)) (E : EnX h p k e) : EnX h' p k e := by
  obtain ⟨e1, e2, e3, e4, e5⟩ := E
  refine ⟨a.1.trans e1, a.2.1.trans e2, fun q0 q => ?_, fun f => ⟨(a.2.2.1 f).1.trans (e4 f).1, (a.2.2.1 f).2.1.trans (e4 f).2⟩, fun j => ⟨by rw [a.2.2.2.1]; exact (e5 j).1, by rw [a.2.2.2.2.1]; exact (e5 j).2⟩⟩
  have g := e3 q0 q
  have b := b q0
  unfold lkE at g ⊢
  split
  · rename_i z
    rw [if_pos z] at g
    rw [(b.2.2.1 _).2.2]; exact g
  · rename_i z
    rw [if_neg z] at g
    rw [b.2.2.2.2.2]; exact g
theorem EnX.sh {h : Hp} {p m k : Nat} {e : ObE} (E : EnX h (p + m) k e) : EnX h p (m + k) (e.1, e.2.1, e.2.2.1 + m, e.2.2.2) := by
  obtain ⟨e1, e2, e3, e4, e5⟩ := E
  have pk : p + (m + k) = p + m + k := by omega
  refine ⟨by rw [pk]; exact e1, by rw [pk]; exact e2, fun q0 q => ?_, fun f => by rw [pk]; exact e4 f, fun j => by rw [pk]; exact e5 j⟩
  have g := e3 q0 q
  unfold lkE at g ⊢
  show if e.2.2.2 < 4096 then FR h e.2.2.2 (p + (e.2.2.1 + m)) = some (p + (m + k)) else AR h (p + (e.2.2.1 + m)) (e.2.2.2 - 4096) = some (p + (m + k))
  rw [pk, show p + (e.2.2.1 + m) = p + m + e.2.2.1 by omega]
  exact g
/-- the heap behind both constructors but for clearHouse; v: the array of all verbs -/
def Hw (G : Nat → Option Nat) (v n0 : Nat) (h0 h : Hp) : Prop := NX h0 = n0 ∧ (∀ k e, tLit[k]? = some e → EnX h n0 k e) ∧ NX h = n0 + tN ∧ SL h = SL h0 + sltE tLit ∧ Fx (fun _ => False) h0 h ∧ (FR h 514 (n0 + 5) = G 0 ∧ ∀ j, AR h (n0 + 5 + 3) j = AR h0 v j) ∧ (∀ i, i < 6 → AR h (n0 + 155 + 3) i = some (n0 + 155 + 1)) ∧ FR h 768 (n0 + 172) = some (n0 + 155) ∧ FR h 768 (n0 + 759) = some (n0 + 155)
theorem Hw.mk {G : Nat → Option Nat} {v : Nat} {h0 h1 h : Hp} {zv zv' : Nat → Option Nat} (B : Bl 11 0 (NX h0) (SL h0) tHouse [] zv (iF 11) (fun _ => 0) h1) (F : Fx (fun _ => False) h0 h1) (x1 : FR h1 514 (NX h0 + 5) = G 0 ∧ ∀ j, AR h1 (NX h0 + 5 + 3) j = AR h0 v j) (x2 : ∀ i, i < 6 → AR h1 (NX h0 + 155 + 3) i = some (NX h0 + 155 + 1)) (x3 : FR h1 768 (NX h0 + 172) = some (NX h0 + 155)) (x4 : FR h1 768 (NX h0 + 759) = some (NX h0 + 155)) (b : Bl 14 0 (NX h1) (SL h1) tModel [] zv' (iF 14) (fun _ => 0) h) (f : Fx (fun _ => False) h1 h) : Hw G v (NX h0) h0 h := by
  have n1 : NX h1 = NX h0 + 1154 := by rw [B.1, tHouse_n]
  have tl : tLit.length = 1154 + tModel.length := by rw [← tLit_eq, List.length_append, attE_len, tHouse_n]
  have sm : ∀ k, k < 1154 → SmA h1 h (NX h0 + k) := fun k hk => f.2 _ (by omega) (fun z => z)
  refine ⟨rfl, fun k e he => ?_, ?_, ?_, F.tr f, ⟨?_, fun j => ?_⟩, fun i hi => ?_, ?_, ?_⟩
  · rw [← tLit_eq] at he
    rcases Nat.lt_or_ge k 1154 with q | q
    · rw [List.getElem?_append_left (by rw [tHouse_n]; exact q)] at he
      refine (B.enx he).fx (sm k q) (fun z => sm _ ?_)
      cases k with
      | zero =>
        rw [B.2.2.1] at he
        cases he
        exact absurd z (by decide)
      | succ k => have := (B.2.2.2.2.1 (k + 1) e (by omega) he).2; omega
    · rw [List.getElem?_append_right (by rw [tHouse_n]; exact q), tHouse_n] at he
      generalize hi : k - 1154 = i at he
      obtain rfl : k = 1154 + i := by omega
      obtain ⟨r, hT⟩ : ∃ r, tModel = (14, 0, 0, 10000) :: r := by
        have g := b.2.2.1
        cases h' : tModel with
        | nil => rw [h'] at g; cases g
        | cons x r => rw [h'] at g; cases g; exact ⟨r, rfl⟩
      rw [n1] at b
      cases i with
      | zero =>
        rw [hT] at he
        cases he
        have g := (b.enx (k := 0) b.2.2.1).sh
        exact ⟨g.1, g.2.1, fun z => absurd z (by decide), g.2.2.2.1, g.2.2.2.2⟩
      | succ i =>
        rw [hT] at he
        unfold attE at he
        rw [List.getElem?_cons_succ] at he
        obtain ⟨e0, g1, rfl⟩ := shE_get he
        exact (b.enx (k := i + 1) (by rw [hT, List.getElem?_cons_succ]; exact g1)).sh
  · rw [b.1, n1, ← tLit_len, tl]; omega
  · rw [b.2.1, B.2.1, ← tLit_eq, sltE_app, sltE_att]; omega
  · rw [((sm 5 (by decide)).2.2.1 514).2.2]; exact x1.1
  · rw [(sm 8 (by decide)).2.2.2.2.2]; exact x1.2 j
  · rw [(sm 158 (by decide)).2.2.2.2.2]; exact x2 i hi
  · rw [((sm 172 (by decide)).2.2.1 768).2.2]; exact x3
  · rw [((sm 759 (by decide)).2.2.1 768).2.2]; exact x4
/-- checks: where workshop, sessions and request lie; lengths -/
theorem kd_one : allI (fun i e => (kdE e != 10 || i == 155) && (kdE e != 7 || (i == 172 || i == 759)) && (kdE e != 5 || i == 5) && decide (e.2.1 ≤ 60000000) && (e.1 != 41 || kdE e == 0 || kdE e == 41) && (kdE e != 8 || opbE (fdE i 900) (fun u => decide (lqE u ≤ 24)))) tLit 0 = true := by decide +kernel
theorem kd_at {k : Nat} {e : ObE} (h : tLit[k]? = some e) : (kdE e = 10 → k = 155) ∧ (kdE e = 7 → k = 172 ∨ k = 759) ∧ (kdE e = 5 → k = 5) ∧ e.2.1 ≤ 60000000 ∧ (kdE e = 8 → ∃ u, fdE k 900 = some u ∧ lqE u ≤ 24) := by
  have g := allI_t kd_one h
  rw [Nat.zero_add] at g
  simp only [Bool.and_eq_true, Bool.or_eq_true, decide_eq_true_eq, bne_iff_ne, beq_iff_eq, ne_eq] at g
  obtain ⟨⟨⟨⟨⟨g1, g2⟩, g3⟩, g4⟩, -⟩, g6⟩ := g
  refine ⟨fun q => g1.elim (fun z => absurd q z) id, fun q => g2.elim (fun z => absurd q z) id, fun q => g3.elim (fun z => absurd q z) id, g4, fun q => ?_⟩
  rcases g6 with z | z
  · exact absurd q z
  · obtain ⟨u, h1, h2⟩ := opbE_t z
    exact ⟨u, h1, of_decide_eq_true h2⟩
theorem iA_rg (place j : Nat) : -1 ≤ iA place j ∧ iA place j ≤ 0 := by
  unfold iA
  split <;> omega
theorem big_r {f : Nat} (h : 1792 ≤ f) : rlo f = -2147483648 ∧ rhi f = 2147483647 := by
  have e : ∀ T : List (List Int), T.length = 14 → T.getD (f / 128) [] = [] := fun T hT => by
    rw [List.getD_eq_getElem?_getD, List.getElem?_eq_none (by omega)]; rfl
  constructor
  · unfold rlo; rw [e _ rfl]; rfl
  · unfold rhi; rw [e _ rfl]; rfl
theorem rg_c : ∀ r : Fin 14, ∀ i : Fin 128, rlo (128 * r.val + i.val) ≤ iF (kFld (128 * r.val + i.val)) (128 * r.val + i.val) ∧ iF (kFld (128 * r.val + i.val)) (128 * r.val + i.val) ≤ rhi (128 * r.val + i.val) := by decide +kernel
theorem rg_i (f : Nat) : rlo f ≤ iF (kFld f) f ∧ iF (kFld f) f ≤ rhi f := by
  rcases Nat.lt_or_ge f 1792 with q | q
  · have g := rg_c ⟨f / 128, by omega⟩ ⟨f % 128, by omega⟩
    simp only at g
    rw [show 128 * (f / 128) + f % 128 = f by omega] at g
    exact g
  · rw [(big_r q).1, (big_r q).2]
    unfold iF
    split <;> omega
theorem ag_c : ∀ r : Fin 14, ∀ i : Fin 128, (fk (128 * r.val + i.val) = 40 ∨ fk (128 * r.val + i.val) = 42) → alo (128 * r.val + i.val) ≤ iA (128 * r.val + i.val) 0 ∧ alo (128 * r.val + i.val) ≤ 0 ∧ 0 ≤ ahi (128 * r.val + i.val) := by decide +kernel
theorem ag_i {f : Nat} (h : fk f = 40 ∨ fk f = 42) (j : Nat) : alo f ≤ iA f j ∧ iA f j ≤ ahi f := by
  have q : f < 1792 := fk_lt (by omega)
  have g := ag_c ⟨f / 128, by omega⟩ ⟨f % 128, by omega⟩
  simp only at g
  rw [show 128 * (f / 128) + f % 128 = f by omega] at g
  have g := g h
  have r := iA_rg f j
  refine ⟨?_, by omega⟩
  have e : iA f j = iA f 0 ∨ iA f j = 0 := by
    unfold iA
    by_cases z : f = 775 ∨ f = 1713
    · by_cases y : j < 2
      · exact Or.inl (by rw [if_pos ⟨z, y⟩, if_pos ⟨z, by decide⟩])
      · exact Or.inr (if_neg (fun w => y w.2))
    · exact Or.inr (if_neg (fun w => z w.1))
  rcases e with e | e <;> omega
theorem es_c : ∀ r : Fin 14, ∀ i : Fin 128, (es (128 * r.val + i.val) = 1 ∨ es (128 * r.val + i.val) = 2) → ek (128 * r.val + i.val) ≠ 0 := by decide +kernel
theorem es_ek {f : Nat} (h : es f = 1 ∨ es f = 2) : ek f ≠ 0 := by
  have q : f < 1792 := es_lt (by omega)
  have g := es_c ⟨f / 128, by omega⟩ ⟨f % 128, by omega⟩
  simp only at g
  rw [show 128 * (f / 128) + f % 128 = f by omega] at g
  exact g h
section ENDH
variable {G : Nat → Option Nat} {v n0 : Nat} {h0 h : Hp}
/-- what the table says of an object of the tree -/
theorem Hw.at (W : Hw G v n0 h0 h) {a : Nat} (ha : sK (shS n0 h0) a ≠ 0) : ∃ k e, a = n0 + k ∧ tLit[k]? = some e ∧ kdE e = sK (shS n0 h0) a ∧ e.1 = sK (shS n0 h0) a ∧ EnX h n0 k e := by
  obtain ⟨k, e, rfl, h1, h2⟩ := shK_s rfl ha
  refine ⟨k, e, rfl, h1, h2, ?_, W.2.1 k e h1⟩
  rw [← h2] at ha ⊢
  unfold kdE at ha ⊢
  split
  · rename_i q; rw [if_pos q] at ha; exact absurd rfl ha
  · rfl
/-- what a field holds -/
theorem Hw.fd (W : Hw G v n0 h0 h) {f a : Nat} (hf : fk f ≠ 0) (ha : sK (shS n0 h0) a = kFld f) : ∃ k i e, a = n0 + k ∧ fdE k f = some i ∧ sT (shS n0 h0) f a = n0 + i ∧ tLit[i]? = some e ∧ e.2.2.1 = k ∧ e.2.2.2 = f ∧ EnX h n0 i e := by
  have kf := kFlt (fk_lt hf)
  obtain ⟨k, e, rfl, h1, h2⟩ := shK_s ha (by omega)
  obtain ⟨i, g1, g2, g3, g4, -⟩ := ck3_at hf h1 h2
  obtain ⟨e', q1, q2, q3⟩ := fdE_s g1
  exact ⟨k, i, e', rfl, g1, tgE_s g1, q1, q2, q3, W.2.1 i e' q1⟩
/-- an array's element -/
theorem Hw.el (W : Hw G v n0 h0 h) {f a j : Nat} (hf : ek f ≠ 0) (ha : sK (shS n0 h0) a = kFld f) (hj : j < sL (shS n0 h0) (sT (shS n0 h0) f a)) : ∃ i u e, sT (shS n0 h0) f a = n0 + i ∧ sE (shS n0 h0) (sT (shS n0 h0) f a) j = n0 + u ∧ tLit[u]? = some e ∧ e.2.2.1 = i ∧ e.2.2.2 = 4096 + j ∧ EnX h n0 u e ∧ j < 4096 := by
  have hf2 := ek_fk hf
  have kf := kFlt (fk_lt hf2)
  obtain ⟨k, e, rfl, h1, h2⟩ := shK_s ha (by omega)
  obtain ⟨i, g1, g2, g3, g4, g5⟩ := ck3_at hf2 h1 h2
  have e1 : sT (shS n0 h0) f (n0 + k) = n0 + i := tgE_s g1
  rw [e1, shL] at hj
  obtain ⟨u, u1, u2, u3, u4⟩ := ck4_at (g5 hf) hj
  obtain ⟨e', q1, q2, q3⟩ := fdE_s u1
  refine ⟨i, u, e', e1, ?_, q1, q2, q3, W.2.1 u e' q1, u4⟩
  rw [e1]
  exact tgE_s u1
theorem Hw.zi (W : Hw G v n0 h0 h) {a : Nat} (ha : sK (shS n0 h0) a ≠ 0) (f : Nat) : FI h f a = iF (sK (shS n0 h0) a) f ∧ FL h f a = 0 := by
  obtain ⟨k, e, rfl, -, -, h3, E⟩ := W.at ha
  rw [← h3]
  exact E.2.2.2.1 f
theorem Hw.za (W : Hw G v n0 h0 h) {f a : Nat} (hf : fk f ≠ 0) (ha : sK (shS n0 h0) a = kFld f) (j : Nat) : AI h (sT (shS n0 h0) f a) j = iA f j ∧ AL h (sT (shS n0 h0) f a) j = 0 := by
  obtain ⟨k, i, e, -, -, e1, -, -, e2, E⟩ := W.fd hf ha
  rw [e1]
  have g := E.2.2.2.2 j
  rw [e2] at g
  exact g
theorem Hw.ze (W : Hw G v n0 h0 h) {f a t : Nat} (hf : ek f ≠ 0) (ha : sK (shS n0 h0) a = kFld f) (ht : t < sL (shS n0 h0) (sT (shS n0 h0) f a)) (j : Nat) : AI h (sE (shS n0 h0) (sT (shS n0 h0) f a) t) j = 0 ∧ AL h (sE (shS n0 h0) (sT (shS n0 h0) f a) t) j = 0 := by
  obtain ⟨i, u, e, -, e1, -, -, e2, E, -⟩ := W.el hf ha ht
  rw [e1]
  have g := E.2.2.2.2 j
  rw [e2, ← iA_no (by omega) j] at g
  exact g
theorem Hw.ar (W : Hw G v n0 h0 h) {f a j : Nat} (hf : ek f ≠ 0) (ha : sK (shS n0 h0) a = kFld f) (hj : j < sL (shS n0 h0) (sT (shS n0 h0) f a)) : AR h (sT (shS n0 h0) f a) j = some (sE (shS n0 h0) (sT (shS n0 h0) f a) j) := by
  have hj' : f < 1792 := fk_lt (ek_fk hf)
  obtain ⟨i, u, e, e1, e2, -, e3, e4, E, lt⟩ := W.el hf ha hj
  rw [e2, e1]
  have g := E.2.2.1 (by omega) (by omega)
  unfold lkE at g
  rw [e4, e3, if_neg (by omega), show 4096 + j - 4096 = j by omega] at g
  exact g
end ENDH
