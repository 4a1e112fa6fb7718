/-! the heap behind both constructors is as the tree says -/
section ENDOK
variable {G : Nat → Option Nat} {v n0 : Nat} {h0 h : Hp}
theorem Hw.lo (W : Hw G v n0 h0 h) {x : Nat} (hx : x < n0) : SmA h0 h x := W.2.2.2.2.1.2 x (by rw [W.1]; exact hx) (fun z => z)
theorem Hw.cln (W : Hw G v n0 h0 h) (C : Cn0 G h0) : Cln h := W.2.2.2.2.1.1.2 C.1
/-- what has a kind -/
theorem Hw.kd (W : Hw G v n0 h0 h) (C : Cn0 G h0) {a : Nat} (h1 : KD h a ≠ 0) (h2 : ∀ x, x < n0 → KD h0 x ≠ KD h a) : ∃ k e, a = n0 + k ∧ tLit[k]? = some e ∧ e.1 = KD h a ∧ EnX h n0 k e := by
  have n1 : ¬ NX h ≤ a := fun z => h1 (W.cln C a z).1
  have n2 : ¬ a < n0 := fun z => h2 a z (W.lo z).1.symm
  obtain ⟨k, rfl⟩ : ∃ k, a = n0 + k := ⟨a - n0, by omega⟩
  have kl : k < tLit.length := by rw [tLit_len]; have := W.2.2.1; omega
  have E := W.2.1 k _ (List.getElem?_eq_getElem kl)
  exact ⟨k, _, rfl, List.getElem?_eq_getElem kl, E.1.symm, E⟩
theorem Hw.row (W : Hw G v n0 h0 h) (hk : ∀ a, KD h0 a = 0 ∨ KD h0 a = 30 ∨ KD h0 a = 31 ∨ KD h0 a = 80 ∨ KD h0 a = 81 ∨ KD h0 a = 82) (C : Cn0 G h0) {a : Nat} (ha : KD h a = 6) : ∃ k e e1, a = n0 + k ∧ tLit[k]? = some e ∧ e.1 = 6 ∧ tLit[k + 1]? = some e1 ∧ e1.1 = 41 ∧ e1.2.2.1 = k ∧ e1.2.2.2 = 640 ∧ FR h 640 a = some (n0 + (k + 1)) ∧ KD h (n0 + (k + 1)) = 41 ∧ LN h (n0 + (k + 1)) = e1.2.1 ∧ FI h 641 a = 0 := by
  obtain ⟨k, e, rfl, h1, h2, E⟩ := W.kd C (a := a) (by omega) (fun x _ z => by rcases hk x with q | q | q | q | q | q <;> omega)
  rw [ha] at h2
  have g := (ckP_at h1).2.2.2.1 h2
  cases q : tLit[k + 1]? with
  | none => rw [q, opN_n rfl] at g; exact absurd g.1 (by decide)
  | some e1 =>
    rw [q, opN_s rfl, opN_s rfl, opN_s rfl] at g
    obtain ⟨g1, g2, g3⟩ := g
    have E1 := W.2.1 (k + 1) e1 q
    refine ⟨k, e, e1, rfl, h1, h2, q, g1, g2, g3, ?_, E1.1.trans g1, E1.2.1, ?_⟩
    · have l := E1.2.2.1 (by omega) (by omega)
      unfold lkE at l
      rw [g3, g2, if_pos (by decide)] at l
      exact l
    · have := (E.2.2.2.1 641).1
      rw [h2] at this
      exact this.trans (by decide)
theorem Hw.rows (W : Hw G v n0 h0 h) (hk : ∀ a, KD h0 a = 0 ∨ KD h0 a = 30 ∨ KD h0 a = 31 ∨ KD h0 a = 80 ∨ KD h0 a = 81 ∨ KD h0 a = 82) (C : Cn0 G h0) : RowsOk h := by
  refine ⟨fun a ha => ?_, fun a a' ha ha' he => ?_, W.cln C, fun b j hb => ?_, fun b => ?_⟩
  · obtain ⟨k, e, e1, rfl, -, -, -, -, -, -, r1, r2, r3, r4⟩ := W.row hk C ha
    have e2 : rw0 h (n0 + k) = n0 + (k + 1) := by unfold rw0; rw [r1]; rfl
    unfold RowW
    rw [e2, r4]
    exact ⟨r1, r2, Int.le_refl _, Int.natCast_nonneg _⟩
  · obtain ⟨k, e, e1, rfl, -, -, -, -, -, -, r1, -⟩ := W.row hk C ha
    obtain ⟨k', e', e1', rfl, -, -, -, -, -, -, r1', -⟩ := W.row hk C ha'
    unfold rw0 at he
    rw [r1, r1'] at he
    have he : n0 + (k + 1) = n0 + (k' + 1) := he
    omega
  · obtain ⟨k, e, rfl, -, -, E⟩ := W.kd C (a := b) (by omega) (fun x _ z => by rcases hk x with q | q | q | q | q | q <;> omega)
    rw [(E.2.2.2.2 j).1]
    have := iA_rg e.2.2.2 j
    omega
  · rcases Nat.lt_or_ge b n0 with q | q
    · rw [(W.lo q).2.1]; exact C.2.1 b
    · obtain ⟨k, rfl⟩ : ∃ k, b = n0 + k := ⟨b - n0, by omega⟩
      cases z : tLit[k]? with
      | none =>
        have kl : tN ≤ k := by
          rcases Nat.lt_or_ge k tN with y | y
          · rw [List.getElem?_eq_getElem (by rw [tLit_len]; exact y)] at z; cases z
          · exact y
        rw [(W.cln C (n0 + k) (by have := W.2.2.1; omega)).2.1]; omega
      | some e =>
        rw [(W.2.1 k e z).2.1]
        exact (kd_at z).2.2.2.1
set_option maxHeartbeats 1000000 in
theorem Hw.ok (W : Hw G v n0 h0 h) (hk : ∀ a, KD h0 a = 0 ∨ KD h0 a = 30 ∨ KD h0 a = 31 ∨ KD h0 a = 80 ∨ KD h0 a = 81 ∨ KD h0 a = 82) (C : Cn0 G h0) (hG : G 41 = some v) : Ok (shS n0 h0) h := by
  have so : SOk (shS n0 h0) := shS_ok (fun x _ => by rcases hk x with q | q | q | q | q | q <;> omega)
  have hX : sX (shS n0 h0) = n0 := rfl
  have hH : sH (shS n0 h0) = h0 := rfl
  refine ⟨so, W.rows hk C, ⟨fun x hx => ?_, fun f a hf h8 ha => ?_, fun f a j hf ha hj => ?_, fun f a j hf ha hj => ?_, fun a j ha hj => ?_, fun a ha => ?_, fun f a h1 ha => ?_, fun f a j hf ha => ?_, fun a t j ha ht => ?_, fun a ha => ?_, fun a ha => ?_⟩, fun x hx h1 => ?_, fun a j x ha hx hk82 hj => ?_⟩
  · obtain ⟨k, e, rfl, h1, h2, h3, E⟩ := W.at hx
    rw [← h3]
    refine ⟨E.1, E.2.1.trans ?_⟩
    rw [shL]; exact (lqE_e h1).symm
  · obtain ⟨k, i, e, rfl, -, e1, h1, h2, h3, E⟩ := W.fd hf ha
    rw [e1]
    have f4 : f < 1792 := fk_lt hf
    have l := E.2.2.1 (by omega) (by omega)
    unfold lkE at l
    rw [h3, h2, if_pos (by omega)] at l
    exact l
  · exact W.ar (es_ek (Or.inl hf)) ha hj
  · exact ⟨j, hj, W.ar (es_ek (Or.inr hf)) ha hj⟩
  · obtain ⟨k, e, rfl, h1, h2, -, -⟩ := W.at (a := a) (by omega)
    obtain rfl := (kd_at h1).1 (h2.trans ha)
    have e1 : sT (shS n0 h0) 1153 (n0 + 155) = n0 + 158 := tgE_s (by decide +kernel)
    rw [e1]
    refine ⟨n0 + 156, W.2.2.2.2.2.2.1 j hj, ?_⟩
    rw [shK]
    decide +kernel
  · obtain ⟨k, e, rfl, h1, h2, -, -⟩ := W.at (a := a) (by omega)
    have e1 : sT (shS n0 h0) 1288 (sX (shS n0 h0)) = n0 + 155 := tgE_s (k := 0) (by decide +kernel)
    rw [e1]
    rcases (kd_at h1).2.1 (h2.trans ha) with rfl | rfl
    · exact W.2.2.2.2.2.2.2.1
    · exact W.2.2.2.2.2.2.2.2
  · rw [(W.zi h1 f).1, ha]
    exact rg_i f
  · rw [(W.za (by omega) ha j).1]
    exact ag_i hf j
  · have l14 : sL (shS n0 h0) (sT (shS n0 h0) 898 a) = 14 := (so.2.2.1 898 a (by decide) ha).2.1 (by decide)
    rw [(W.ze (f := 898) (by decide) ha (by rw [l14]; exact ht) j).1]
    decide
  · obtain ⟨k, e, rfl, h1, h2, h3, E⟩ := W.at (a := a) (by omega)
    obtain ⟨k', e', e1, q0, -, -, q1, q2, q3, q4, q5, -, q6, -⟩ := W.row hk C (a := n0 + k) (E.1.trans (h3.trans ha))
    obtain rfl : k = k' := by omega
    rw [shC]
    unfold cap rw0 cqE
    rw [q5, kqE_e h1, if_pos (h2.trans ha), lqE_e q1]
    exact Nat.le_of_eq q6.symm
  · obtain ⟨k, e, e1, rfl, -, -, q1, q2, q3, q4, q5, -⟩ := W.row hk C ha
    unfold rw0
    rw [q5]
    show sK (shS n0 h0) (n0 + (k + 1)) = 0
    rw [shK, kqE_e q1]
    unfold kdE
    rw [if_pos ⟨q2, q4⟩]
  · obtain ⟨a1, a2, a3, a4, a5, a6⟩ := W.lo (x := x) hx
    exact ⟨a1, a2, fun f _ => (a3 f).1, fun f _ => (a3 f).2.2, a4, a6⟩
  · obtain ⟨k, e, rfl, h1, h2, -, -⟩ := W.at (a := a) (by omega)
    obtain rfl := (kd_at h1).2.2.1 (h2.trans ha)
    have e1 : sT (shS n0 h0) 513 (n0 + 5) = n0 + 8 := tgE_s (by decide +kernel)
    rw [e1]
    have ev : x = v := by
      have := C.2.2 x hk82
      rw [hG] at this
      exact (Option.some.inj this).symm
    rw [ev]
    exact W.2.2.2.2.2.1.2 j
end ENDOK
