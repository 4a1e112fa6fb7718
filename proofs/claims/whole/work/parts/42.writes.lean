/-! single writes -/
theorem Md.of1 {h h' : Hp} {x : Nat} (hR : RowsOk h) (hk : KD h x ≠ 0) (h6 : KD h x ≠ 6) (hown : ∀ a, KD h a = 6 → rw0 h a ≠ x) (e1 : KD h' = KD h) (e2 : LN h' = LN h) (e3 : NX h' = NX h) (e4 : SL h' = SL h)
    (e5 : ∀ y, y ≠ x → (∀ f, FI h' f y = FI h f y ∧ FL h' f y = FL h f y ∧ FR h' f y = FR h f y) ∧ AI h' y = AI h y ∧ AL h' y = AL h y ∧ AR h' y = AR h y) (e6 : KD h x = 41 → ∀ j, -128 ≤ AI h' x j ∧ AI h' x j < 128) : Md (fun y => y = x) h h' := by
  obtain ⟨r1, r2, r3, r4, r5⟩ := hR
  have ne : ∀ a, KD h a = 6 → a ≠ x := fun a ha q => h6 (by rw [← q]; exact ha)
  have rw' : ∀ a, KD h a = 6 → rw0 h' a = rw0 h a := fun a ha => by unfold rw0; rw [((e5 a (ne a ha)).1 640).2.2]
  have cp : ∀ a, KD h a = 6 → cap h' a = cap h a := fun a ha => by unfold cap; rw [e2, rw' a ha]
  have hrl : ∀ a, KD h a = 6 → rl h' a = rl h a := fun a ha => by
    unfold rl
    rw [((e5 a (ne a ha)).1 641).1, rw' a ha, (e5 _ (hown a ha)).2.1]
  refine ⟨⟨fun a ha => ?_, fun a b ha hb q => ?_, fun y hy => ?_, fun b j hb => ?_, fun b => by rw [e2]; exact r5 b⟩, ⟨by omega, by omega⟩, fun y _ => ⟨by rw [e1], by rw [e2]⟩, fun y q => by rw [← e1]; exact q, fun y hy hy6 hn => ?_, fun b hb _ hn => (e5 b hn).2.1, fun y hy _ => hrl y hy, fun y hy => Or.inl (rw' y hy), fun y hy => ⟨by rw [cp y hy]; exact Nat.le_refl _, fun _ => cp y hy⟩, ?_, ?_⟩
  · rw [e1] at ha
    obtain ⟨w1, w2, w3, w4⟩ := r1 a ha
    unfold RowW
    rw [rw' a ha, e1, cp a ha, ((e5 a (ne a ha)).1 640).2.2, ((e5 a (ne a ha)).1 641).1]
    exact ⟨w1, w2, w3, w4⟩
  · rw [e1] at ha hb
    rw [rw' a ha, rw' b hb] at q
    exact r2 a b ha hb q
  · rw [e3] at hy
    obtain ⟨a1, a2, a3, a4⟩ := r3 y hy
    have hyx : y ≠ x := fun q => hk (by rw [← q]; exact a1)
    obtain ⟨b1, b2, b3, b4⟩ := e5 y hyx
    rw [e1, e2, b2, b3, b4]
    exact ⟨a1, a2, fun f => by rw [(b1 f).1, (b1 f).2.1, (b1 f).2.2]; exact a3 f, a4⟩
  · rw [e1] at hb
    by_cases hbx : b = x
    · subst hbx
      exact e6 hb j
    · rw [(e5 b hbx).2.1]
      exact r4 b j hb
  · obtain ⟨b1, b2, b3, b4⟩ := e5 y hn
    exact ⟨fun f _ => (b1 f).1, fun f => (b1 f).2.1, fun f _ => (b1 f).2.2, b3, b4, fun _ => b2⟩
  · rw [psum_eq e3 (fun y => by rw [e1]) cp, e3]
    exact Nat.le_refl _
  · rw [psum_eq e3 (fun y => by rw [e1]) cp, e4]
    exact Nat.le_refl _
theorem own41 {h : Hp} {x : Nat} (hR : RowsOk h) (h41 : KD h x ≠ 41) : ∀ a, KD h a = 6 → rw0 h a ≠ x := fun a ha q => h41 (by rw [← q]; exact (hR.1 a ha).2.1)
section WRITES
variable {h : Hp} {x f j : Nat}
theorem Md.sFI {v : Int} (hR : RowsOk h) (hk : KD h x ≠ 0) (h6 : KD h x ≠ 6) (h41 : KD h x ≠ 41) : Md (fun y => y = x) h (sFI h f x v) :=
  Md.of1 hR hk h6 (own41 hR h41) rfl rfl rfl rfl (fun y hy => ⟨fun g => ⟨by rw [FI_sFI, if_neg (fun q => hy q.2)], rfl, rfl⟩, rfl, rfl, rfl⟩) (fun q => absurd q h41)
theorem Md.sFL {v : Int64} (hR : RowsOk h) (hk : KD h x ≠ 0) (h6 : KD h x ≠ 6) (h41 : KD h x ≠ 41) : Md (fun y => y = x) h (sFL h f x v) :=
  Md.of1 hR hk h6 (own41 hR h41) rfl rfl rfl rfl (fun y hy => ⟨fun g => ⟨rfl, by rw [FL_sFL, if_neg (fun q => hy q.2)], rfl⟩, rfl, rfl, rfl⟩) (fun q => absurd q h41)
theorem Md.sFR {v : Option Nat} (hR : RowsOk h) (hk : KD h x ≠ 0) (h6 : KD h x ≠ 6) (h41 : KD h x ≠ 41) : Md (fun y => y = x) h (sFR h f x v) :=
  Md.of1 hR hk h6 (own41 hR h41) rfl rfl rfl rfl (fun y hy => ⟨fun g => ⟨rfl, rfl, by rw [FR_sFR, if_neg (fun q => hy q.2)]⟩, rfl, rfl, rfl⟩) (fun q => absurd q h41)
theorem Md.sAI {v : Int} (hR : RowsOk h) (hk : KD h x ≠ 0) (h6 : KD h x ≠ 6) (hown : ∀ a, KD h a = 6 → rw0 h a ≠ x) (hv : KD h x = 41 → -128 ≤ v ∧ v < 128) : Md (fun y => y = x) h (sAI h x j v) :=
  Md.of1 hR hk h6 hown rfl rfl rfl rfl (fun y hy => ⟨fun g => ⟨rfl, rfl, rfl⟩, by funext i; rw [AI_sAI, if_neg (fun q => hy q.1)], rfl, rfl⟩) (fun q i => by
    rw [AI_sAI]
    split
    · exact hv q
    · exact hR.2.2.2.1 x i q)
theorem Md.sAL {v : Int64} (hR : RowsOk h) (hk : KD h x ≠ 0) (h6 : KD h x ≠ 6) (h41 : KD h x ≠ 41) : Md (fun y => y = x) h (sAL h x j v) :=
  Md.of1 hR hk h6 (own41 hR h41) rfl rfl rfl rfl (fun y hy => ⟨fun g => ⟨rfl, rfl, rfl⟩, rfl, by funext i; rw [AL_sAL, if_neg (fun q => hy q.1)], rfl⟩) (fun q => absurd q h41)
theorem Md.sAR {v : Option Nat} (hR : RowsOk h) (hk : KD h x ≠ 0) (h6 : KD h x ≠ 6) (h41 : KD h x ≠ 41) : Md (fun y => y = x) h (sAR h x j v) :=
  Md.of1 hR hk h6 (own41 hR h41) rfl rfl rfl rfl (fun y hy => ⟨fun g => ⟨rfl, rfl, rfl⟩, rfl, rfl, by funext i; rw [AR_sAR, if_neg (fun q => hy q.1)]⟩) (fun q => absurd q h41)
end WRITES
