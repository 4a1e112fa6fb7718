/-! what may have changed: the frame of all that is no row alone -/
/-- the addresses in A may have changed, all else is as it was; the room that rows may still take pays what is made -/
def Md (A : Nat → Prop) (h h' : Hp) : Prop := RowsOk h' ∧ (NX h ≤ NX h' ∧ SL h ≤ SL h') ∧ (∀ x, KD h x ≠ 0 → KD h' x = KD h x ∧ LN h' x = LN h x) ∧ (∀ x, KD h' x = 6 → KD h x = 6) ∧
  (∀ x, KD h x ≠ 0 → KD h x ≠ 6 → ¬ A x → (∀ f, f ≠ 641 → FI h' f x = FI h f x) ∧ (∀ f, FL h' f x = FL h f x) ∧ (∀ f, f ≠ 640 → FR h' f x = FR h f x) ∧ AL h' x = AL h x ∧ AR h' x = AR h x ∧ (KD h x ≠ 41 → AI h' x = AI h x)) ∧
  (∀ b, KD h b = 41 → (∀ a, KD h a = 6 → rw0 h a ≠ b) → ¬ A b → AI h' b = AI h b) ∧
  (∀ x, KD h x = 6 → ¬ A x → rl h' x = rl h x) ∧ (∀ x, KD h x = 6 → rw0 h' x = rw0 h x ∨ NX h ≤ rw0 h' x) ∧ (∀ x, KD h x = 6 → cap h x ≤ cap h' x ∧ (¬ A x → cap h' x = cap h x)) ∧
  NX h' + psum potC h' ≤ NX h + psum potC h ∧ SL h' + psum potS h' ≤ SL h + psum potS h
theorem Md.ok {A : Nat → Prop} {h h' : Hp} (m : Md A h h') : RowsOk h' := m.1
theorem Md.kd {A : Nat → Prop} {h h' : Hp} (m : Md A h h') {x n : Nat} (hx : KD h x = n) (hn : n ≠ 0) : KD h' x = n := by have := (m.2.2.1 x (by omega)).1; omega
theorem Md.ln {A : Nat → Prop} {h h' : Hp} (m : Md A h h') {x : Nat} (hx : KD h x ≠ 0) : LN h' x = LN h x := (m.2.2.1 x hx).2
theorem Md.refl {A : Nat → Prop} {h : Hp} (hR : RowsOk h) : Md A h h := ⟨hR, ⟨Nat.le_refl _, Nat.le_refl _⟩, fun _ _ => ⟨rfl, rfl⟩, fun _ q => q, fun _ _ _ _ => ⟨fun _ _ => rfl, fun _ => rfl, fun _ _ => rfl, rfl, rfl, fun _ => rfl⟩, fun _ _ _ _ => rfl, fun _ _ _ => rfl, fun _ _ => Or.inl rfl, fun _ _ => ⟨Nat.le_refl _, fun _ => rfl⟩, Nat.le_refl _, Nat.le_refl _⟩
theorem Rw.md {P : Nat → Prop} {h h' : Hp} (w : Rw P h h') (hR : RowsOk h) : Md P h h' := by
  obtain ⟨w1, ⟨a1, a2, a3, a4, a5, a6, a7, a8, a9, a10⟩, w3, w4, w5, w6, w7⟩ := w
  refine ⟨w1, ⟨a1, a2⟩, a3, a4, fun x hx h6 _ => ⟨fun f hf => by rw [a8 f hf], fun f => by rw [a5], fun f hf => by rw [a9 f hf], by rw [a6], by rw [a7], fun h41 => a10 x hx (fun a ha q => h41 (by rw [← q]; exact (hR.1 a ha).2.1))⟩, fun b hb hx _ => a10 b (by omega) hx, w3, w4, w5, w6, w7⟩
theorem Md.mono {A B : Nat → Prop} {h h' : Hp} (hAB : ∀ x, A x → B x) (m : Md A h h') : Md B h h' := by
  obtain ⟨m1, m2, m3, m4, m5, m6, m7, m8, m9, m10, m11⟩ := m
  exact ⟨m1, m2, m3, m4, fun x hx h6 hn => m5 x hx h6 fun z => hn (hAB x z), fun b hb hx hn => m6 b hb hx fun z => hn (hAB b z), fun x hx hn => m7 x hx fun z => hn (hAB x z), m8, fun x hx => ⟨(m9 x hx).1, fun hn => (m9 x hx).2 fun z => hn (hAB x z)⟩, m10, m11⟩
theorem Md.trans {A : Nat → Prop} {h h1 h2 : Hp} (hR : RowsOk h) (m : Md A h h1) (n : Md A h1 h2) : Md A h h2 := by
  have k : ∀ {x q : Nat}, KD h x = q → q ≠ 0 → KD h1 x = q := fun hx hq => m.kd hx hq
  obtain ⟨m1, m2, m3, m4, m5, m6, m7, m8, m9, m10, m11⟩ := m
  obtain ⟨n1, n2, n3, n4, n5, n6, n7, n8, n9, n10, n11⟩ := n
  have lt : ∀ x, KD h x ≠ 0 → x < NX h := fun x hx => by
    rcases Nat.lt_or_ge x (NX h) with q | q
    · exact q
    · exact absurd (hR.2.2.1 x q).1 hx
  refine ⟨n1, ⟨by omega, by omega⟩, fun x hx => ?_, fun x hx => m4 x (n4 x hx), fun x hx h6 hn => ?_, fun b hb hx hn => ?_, fun x hx hn => (n7 x (k hx (by decide)) hn).trans (m7 x hx hn), fun x hx => ?_, fun x hx => ⟨Nat.le_trans (m9 x hx).1 (n9 x (k hx (by decide))).1, fun hn => ((n9 x (k hx (by decide))).2 hn).trans ((m9 x hx).2 hn)⟩, Nat.le_trans n10 m10, Nat.le_trans n11 m11⟩
  · have := m3 x hx
    have := n3 x (by omega)
    omega
  · have e := (m3 x hx).1
    obtain ⟨a1, a2, a3, a4, a5, a6⟩ := m5 x hx h6 hn
    obtain ⟨b1, b2, b3, b4, b5, b6⟩ := n5 x (by omega) (by omega) hn
    exact ⟨fun f hf => (b1 f hf).trans (a1 f hf), fun f => (b2 f).trans (a2 f), fun f hf => (b3 f hf).trans (a3 f hf), b4.trans a4, b5.trans a5, fun h41 => (b6 (by omega)).trans (a6 h41)⟩
  · have hbl := lt b (by omega)
    refine (n6 b (k hb (by decide)) (fun a ha q => ?_) hn).trans (m6 b hb hx hn)
    have h6 := m4 a ha
    rcases m8 a h6 with e | e
    · exact hx a h6 (by rw [← e]; exact q)
    · omega
  · rcases n8 x (k hx (by decide)) with e | e
    · rw [e]; exact m8 x hx
    · exact Or.inr (by omega)
theorem St.md {A : Nat → Prop} {h h' : Hp} {g : Nat} {bs : List Nat} (m : Md A h h') (hA : ∀ x, A x → KD h x ≠ 30 ∧ KD h x ≠ 81) (x : St h g bs) : St h' g bs := by
  obtain ⟨x1, x2, v, x3, x4, x5, x6, x7, x8⟩ := x
  obtain ⟨a1, a2, a3, -⟩ := m.2.2.2.2.1 g (by omega) (by omega) (fun q => (hA g q).1 x1)
  obtain ⟨-, -, -, -, -, b6⟩ := m.2.2.2.2.1 v (by omega) (by omega) (fun q => (hA v q).2 x4)
  refine ⟨m.kd x1 (by decide), by rw [a1 2049 (by decide)]; exact x2, v, by rw [a3 2048 (by decide)]; exact x3, m.kd x4 (by decide), by rw [m.ln (by omega)]; exact x5, fun j hj => ?_, x7, x8⟩
  rw [b6 (by omega)]
  exact x6 j hj
