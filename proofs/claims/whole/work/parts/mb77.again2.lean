/-! the tie: a book done again; refused and shown -/
theorem cInv.up {k n : Nat} {v w : HoS} (I : cInv k v w) (h : k ≤ n) : cInv n v w := ⟨I.1.up h, I.2.1, I.2.2.1.up h, I.2.2.2⟩
/-- the reference's house forgotten -/
def mNo (w : HoS) : HoS := (([], [], []), [], (w.2.2.1, (seNo w.2.2).2))
theorem cInv.no {k : Nat} {v w : HoS} (I : cInv k v w) : cInv (k + 1) (hoNo v) (mNo w) := by
  obtain ⟨i1, i2, i3, i4, i5, i6, i7⟩ := I
  have t := i2.ca (t := 0) (a := ([], [], ([], [], [], [], [], 0), fun _ => 0)) (fun q => absurd q (by decide)) (fun q => absurd q (by decide))
  have u := i3.ca (t := 0) (a := ([], [], ([], [], [], [], [], 0), fun _ => 0)) (fun q => absurd q (by decide)) (fun q => absurd q (by decide)) (fun q => absurd q (by decide)) (fun q => absurd q (by decide))
  unfold caM caS at t
  unfold caM at u
  rw [if_pos rfl, if_pos rfl] at t
  rw [if_pos rfl] at u
  exact ⟨i1.no.up (by omega), t.1, u, ⟨fun x hx => absurd hx List.not_mem_nil, i4.2.1, i4.2.2⟩, ruI_0, List.Pairwise.nil, fun _ => Nat.zero_le _⟩
theorem md_tie {B : Nat → Nat} : ∀ (f : Nat) {k a n : Nat} {v w : HoS}, cInv k v w → a ≤ 2048 → (mdM B f w a n).2 = (mdS 24 B f v a n).2 ∧ ∃ j, (mdM B f w a n).2.2 = n + j ∧ a + 3 * j ≤ (mdM B f w a n).2.1 ∧ (mdM B f w a n).2.1 ≤ 2048 ∧ cInv (k + j) (mdS 24 B f v a n).1 (mdM B f w a n).1
  | 0, k, a, n, v, w, I, ha => ⟨rfl, 0, rfl, Nat.le_refl _, ha, I⟩
  | f + 1, k, a, n, v, w, I, ha => by
    have rf := I.2.1.rf (recL B a)
    by_cases q : mdC B a v
    · have q2 : mdC B a w := ⟨q.1, q.2.1, q.2.2.1, rf.trans q.2.2.2⟩
      have C := (I.ca (l := recL B a) q.2.1 q.2.2.2).1
      have g1 := q.1.2.1
      have g2 := q.1.2.2.2.1
      have e1 : mdS 24 B (f + 1) v a n = mdS 24 B f (caS 24 (qrT (recL B a)) (qrA (recL B a) (qrN (recL B a))) v).1 (a + ((recL B a).length + 2)) (n + 1) := by rw [mdS, if_pos q]
      have e2 : mdM B (f + 1) w a n = mdM B f (caM (qrT (recL B a)) (qrA (recL B a) (qrN (recL B a))) w).1 (a + ((recL B a).length + 2)) (n + 1) := by rw [mdM, if_pos q2]
      rw [e1, e2]
      have ih := md_tie (B := B) f (n := n + 1) C (a := a + ((recL B a).length + 2)) (by rw [recL_len]; omega)
      obtain ⟨r1, j, r2, r3, r4, r5⟩ := ih
      rw [recL_len] at r3
      exact ⟨r1, j + 1, by rw [r2]; omega, by rw [recL_len]; omega, r4, by rw [show k + (j + 1) = k + 1 + j by omega]; exact r5⟩
    · have q2 : ¬ mdC B a w := fun z => q ⟨z.1, z.2.1, z.2.2.1, rf.symm.trans z.2.2.2⟩
      have e1 : mdS 24 B (f + 1) v a n = (v, a, n) := mdS_no q
      have e2 : mdM B (f + 1) w a n = (w, a, n) := mdM_no q2
      rw [e1, e2]
      exact ⟨rfl, 0, rfl, Nat.le_refl _, ha, I⟩
/-- what is shown is the same -/
theorem shT_tie {v w : HoS} (T : tie v w) {t : Nat} (ht : t ≠ 13 ∧ t ≠ 19) (n : List Nat) (sel : Nat → Bool) (cu : Bool) : shT t w n sel cu = shT t v n sel cu := by
  have fx := T.1.fx n
  obtain ⟨⟨vf, vg⟩, vr, vp, vz⟩ := v
  obtain ⟨⟨wf, wg⟩, wr, wp, wz⟩ := w
  obtain ⟨t1, t2, t3, t4⟩ := T
  have e1 : wg = vg := t1.1
  have e2 : vr = wr := t2
  have e3 : vz = wz := t3
  subst e1 e2 e3
  unfold shT
  rw [if_neg ht.1, if_neg ht.1]
  by_cases q : t = 14
  · rw [if_pos q, if_pos q]
    show (if fix wf n < 0 then txt 29 else (fB wf (fix wf n).toNat).map told) = (if fix vf n < 0 then txt 29 else (fB vf (fix vf n).toNat).map told)
    have fx1 : fix wf n < 0 ↔ fix vf n < 0 := fx.1
    by_cases z : fix wf n < 0
    · rw [if_pos z, if_pos (fx1.mp z)]
    · have fx2 : fB wf (fix wf n).toNat = fB vf (fix vf n).toNat := fx.2 (by show 0 ≤ fix wf n; omega)
      rw [if_neg z, if_neg (fun y => z (fx1.mpr y)), fx2]
  rw [if_neg q, if_neg q]
  by_cases q : t = 15
  · rw [if_pos q, if_pos q]
  rw [if_neg q, if_neg q]
  by_cases q : t = 16
  · rw [if_pos q, if_pos q]; rfl
  rw [if_neg q, if_neg q]
  by_cases q : t = 17
  · rw [if_pos q, if_pos q]; rfl
  rw [if_neg q, if_neg q]
  by_cases q : t = 18
  · rw [if_pos q, if_pos q]; rfl
  rw [if_neg q, if_neg q, if_neg ht.2, if_neg ht.2]
  rfl
/-- names of a run -/
theorem runT_e {ts ts' : List (Bool × TgV)} {l : List Nat} (h : ∀ t ∈ l, tgN (tD ts t) = tgN (tD ts' t)) : ∀ i, i ≤ l.length → runT ts l i = runT ts' l i
  | 0, _ => rfl
  | i + 1, hi => by
    rw [runT, runT, runT_e h i (by omega)]
    have m : l.getD i 0 ∈ l := by rw [List.getD_eq_getElem?_getD, List.getElem?_eq_getElem (by omega)]; exact List.getElem_mem _
    rw [h _ m]
theorem cInv.run {k : Nat} {v w : HoS} (I : cInv k v w) : runT (sePl w.2.2).2.2 (rR (goR (seGo w.2.2))) (rR (goR (seGo w.2.2))).length = runT v.1.2.2 (rR (goR (seGo v.2.2))) (rR (goR (seGo v.2.2))).length := by
  obtain ⟨i1, i2, i3, i4, i5, i6, i7⟩ := I
  have e : seGo v.2.2 = seGo w.2.2 := by unfold seGo; rw [i2.2.2.1]
  rw [e]
  refine runT_e (fun t ht => ?_) _ (Nat.le_refl _)
  rcases i2.2.2.2 with z | ⟨-, z⟩
  · have e2 : (sePl w.2.2).2.2 = (sePl v.2.2).2.2 := by rw [z.1]
    have lt := i5.2 t ht
    rw [e2] at lt ⊢
    exact i1.1.2.2.2 t lt
  · rw [z] at ht; exact absurd ht List.not_mem_nil
