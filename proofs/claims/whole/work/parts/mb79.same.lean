/-! the tie: an answer and the same answer -/
theorem vw_pos : ∀ t : Fin 35, 0 < (vw t.val).length := by decide +kernel
theorem qr_pos {l : List Nat} (e : qrR l = true) : 0 < l.length := by
  have b := qrB_le (l := l)
  unfold qrR at e
  simp only [Bool.and_eq_true] at e
  obtain ⟨t, ht⟩ := Option.isSome_iff_exists.mp e.1
  have g := (vbR_le (l := l) 35 0 0 (Nat.zero_le _)).2 t ht
  have p := vw_pos ⟨t, by omega⟩
  unfold qrB at b
  rw [g.2.2.1] at b
  simp only at p
  omega
/-- what is owed of all worked anew -/
def anwQ (v w : HoS) (l : List Nat) (LZ : Nat) : Prop := ∀ T T', qrT l = 21 → 0 ≤ tat w.1.2.2 (qrA l (qrN l)).1 → anR w (tat w.1.2.2 (qrA l (qrN l)).1).toNat T' → chR 21 v LZ (tat v.1.2.2 (qrA l (qrN l)).1) (tat v.1.2.2 (qrA l (qrN l)).1) T → T' = T
theorem rf_0 {l : List Nat} {v : HoS} (h : qrT l = 0) : rfQ l v = 19 := by
  unfold rfQ refN
  rw [h]
  rfl
theorem an_tie {k LZ : Nat} {l T T' : List Nat} {v w v' w' : HoS} {b b' b2 : BkV} (I : cInv k v w) (A : askR 24 LZ l v b v' b' T) (AQ : anwQ v w l LZ) (N : anM w b l T w' b2 T') : (∃ j, j ≤ 684 ∧ cInv (k + j) v' w') ∧ b2 = b' ∧ T' = T := by
  unfold anM at N
  by_cases er : qrR l = false
  · rw [if_pos er] at N
    rcases A with ⟨a1, -⟩ | ⟨-, A⟩
    · rw [er] at a1; exact absurd a1 Bool.noConfusion
    · unfold ansR at A
      rw [if_pos er] at A
      obtain ⟨n1, n2, n3⟩ := N
      obtain ⟨a1, a2, a3⟩ := A
      exact ⟨⟨0, by omega, by rw [a1, n1]; exact I⟩, n2.trans a2.symm, n3.trans a3.symm⟩
  rw [if_neg er] at N
  have er' : qrR l = true := by
    cases z : qrR l with
    | true => rfl
    | false => exact absurd z er
  have t35 := (qr_ok er').2
  by_cases s34 : qrT l = 34
  · rw [if_neg (fun z => z.2.1 s34), if_pos s34] at N
    rcases A with ⟨-, -, a1, a2, a3⟩ | ⟨a0, -⟩
    · obtain ⟨n1, n2, n3⟩ := N
      obtain ⟨m1, j, m2, m3, m4, m5⟩ := md_tie (B := b.1) 2048 (a := 0) (n := 0) I.no (Nat.zero_le _)
      have e1 : (mdM b.1 2048 (mNo w) 0 0).2.1 = (mdS 24 b.1 2048 (hoNo v) 0 0).2.1 := by rw [m1]
      have e2 : (mdM b.1 2048 (mNo w) 0 0).2.2 = (mdS 24 b.1 2048 (hoNo v) 0 0).2.2 := by rw [m1]
      refine ⟨⟨1 + j, by omega, by rw [a1, n1, show k + (1 + j) = k + 1 + j by omega]; exact m5⟩, ?_, ?_⟩
      · rw [n2, a2, ← e1]; rfl
      · rw [n3, a3, ← e2]; rfl
    · exact absurd ⟨er', s34⟩ a0
  rcases A with ⟨-, a0, -⟩ | ⟨-, A⟩
  · exact absurd a0 s34
  unfold ansR at A
  rw [if_neg er] at A
  by_cases sh : b.2.2.2 = true ∧ qrT l ≠ 0
  · rw [if_pos sh] at A
    rw [if_pos ⟨sh.1, s34, sh.2⟩] at N
    obtain ⟨n1, n2, n3⟩ := N
    obtain ⟨a1, a2, a3⟩ := A
    exact ⟨⟨0, by omega, by rw [a1, n1]; exact I⟩, n2.trans a2.symm, n3.trans a3.symm⟩
  rw [if_neg sh] at A
  rw [if_neg (fun z => sh ⟨z.1, z.2.2⟩), if_neg s34] at N
  obtain ⟨k1, k2, k3⟩ := kd_e ⟨qrT l, t35⟩
  simp only at k1 k2 k3
  by_cases s33 : qrT l = 33
  · rw [if_pos s33] at N
    have c2 : ¬ kd (qrT l) = 2 := by rw [s33]; decide
    have c3 : ¬ kd (qrT l) = 3 := by rw [s33]; decide
    have c1 : kd (qrT l) = 1 := by rw [s33]; decide
    rw [if_neg c2, if_neg c3, if_pos c1] at A
    obtain ⟨n1, cu, n2, n3, n4⟩ := N
    obtain ⟨a1, sel, cu2, -, a2, a3, a4⟩ := A
    have ec : cu = cu2 := Bool.eq_iff_iff.mpr (n2.trans (a2 s33).symm)
    subst ec
    refine ⟨⟨0, by omega, by rw [a1, n1]; exact I⟩, ?_, ?_⟩
    · rw [n3, a3]
      by_cases z : cu = true
      · rw [if_pos z, if_pos ⟨s33, z⟩]
      · rw [if_neg z, if_neg (fun y => z y.2)]
    · rw [n4, a4, s33]
      unfold shT
      rfl
  rw [if_neg s33] at N
  by_cases h12 : 12 < qrT l
  · rw [if_pos h12] at N
    obtain ⟨n1, n2, n3⟩ := N
    have AA : v' = v ∧ b' = b ∧ (qrT l = 21 → chR 21 v LZ (tat v.1.2.2 (qrA l (qrN l)).1) (tat v.1.2.2 (qrA l (qrN l)).1) T) := by
      by_cases c2 : kd (qrT l) = 2
      · rw [if_pos c2] at A
        refine ⟨A.1, A.2.1, fun z => ?_⟩
        have C := A.2.2
        rw [if_neg (by omega), z] at C
        exact C
      rw [if_neg c2] at A
      have n21 : qrT l ≠ 21 := fun z => c2 (by rw [z]; decide)
      by_cases c3 : kd (qrT l) = 3
      · rw [if_pos c3] at A
        exact ⟨A.1, A.2.1, fun z => absurd z n21⟩
      rw [if_neg c3] at A
      have c1 : kd (qrT l) = 1 := by
        have d0 := kd_0 ⟨qrT l, t35⟩
        simp only at d0
        exact Classical.byContradiction (fun z => by have := d0 z c2 c3; omega)
      rw [if_pos c1] at A
      obtain ⟨a1, sel, cu2, -, a2, a3, a4⟩ := A
      exact ⟨a1, by rw [a3, if_neg (fun y => s33 y.1)], fun z => absurd z n21⟩
    refine ⟨⟨0, by omega, by rw [AA.1, n1]; exact I⟩, n2.trans AA.2.1.symm, ?_⟩
    rcases n3 with z | ⟨z1, z2, z3⟩
    · exact z
    · exact AQ T T' z1 z2 z3 (AA.2.2 z1)
  rw [if_neg h12] at N
  have c1 : ¬ kd (qrT l) = 1 := fun z => by
    have m := k1.mp z
    simp only [List.mem_cons, List.not_mem_nil, or_false] at m
    omega
  have c2 : ¬ kd (qrT l) = 2 := fun z => by
    have m := k2.mp z
    simp only [List.mem_cons, List.not_mem_nil, or_false] at m
    omega
  have c3 : ¬ kd (qrT l) = 3 := fun z => by
    have m := k3.mp z
    simp only [List.mem_cons, List.not_mem_nil, or_false] at m
    omega
  rw [if_neg c2, if_neg c3, if_neg c1] at A
  have rf := I.2.1.rf l
  have lp := qr_pos er'
  by_cases h0 : qrT l = 0
  · have r19 := rf_0 (v := v) h0
    have l2 := qr_0 er' h0
    have eb : (bk0 true (qrT l) b).2.1 = 0 := by unfold bk0; rw [if_pos ⟨rfl, h0⟩]
    rw [if_pos ⟨r19, lp, l2, by rw [eb]; omega⟩] at A
    rw [if_pos ⟨rf.trans r19, Or.inl h0⟩] at N
    obtain ⟨n1, n2, n3⟩ := N
    obtain ⟨a1, a2, a3⟩ := A
    have C := I.ca er' r19
    exact ⟨⟨1, by omega, by rw [a1, n1]; exact C.1⟩, n2.trans a2.symm, by rw [n3, a3, C.2]⟩
  · have eb : bk0 true (qrT l) b = b := by unfold bk0; rw [if_neg (fun z => h0 z.2)]
    rw [eb] at A N
    by_cases c : rfQ l v = 19 ∧ (0 < l.length ∧ l.length ≤ 200 ∧ b.2.1 + l.length + 2 ≤ 2048)
    · rw [if_pos c] at A
      rw [if_pos ⟨rf.trans c.1, Or.inr c.2.2⟩] at N
      obtain ⟨n1, n2, n3⟩ := N
      obtain ⟨a1, a2, a3⟩ := A
      have C := I.ca er' c.1
      exact ⟨⟨1, by omega, by rw [a1, n1]; exact C.1⟩, n2.trans a2.symm, by rw [n3, a3, C.2]⟩
    · rw [if_neg c] at A
      rw [if_neg (fun z => c ⟨rf.symm.trans z.1, lp, z.2.elim (fun y => absurd y h0) id⟩)] at N
      obtain ⟨n1, n2, n3⟩ := N
      obtain ⟨a1, a2, a3⟩ := A
      exact ⟨⟨0, by omega, by rw [a1, n1]; exact I⟩, n2.trans a2.symm, by rw [n3, a3, rf]⟩
