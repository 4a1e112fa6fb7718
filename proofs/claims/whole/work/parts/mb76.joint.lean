/-! the tie: what stays so of both houses -/
def ruI (P : PlV) (r : RunV) : Prop := rF r < P.2.2.length ∧ ∀ t ∈ rR r, t < P.2.2.length
section RUI
variable {P : PlV} {nd : Nat → Nat} {s : GoV} {L w : Nat}
theorem tn1_ru (I : ruI P (goR s)) : ruI P (goR (tn1 P nd w s)) := by
  unfold tn1
  split
  · rename_i q
    have cl : (cho P nd (goR s)).toNat < P.2.2.length := by
      have g := (chs_rg P.2.2 nd (rE (goR s)) (rH (goR s))).2
      have q2 := q.2
      unfold cho at q2 ⊢
      omega
    generalize (cho P nd (goR s)).toNat = t at cl
    show ruI P (tkR P s.1 s.2.2.2.1 (goR s) w t)
    unfold tkR
    split
    · exact I
    · split
      · exact I
      · split
        · refine ⟨I.1, fun u hu => ?_⟩
          have hu : u ∈ rR (goR s) ++ [t] := hu
          rcases List.mem_append.mp hu with y | y
          · exact I.2 u y
          · rw [List.mem_singleton.mp y]; exact cl
        · exact I
  · exact I
theorem tn2_ru (hw : w < 2) (N : NdI P nd (goR s)) (I : ruI P (goR s)) : ruI P (goR (tn2 P L w s)) := by
  unfold tn2
  split
  · exact I
  · rename_i q
    split
    · exact I
    · obtain ⟨t, ht⟩ : ∃ t : Nat, rH (goR s) w = (t : Int) := ⟨(rH (goR s) w).toNat, by omega⟩
      have tl := (N.2 w hw t ht).1
      have et : (rH (goR s) w).toNat = t := by omega
      rw [et]
      have g : ∀ s1 : GoV, rF (goR s1) = rF (goR s) → rR (goR s1) = rR (goR s) → ruI P (goR (fnG L w t s1)) := fun s1 e1 e2 => by
        show ruI P (fnR (goR s1) w t)
        unfold fnR
        split
        · exact ⟨by show rF (goR s1) < _; rw [e1]; exact I.1, fun u hu => I.2 u (by rw [← e2]; exact hu)⟩
        · split
          · exact ⟨by show (t : Int) < _; omega, fun u hu => I.2 u (by rw [← e2]; exact hu)⟩
          · exact ⟨by show rF (goR s1) < _; rw [e1]; exact I.1, fun u hu => I.2 u (by rw [← e2]; exact hu)⟩
      refine g _ ?_ ?_
      · unfold wrG; split <;> rfl
      · unfold wrG; split <;> rfl
theorem goG_ru : ∀ {n : Nat} {s : GoV} {g : Bool} {k : Nat}, NdI P nd (goR s) → ruI P (goR s) → ruI P (goR (goG P nd L n s g k).1)
  | 0, s, g, k, N, I => I
  | n + 1, s, g, k, N, I => by
    rw [goG]
    split
    · refine goG_ru (trs_nd N) ?_
      have n1 : NdI P nd (goR (tn1 P nd 0 s)) := tn1_nd N
      have n2 : NdI P nd (goR (trn P nd L 0 s)) := tn2_nd (by decide) n1
      have n3 : NdI P nd (goR (tn1 P nd 1 (trn P nd L 0 s))) := tn1_nd n2
      exact tn2_ru (by decide) n3 (tn1_ru (tn2_ru (by decide) n1 (tn1_ru I)))
    · exact I
end RUI
/-- both houses: k bounds how much was done -/
def cInv (k : Nat) (v w : HoS) : Prop := hInv k v ∧ tie v w ∧ wInv k w ∧ clG (seGo w.2.2) ∧ ruI (sePl w.2.2) (goR (seGo w.2.2)) ∧ srtF v.1.1 ∧ ∀ u, seNd w.2.2 u ≤ 1
theorem plE.mem {P Q : PlV} (e : plE P Q) : ∀ x, x ∈ Q.1 ↔ x ∈ P.1 := fun x => (e.2.1 x).symm
theorem ruI_0 {P : PlV} {r : RunV} : ruI P (run0 r) := ⟨by show (-1 : Int) < _; omega, fun t ht => absurd ht List.not_mem_nil⟩
/-- the session behind a told request -/
theorem caM_cs {t : Nat} {a : ArV} {w : HoS} {M : PlV → (Nat → Nat) → GoV → Prop} (h0 : M (sePl w.2.2) (fun _ => 0) (seNo w.2.2).2.2.2.2.1) (h6 : M w.1 (ndF w.1.2.2 (tat w.1.2.2 a.1).toNat) (go0 (seGo w.2.2))) (h7 : M (sePl w.2.2) (seNd w.2.2) (gonP w.2.2 (a.2.2.2 0).toNat).1) (h8 : M (sePl w.2.2) (seNd w.2.2) ((seGo w.2.2).1, (seGo w.2.2).2.1, (seGo w.2.2).2.2.1, (seGo w.2.2).2.2.2.1, rsH (goR (seGo w.2.2)) (fun _ => -1))) (hs : M (sePl w.2.2) (seNd w.2.2) (seGo w.2.2)) : M (sePl (caM t a w).1.2.2) (seNd (caM t a w).1.2.2) (seGo (caM t a w).1.2.2) := by
  unfold caM
  by_cases q0 : t = 0
  · rw [if_pos q0]; exact h0
  rw [if_neg q0]
  by_cases q1 : t = 1
  · rw [if_pos q1]; exact hs
  rw [if_neg q1]
  by_cases q2 : t = 2
  · rw [if_pos q2]; exact hs
  rw [if_neg q2]
  by_cases q7 : t = 7
  · rw [if_pos q7]; exact h7
  rw [if_neg q7]
  unfold caS
  rw [if_neg q0, if_neg q1, if_neg q2]
  by_cases q3 : t = 3
  · rw [if_pos q3]; exact hs
  rw [if_neg q3]
  by_cases q4 : t = 4
  · rw [if_pos q4]; exact hs
  rw [if_neg q4]
  by_cases q5 : t = 5
  · rw [if_pos q5]; exact hs
  rw [if_neg q5]
  by_cases q6 : t = 6
  · rw [if_pos q6]; exact h6
  rw [if_neg q6]
  rw [if_neg q7]
  by_cases q8 : t = 8
  · rw [if_pos q8]; exact h8
  rw [if_neg q8]
  by_cases q9 : t = 9
  · rw [if_pos q9]; exact hs
  rw [if_neg q9]
  by_cases q10 : t = 10
  · rw [if_pos q10]; exact hs
  rw [if_neg q10]
  by_cases q11 : t = 11
  · rw [if_pos q11]; exact hs
  rw [if_neg q11]
  exact hs
theorem caS_f {L t : Nat} {a : ArV} {v : HoS} {M : List (List Nat × List Nat) → Prop} (h0 : M []) (h1 : t = 1 → M (flPut v.1.1 a.1 a.2.1)) (h2 : M (flDrop v.1.1 a.1)) (hs : M v.1.1) : M (caS L t a v).1.1.1 := by
  unfold caS
  by_cases q0 : t = 0
  · rw [if_pos q0]; exact h0
  rw [if_neg q0]
  by_cases q1 : t = 1
  · rw [if_pos q1]; exact h1 q1
  rw [if_neg q1]
  by_cases q2 : t = 2
  · rw [if_pos q2]; exact h2
  rw [if_neg q2]
  by_cases q3 : t = 3
  · rw [if_pos q3]; exact hs
  rw [if_neg q3]
  by_cases q4 : t = 4
  · rw [if_pos q4]; exact hs
  rw [if_neg q4]
  by_cases q5 : t = 5
  · rw [if_pos q5]; exact hs
  rw [if_neg q5]
  by_cases q6 : t = 6
  · rw [if_pos q6]; exact hs
  rw [if_neg q6]
  by_cases q7 : t = 7
  · rw [if_pos q7]; exact hs
  rw [if_neg q7]
  by_cases q8 : t = 8
  · rw [if_pos q8]; exact hs
  rw [if_neg q8]
  by_cases q9 : t = 9
  · rw [if_pos q9]; exact hs
  rw [if_neg q9]
  by_cases q10 : t = 10
  · rw [if_pos q10]; exact hs
  rw [if_neg q10]
  by_cases q11 : t = 11
  · rw [if_pos q11]; exact hs
  rw [if_neg q11]
  exact hs
theorem cInv.ca {k : Nat} {l : List Nat} {v w : HoS} (I : cInv k v w) (er : qrR l = true) (h : rfQ l v = 19) : cInv (k + 1) (caS 24 (qrT l) (qrA l (qrN l)) v).1 (caM (qrT l) (qrA l (qrN l)) w).1 ∧ (caM (qrT l) (qrA l (qrN l)) w).2 = (caS 24 (qrT l) (qrA l (qrN l)) v).2 := by
  obtain ⟨i1, i2, i3, i4, i5, i6, i7⟩ := I
  have hw : rfQ l w = 19 := (i2.rf l).trans h
  have J3 := i3.rq er hw
  have J1 := i1.ca (L := 24) (t := qrT l) (a := qrA l (qrN l)) (fun q => ⟨qr_nm er q _, rfQ_circ q h⟩) (fun q => (qrN_9 l 0).2)
  have h2 : qrT l = 2 → 0 ≤ fix w.1.1 (qrA l (qrN l)).1 := fun q => by
    unfold rfQ refN at hw
    rw [q, if_neg (by decide), if_pos rfl] at hw
    by_cases z : fix w.1.1 (qrA l (qrN l)).1 < 0
    · rw [if_pos z] at hw; exact absurd hw (by decide)
    · omega
  have on : qrT l = 7 → seOn w.2.2 = true := fun q => by
    unfold rfQ refN at hw
    rw [q, if_neg (by decide), if_neg (by decide), if_neg (by decide), if_neg (by decide), if_neg (by decide), if_neg (by decide), if_pos (Or.inl rfl)] at hw
    cases z : seOn w.2.2 with
    | true => rfl
    | false => rw [z] at hw; exact absurd hw (by decide)
  have nd := i3.2.1.2.2.2
  have R7 := goG_ru (L := 24) (n := ((qrA l (qrN l)).2.2.2 0).toNat) (g := seOn w.2.2) (k := seSt w.2.2) nd i5
  have C7 := goG_cl (nd := seNd w.2.2) (L := 24) (n := ((qrA l (qrN l)).2.2.2 0).toNat) (g := seOn w.2.2) (k := seSt w.2.2) i3.2.1.1 i4
  have T := i2.ca (t := qrT l) (a := qrA l (qrN l)) h2 (fun q => ⟨on q, C7.2.2.1, fun r0 => by
    have pe : plE (sePl w.2.2) (sePl v.2.2) := by
      rcases i2.2.2.2 with z | ⟨z, -⟩
      · exact z
      · rw [on q] at z; exact absurd z (by decide)
    have e2 : (sePl w.2.2).2.2 = (sePl v.2.2).2.2 := by rw [pe.1]
    have lt := R7.1
    rw [e2] at lt ⊢
    refine i1.1.2.2.2 _ ?_
    have lt : rF (goR (gonP w.2.2 ((qrA l (qrN l)).2.2.2 0).toNat).1) < ((sePl v.2.2).2.2.length : Nat) := lt
    omega⟩)
  refine ⟨⟨J1, T.1, J3, ?_, ?_, ?_, ?_⟩, T.2⟩
  · exact caM_cs (M := fun _ _ g => clG g) ⟨fun x hx => absurd hx List.not_mem_nil, i4.2.1, i4.2.2⟩ ⟨i4.1, i4.2.1, i4.2.2⟩ C7 ⟨i4.1, i4.2.1, i4.2.2⟩ i4
  · exact caM_cs (M := fun P _ g => ruI P (goR g)) ruI_0 ruI_0 R7 i5 i5
  · exact caS_f (M := srtF) List.Pairwise.nil (fun q => srtF_put i6 (fun x hx => (i3.1.2.2.2 x ((i2.1.mem x).mp hx)).ok) ((qr_name er _).2 (by rw [q]; decide)).ok) (srtF_gone i6) i6
  · exact caM_cs (M := fun _ nd _ => ∀ u, nd u ≤ 1) (fun u => Nat.zero_le _) (fun u => by unfold ndF; split <;> decide) i7 i7 i7
