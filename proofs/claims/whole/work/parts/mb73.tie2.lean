/-! the tie: files told and gone -/
/-- fl with n told as b -/
def toldF (fl R : List (List Nat × List Nat)) (n b : List Nat) : Prop := (∀ x, x ∈ R ↔ x = (n, b) ∨ (x ∈ fl ∧ x.1 ≠ n)) ∧ R.length = (if fix fl n < 0 then fl.length + 1 else fl.length) ∧ (R.map Prod.fst).Nodup
theorem notin_fix {fl : List (List Nat × List Nat)} {n : List Nat} (h : fix fl n < 0) : ∀ x ∈ fl, x.1 ≠ n := fun x hx e => fix_neg.mp h x.2 (by rw [← e]; exact hx)
theorem perm_told {fl R : List (List Nat × List Nat)} {n b : List Nat} (d : (fl.map Prod.fst).Nodup) (h : fix fl n < 0) (p : R.Perm ((n, b) :: fl)) : toldF fl R n b := by
  have ni := notin_fix h
  refine ⟨fun x => ?_, by rw [if_pos h, p.length_eq, List.length_cons], ?_⟩
  · rw [p.mem_iff, List.mem_cons]
    exact ⟨fun y => y.imp id (fun z => ⟨z, ni x z⟩), fun y => y.imp id And.left⟩
  · rw [(p.map Prod.fst).nodup_iff, List.map_cons, List.nodup_cons]
    refine ⟨fun y => ?_, d⟩
    obtain ⟨x, hx, e⟩ := List.mem_map.mp y
    exact ni x hx e
theorem set_told {fl : List (List Nat × List Nat)} {n b : List Nat} (d : (fl.map Prod.fst).Nodup) (h : ¬ fix fl n < 0) : toldF fl (fl.set (fix fl n).toNat (n, b)) n b := by
  obtain ⟨f1, f2⟩ := fix_at (fl := fl) (n := n) (by omega)
  generalize hj : (fix fl n).toNat = j at f1 f2
  have kj : (fl[j]).1 = n := by
    have : fP fl j = (fl[j]).1 := by unfold fP; rw [List.getD_eq_getElem?_getD, List.getElem?_eq_getElem f1]; rfl
    rw [← this]; exact f2
  have km : (fl.set j (n, b)).map Prod.fst = fl.map Prod.fst := by
    rw [List.map_set]
    have e : (n, b).1 = (fl.map Prod.fst)[j]'(by rw [List.length_map]; exact f1) := by rw [List.getElem_map]; exact kj.symm
    rw [e, List.set_getElem_self]
  have dn : ((fl.set j (n, b)).map Prod.fst).Nodup := by rw [km]; exact d
  have vm : (n, b) ∈ fl.set j (n, b) := List.mem_set f1 _
  refine ⟨fun x => ⟨fun hx => ?_, fun hx => ?_⟩, by rw [if_neg h, List.length_set], dn⟩
  · by_cases z : x = (n, b)
    · exact Or.inl z
    · refine Or.inr ⟨(List.mem_or_eq_of_mem_set hx).elim id (fun y => absurd y z), fun e => z ?_⟩
      have ex : (n, x.2) = x := by rw [← e]
      have hm : (n, x.2) ∈ fl.set j (n, b) := by rw [ex]; exact hx
      have := nodup_b dn hm vm
      rw [← ex, this]
  · rcases hx with hx | ⟨hx, ne⟩
    · rw [hx]; exact vm
    · obtain ⟨i, hi, e⟩ := List.getElem_of_mem hx
      have ij : j ≠ i := fun z => ne (by rw [← e]; subst z; exact kj)
      have g : (fl.set j (n, b))[i]'(by rw [List.length_set]; exact hi) = fl[i] := List.getElem_set_ne ij _
      rw [← e, ← g]
      exact List.getElem_mem _
theorem fsPut_told {fl : List (List Nat × List Nat)} {n b : List Nat} (d : (fl.map Prod.fst).Nodup) : toldF fl (fsPut fl n b) n b := by
  unfold fsPut
  by_cases h : fix fl n < 0
  · rw [if_pos h]; exact perm_told d h (List.perm_append_singleton _ _)
  · rw [if_neg h]; exact set_told d h
theorem insL_perm {α : Type} (l : List α) (f : Nat) (v : α) : (insL l f v).Perm (v :: l) := by
  unfold insL
  have := List.perm_middle (a := v) (l₁ := l.take f) (l₂ := l.drop f)
  rw [List.take_append_drop] at this
  exact this
theorem flPut_told {fl : List (List Nat × List Nat)} {n b : List Nat} (d : (fl.map Prod.fst).Nodup) : toldF fl (flPut fl n b) n b := by
  unfold flPut
  by_cases h : fix fl n < 0
  · rw [if_pos h]; exact perm_told d h (insL_perm _ _ _)
  · rw [if_neg h]; exact set_told d h
theorem plE.put {P Q : PlV} (e : plE P Q) (n b : List Nat) : plE (fsPut P.1 n b, P.2) (flPut Q.1 n b, Q.2) := by
  obtain ⟨a1, a2, a3⟩ := fsPut_told (n := n) (b := b) e.2.2.2.1
  obtain ⟨b1, b2, b3⟩ := flPut_told (n := n) (b := b) e.2.2.2.2
  refine ⟨e.1, fun x => ?_, ?_, a3, b3⟩
  · show x ∈ fsPut P.1 n b ↔ x ∈ flPut Q.1 n b
    rw [a1, b1, e.2.1]
  · show (fsPut P.1 n b).length = (flPut Q.1 n b).length
    rw [a2, b2, e.2.2.1]
    have := (e.fx n).1
    by_cases z : fix P.1 n < 0
    · rw [if_pos z, if_pos (this.mp z)]
    · rw [if_neg z, if_neg (fun y => z (this.mpr y))]
/-- a file gone -/
theorem gone_f {fl : List (List Nat × List Nat)} {n : List Nat} (d : (fl.map Prod.fst).Nodup) (h : 0 ≤ fix fl n) : (∀ x, x ∈ fl.eraseIdx (fix fl n).toNat ↔ x ∈ fl ∧ x.1 ≠ n) ∧ (fl.eraseIdx (fix fl n).toNat).length = fl.length - 1 ∧ ((fl.eraseIdx (fix fl n).toNat).map Prod.fst).Nodup := by
  obtain ⟨f1, f2⟩ := fix_at (fl := fl) (n := n) h
  generalize hj : (fix fl n).toNat = j at f1 f2
  have kj : (fl[j]).1 = n := by
    have : fP fl j = (fl[j]).1 := by unfold fP; rw [List.getD_eq_getElem?_getD, List.getElem?_eq_getElem f1]; rfl
    rw [← this]; exact f2
  have p : (fl[j] :: fl.eraseIdx j).Perm fl := by
    rw [List.eraseIdx_eq_take_drop_succ]
    refine List.perm_middle.symm.trans ?_
    rw [← List.drop_eq_getElem_cons f1, List.take_append_drop]
  have d2 := (p.map Prod.fst).nodup_iff.mpr d
  rw [List.map_cons, List.nodup_cons, kj] at d2
  refine ⟨fun x => ⟨fun hx => ⟨List.mem_of_mem_eraseIdx hx, fun e => d2.1 (List.mem_map.mpr ⟨x, hx, e⟩)⟩, fun hx => ?_⟩, List.length_eraseIdx_of_lt f1, d2.2⟩
  rcases List.mem_cons.mp (p.mem_iff.mpr hx.1) with y | y
  · exact absurd (by rw [y]; exact kj) hx.2
  · exact y
theorem plE.gone {P Q : PlV} (e : plE P Q) {n : List Nat} (h : 0 ≤ fix P.1 n) : plE (P.1.eraseIdx (fix P.1 n).toNat, P.2) (flDrop Q.1 n, Q.2) := by
  have h2 : ¬ fix Q.1 n < 0 := fun z => by have := (e.fx n).1.mpr z; omega
  obtain ⟨a1, a2, a3⟩ := gone_f e.2.2.2.1 h
  obtain ⟨b1, b2, b3⟩ := gone_f e.2.2.2.2 (n := n) (by omega)
  have eq : flDrop Q.1 n = Q.1.eraseIdx (fix Q.1 n).toNat := by unfold flDrop; rw [if_neg h2]
  refine ⟨e.1, fun x => ?_, ?_, a3, ?_⟩
  · show x ∈ P.1.eraseIdx (fix P.1 n).toNat ↔ x ∈ flDrop Q.1 n
    rw [eq, a1, b1, e.2.1]
  · show (P.1.eraseIdx (fix P.1 n).toNat).length = (flDrop Q.1 n).length
    rw [eq, a2, b2, e.2.2.1]
  · show ((flDrop Q.1 n).map Prod.fst).Nodup
    rw [eq]; exact b3
/-- files in their order -/
def srtF (fl : List (List Nat × List Nat)) : Prop := List.Pairwise (fun a b => ltP a.1 b.1) fl
theorem srtF_gone {fl : List (List Nat × List Nat)} {n : List Nat} (s : srtF fl) : srtF (flDrop fl n) := by
  unfold flDrop
  split
  · exact s
  · exact List.Pairwise.sublist (List.eraseIdx_sublist _ _) s
theorem insP_at {l : List (List Nat × List Nat)} {x y : Int64} : ∀ f, (∀ i, insP l x y f ≤ i → i < f → behJ l x y i = true) ∧ (0 < insP l x y f → behJ l x y (insP l x y f - 1) = false)
  | 0 => ⟨fun i h1 h2 => absurd h2 (Nat.not_lt_zero _), fun h => absurd h (Nat.lt_irrefl _)⟩
  | f + 1 => by
    rw [insP]
    by_cases q : behJ l x y f = true
    · rw [if_pos q]
      obtain ⟨a, b⟩ := insP_at (l := l) (x := x) (y := y) f
      refine ⟨fun i h1 h2 => ?_, b⟩
      by_cases z : i = f
      · rw [z]; exact q
      · exact a i h1 (by omega)
    · rw [if_neg q]
      exact ⟨fun i h1 h2 => by omega, fun _ => by rw [Nat.add_sub_cancel]; exact Bool.eq_false_iff.mpr q⟩
theorem srtF_put {fl : List (List Nat × List Nat)} {n b : List Nat} (s : srtF fl) (ok : ∀ x ∈ fl, okP x.1) (on : okP n) : srtF (flPut fl n b) := by
  unfold flPut
  by_cases h : fix fl n < 0
  · rw [if_pos h]
    have ni := notin_fix h
    have k : ∀ i (hi : i < fl.length), behJ fl (hd n) (tl n) i = true ↔ kN n < kN (fl[i]).1 := fun i hi => by
      have e : fP fl i = (fl[i]).1 := by unfold fP; rw [List.getD_eq_getElem?_getD, List.getElem?_eq_getElem hi]; rfl
      rw [← ltP_kN on (ok _ (List.getElem_mem hi)), ← e]
      unfold behJ ltP ltJ
      rw [decide_eq_true_iff]
      exact ⟨fun y => y.imp id (fun z => ⟨z.1.symm, z.2⟩), fun y => y.imp id (fun z => ⟨z.1.symm, z.2⟩)⟩
    have I := insP_at (l := fl) (x := hd n) (y := tl n) fl.length
    have le := insP_le fl (hd n) (tl n) fl.length
    generalize insP fl (hd n) (tl n) fl.length = f at I le
    have sp : ∀ i j (hi : i < fl.length) (hj : j < fl.length), i < j → kN (fl[i]).1 < kN (fl[j]).1 := fun i j hi hj hij => (ltP_kN (ok _ (List.getElem_mem hi)) (ok _ (List.getElem_mem hj))).mp (List.pairwise_iff_getElem.mp s i j hi hj hij)
    unfold insL srtF
    rw [List.pairwise_append]
    refine ⟨List.Pairwise.sublist (List.take_sublist _ _) s, ?_, fun a ha c hc => ?_⟩
    · rw [List.pairwise_cons]
      refine ⟨fun c hc => ?_, List.Pairwise.sublist (List.drop_sublist _ _) s⟩
      obtain ⟨i, hi, e⟩ := List.getElem_of_mem hc
      rw [List.length_drop] at hi
      rw [List.getElem_drop] at e
      rw [← e]
      exact (ltP_kN on (ok _ (List.getElem_mem _))).mpr ((k (f + i) (by omega)).mp (I.1 (f + i) (by omega) (by omega)))
    · obtain ⟨i, hi, e⟩ := List.getElem_of_mem ha
      rw [List.length_take] at hi
      rw [List.getElem_take] at e
      have f0 : 0 < f := by omega
      have nb := I.2 f0
      have fl1 : f - 1 < fl.length := by omega
      have g1 : ¬ kN n < kN (fl[f - 1]).1 := fun z => by rw [(k (f - 1) fl1).mpr z] at nb; exact absurd nb (by decide)
      have g2 : kN n ≠ kN (fl[f - 1]).1 := fun z => ni _ (List.getElem_mem fl1) ((kN_inj on (ok _ (List.getElem_mem fl1))).mp z).symm
      have hin : i < fl.length := by omega
      have g3 : kN (fl[i]).1 ≤ kN (fl[f - 1]).1 := by
        by_cases z : i = f - 1
        · subst z; exact Nat.le_refl _
        · exact Nat.le_of_lt (sp i (f - 1) hin fl1 (by omega))
      rcases List.mem_cons.mp hc with y | y
      · rw [y, ← e]
        exact (ltP_kN (ok _ (List.getElem_mem hin)) on).mpr (by omega)
      · obtain ⟨j, hj, e2⟩ := List.getElem_of_mem y
        rw [List.length_drop] at hj
        rw [List.getElem_drop] at e2
        rw [← e, ← e2]
        exact (ltP_kN (ok _ (List.getElem_mem _)) (ok _ (List.getElem_mem _))).mpr (sp i (f + j) hin (by omega) (by omega))
  · rw [if_neg h]
    obtain ⟨f1, f2⟩ := fix_at (fl := fl) (n := n) (by omega)
    generalize hj : (fix fl n).toNat = j at f1 f2
    have kj : (fl[j]).1 = n := by
      have : fP fl j = (fl[j]).1 := by unfold fP; rw [List.getD_eq_getElem?_getD, List.getElem?_eq_getElem f1]; rfl
      rw [← this]; exact f2
    have km : (fl.set j (n, b)).map Prod.fst = fl.map Prod.fst := by
      rw [List.map_set]
      have e : (n, b).1 = (fl.map Prod.fst)[j]'(by rw [List.length_map]; exact f1) := by rw [List.getElem_map]; exact kj.symm
      rw [e, List.set_getElem_self]
    have g : List.Pairwise ltP ((fl.set j (n, b)).map Prod.fst) := by rw [km]; exact List.pairwise_map.mpr s
    exact List.pairwise_map.mp g
