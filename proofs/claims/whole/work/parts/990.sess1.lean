/-! a session: what it holds -/
abbrev BeV : Type := OutV × List Int64 × Int64
/-- ends, holds, left, ways, benches, runs, counts, failed, failure -/
abbrev RunV : Type := (Nat → Nat) × (Nat → Int) × (Nat → Int) × (Nat → Nat) × (Nat → BeV) × List Nat × (Nat → Nat) × Int × List Nat
def rE (r : RunV) : Nat → Nat := r.1
def rH (r : RunV) : Nat → Int := r.2.1
def rL (r : RunV) : Nat → Int := r.2.2.1
def rW (r : RunV) : Nat → Nat := r.2.2.2.1
def rB (r : RunV) : Nat → BeV := r.2.2.2.2.1
def rR (r : RunV) : List Nat := r.2.2.2.2.2.1
def rC (r : RunV) : Nat → Nat := r.2.2.2.2.2.2.1
def rF (r : RunV) : Int := r.2.2.2.2.2.2.2.1
def rT (r : RunV) : List Nat := r.2.2.2.2.2.2.2.2
def rsE (r : RunV) (f : Nat → Nat) : RunV := (f, r.2)
def rsH (r : RunV) (f : Nat → Int) : RunV := (r.1, f, r.2.2)
def rsL (r : RunV) (f : Nat → Int) : RunV := (r.1, r.2.1, f, r.2.2.2)
def rsW (r : RunV) (f : Nat → Nat) : RunV := (r.1, r.2.1, r.2.2.1, f, r.2.2.2.2)
def rsB (r : RunV) (f : Nat → BeV) : RunV := (r.1, r.2.1, r.2.2.1, r.2.2.2.1, f, r.2.2.2.2.2)
def rsR (r : RunV) (f : List Nat) : RunV := (r.1, r.2.1, r.2.2.1, r.2.2.2.1, r.2.2.2.2.1, f, r.2.2.2.2.2.2)
def rsC (r : RunV) (f : Nat → Nat) : RunV := (r.1, r.2.1, r.2.2.1, r.2.2.2.1, r.2.2.2.2.1, r.2.2.2.2.2.1, f, r.2.2.2.2.2.2.2)
def rsF (r : RunV) (f : Int) (t : List Nat) : RunV := (r.1, r.2.1, r.2.2.1, r.2.2.2.1, r.2.2.2.2.1, r.2.2.2.2.2.1, r.2.2.2.2.2.2.1, f, t)
def BenC (S : Shp) (h : Hp) (b : Nat) (v : BeV) : Prop := OuC S h b v.1 ∧ PaC S h b v.2.1 ∧ FL h 262 b = v.2.2
def RunC (S : Shp) (h : Hp) (x : Nat) (r : RunV) : Prop := (∀ t, t < 14 → AI h (sT S 774 x) t = (rE r t : Nat)) ∧ (∀ w, w < 2 → AI h (sT S 775 x) w = rH r w) ∧ (∀ w, w < 2 → AI h (sT S 776 x) w = rL r w) ∧ (∀ w, w < 2 → AI h (sT S 777 x) w = (rW r w : Nat)) ∧ (∀ w, w < 2 → BenC S h (sE S (sT S 778 x) w) (rB r w)) ∧
  (FI h 780 x = (rR r).length ∧ (rR r).length ≤ 14 ∧ ∀ i, i < (rR r).length → AI h (sT S 779 x) i = ((rR r).getD i 0 : Nat)) ∧ (∀ i, i < 3 → AI h (sT S 781 x) i = (rC r i : Nat)) ∧ FI h 782 x = rF r ∧ rl h (sT S 784 x) = rT r ∧ (rT r).length ≤ 600
abbrev PlV : Type := List (List Nat × List Nat) × List (List Nat × Nat) × List (Bool × TgV)
def PlC (S : Shp) (h : Hp) (p : Nat) (P : PlV) : Prop := FilC S h p P.1 ∧ GsC S h p P.2.1 ∧ TsC S h p P.2.2
section SES
variable {S : Shp} {h h' : Hp} {A : Nat → Prop} {x p b j : Nat} {r : RunV} {P : PlV} {v : Int} {bv : BeV}
theorem PlC.u (ok : Ok S h) (m : Mo S A h h') (hp : sK S p = 4) (hA : ∀ y, U S p y → ¬ A y) (D : PlC S h p P) : PlC S h' p P := ⟨D.1.mo ok m hp hA, D.2.1.mo ok m hp hA, D.2.2.mo ok m hp hA⟩
theorem SOk.sib (so : SOk S) {f g y : Nat} (hf : f < 4096) (hg : g < 4096) (h : f ≠ g) (u : U S (sT S f x) y) : ¬ U S (sT S g x) y := fun z => by
  have l1 := so.ltT (f := f) (a := x) hf
  have l2 := so.ltT (f := g) (a := x) hg
  rcases U_tree u z with q | q
  · rcases (so.U_T hg).mp q with e | e
    · exact h ((so.inj hf hg).mp e).1
    · have := so.uLe e; omega
  · rcases (so.U_T hf).mp q with e | e
    · exact h ((so.inj hg hf).mp e).1.symm
    · have := so.uLe e; omega
theorem SOk.nU (so : SOk S) {f : Nat} (hf : f < 4096) : ¬ U S (sT S f x) x := fun z => by
  have l1 := so.ltT (f := f) (a := x) hf
  have := so.uLe z
  omega
theorem SOk.nUT (so : SOk S) {f g : Nat} (hf : f < 4096) (hg : g < 4096) (h : f ≠ g) : ¬ U S (sT S f x) (sT S g x) := fun z => (so.sib hf hg h z) U_refl
theorem BenC.f (ok : Ok S h) (m : Mo S A h h') (hb : sK S b = 3) (q : OFr A S b) (D : BenC S h b bv) : BenC S h' b bv := ⟨D.1.f ok m hb q, D.2.1.f ok m hb q, (q.fl ok m hb 262).trans D.2.2⟩
theorem RunC.f (ok : Ok S h) (m : Mo S A h h') (hx : sK S x = 7) (q0 : ¬ A x) (q1 : ∀ f, 774 ≤ f → f ≤ 784 → ¬ A (sT S f x)) (q2 : ∀ w, w < 2 → OFr A S (sE S (sT S 778 x) w)) (D : RunC S h x r) : RunC S h' x r := by
  obtain ⟨d774, d775, d776, d777, d778, d780, d781, d782, d784, dl⟩ := D
  have k774 := kT774 ok hx
  have k775 := kT775 ok hx
  have k776 := kT776 ok hx
  have k777 := kT777 ok hx
  have k779 := kT779 ok hx
  have k781 := kT781 ok hx
  have k784 := kT784 ok hx
  exact ⟨fun t ht => (congrFun (m.ai ok (by omega) (q1 774 (by decide) (by decide))) t).trans (d774 t ht), fun t ht => (congrFun (m.ai ok (by omega) (q1 775 (by decide) (by decide))) t).trans (d775 t ht), fun t ht => (congrFun (m.ai ok (by omega) (q1 776 (by decide) (by decide))) t).trans (d776 t ht), fun t ht => (congrFun (m.ai ok (by omega) (q1 777 (by decide) (by decide))) t).trans (d777 t ht), fun w hw => (d778 w hw).f ok m (kE778 ok hx hw) (q2 w hw), ⟨(m.fi ok (by omega) q0 780).trans d780.1, d780.2.1, fun i hi => (congrFun (m.ai ok (by omega) (q1 779 (by decide) (by decide))) i).trans (d780.2.2 i hi)⟩, fun i hi => (congrFun (m.ai ok (by omega) (q1 781 (by decide) (by decide))) i).trans (d781 i hi), (m.fi ok (by omega) q0 782).trans d782, (m.rb ok k784 (q1 784 (by decide) (by decide))).trans d784, dl⟩
theorem RunC.w774 {v : Nat} (ok : Ok S h) (hx : sK S x = 7) (e : h' = sAI h (sT S 774 x) j (v : Nat)) (m : Mo S (fun y => y = sT S 774 x) h h') (D : RunC S h x r) : RunC S h' x (rsE r (upN (rE r) j v)) := by
  obtain ⟨d774, d775, d776, d777, d778, d780, d781, d782, d784, dl⟩ := D
  have k774 := kT774 ok hx
  have k775 := kT775 ok hx
  have k776 := kT776 ok hx
  have k777 := kT777 ok hx
  have k779 := kT779 ok hx
  have k781 := kT781 ok hx
  have k784 := kT784 ok hx
  exact ⟨fun t ht => by rw [e, sArr]; show _ = ((if t = j then v else rE r t : Nat) : Int); rw [d774 t ht]; first | done | (split <;> rfl), fun t ht => (congrFun (m.ai ok (by omega) (ok.so.ou (by decide) (by decide) (Or.inl (by decide)))) t).trans (d775 t ht), fun t ht => (congrFun (m.ai ok (by omega) (ok.so.ou (by decide) (by decide) (Or.inl (by decide)))) t).trans (d776 t ht), fun t ht => (congrFun (m.ai ok (by omega) (ok.so.ou (by decide) (by decide) (Or.inl (by decide)))) t).trans (d777 t ht), fun w hw => (d778 w hw).f ok m (kE778 ok hx hw) (OFr.t ok.so (by decide) (Or.inr (by decide)) (by omega)), ⟨(m.fi ok (by omega) (fun z => ok.so.pT (by decide) z.symm) 780).trans d780.1, d780.2.1, fun i hi => (congrFun (m.ai ok (by omega) (ok.so.ou (by decide) (by decide) (Or.inl (by decide)))) i).trans (d780.2.2 i hi)⟩, fun i hi => (congrFun (m.ai ok (by omega) (ok.so.ou (by decide) (by decide) (Or.inl (by decide)))) i).trans (d781 i hi), (m.fi ok (by omega) (fun z => ok.so.pT (by decide) z.symm) 782).trans d782, (m.rb ok k784 (ok.so.ou (by decide) (by decide) (Or.inl (by decide)))).trans d784, dl⟩
theorem RunC.w775 {v : Int} (ok : Ok S h) (hx : sK S x = 7) (e : h' = sAI h (sT S 775 x) j v) (m : Mo S (fun y => y = sT S 775 x) h h') (D : RunC S h x r) : RunC S h' x (rsH r (up (rH r) j v)) := by
  obtain ⟨d774, d775, d776, d777, d778, d780, d781, d782, d784, dl⟩ := D
  have k774 := kT774 ok hx
  have k775 := kT775 ok hx
  have k776 := kT776 ok hx
  have k777 := kT777 ok hx
  have k779 := kT779 ok hx
  have k781 := kT781 ok hx
  have k784 := kT784 ok hx
  exact ⟨fun t ht => (congrFun (m.ai ok (by omega) (ok.so.ou (by decide) (by decide) (Or.inl (by decide)))) t).trans (d774 t ht), fun t ht => by rw [e, sArr]; show _ = (if t = j then v else rH r t); rw [d775 t ht]; first | done | (split <;> rfl), fun t ht => (congrFun (m.ai ok (by omega) (ok.so.ou (by decide) (by decide) (Or.inl (by decide)))) t).trans (d776 t ht), fun t ht => (congrFun (m.ai ok (by omega) (ok.so.ou (by decide) (by decide) (Or.inl (by decide)))) t).trans (d777 t ht), fun w hw => (d778 w hw).f ok m (kE778 ok hx hw) (OFr.t ok.so (by decide) (Or.inr (by decide)) (by omega)), ⟨(m.fi ok (by omega) (fun z => ok.so.pT (by decide) z.symm) 780).trans d780.1, d780.2.1, fun i hi => (congrFun (m.ai ok (by omega) (ok.so.ou (by decide) (by decide) (Or.inl (by decide)))) i).trans (d780.2.2 i hi)⟩, fun i hi => (congrFun (m.ai ok (by omega) (ok.so.ou (by decide) (by decide) (Or.inl (by decide)))) i).trans (d781 i hi), (m.fi ok (by omega) (fun z => ok.so.pT (by decide) z.symm) 782).trans d782, (m.rb ok k784 (ok.so.ou (by decide) (by decide) (Or.inl (by decide)))).trans d784, dl⟩
theorem RunC.w776 {v : Int} (ok : Ok S h) (hx : sK S x = 7) (e : h' = sAI h (sT S 776 x) j v) (m : Mo S (fun y => y = sT S 776 x) h h') (D : RunC S h x r) : RunC S h' x (rsL r (up (rL r) j v)) := by
  obtain ⟨d774, d775, d776, d777, d778, d780, d781, d782, d784, dl⟩ := D
  have k774 := kT774 ok hx
  have k775 := kT775 ok hx
  have k776 := kT776 ok hx
  have k777 := kT777 ok hx
  have k779 := kT779 ok hx
  have k781 := kT781 ok hx
  have k784 := kT784 ok hx
  exact ⟨fun t ht => (congrFun (m.ai ok (by omega) (ok.so.ou (by decide) (by decide) (Or.inl (by decide)))) t).trans (d774 t ht), fun t ht => (congrFun (m.ai ok (by omega) (ok.so.ou (by decide) (by decide) (Or.inl (by decide)))) t).trans (d775 t ht), fun t ht => by rw [e, sArr]; show _ = (if t = j then v else rL r t); rw [d776 t ht]; first | done | (split <;> rfl), fun t ht => (congrFun (m.ai ok (by omega) (ok.so.ou (by decide) (by decide) (Or.inl (by decide)))) t).trans (d777 t ht), fun w hw => (d778 w hw).f ok m (kE778 ok hx hw) (OFr.t ok.so (by decide) (Or.inr (by decide)) (by omega)), ⟨(m.fi ok (by omega) (fun z => ok.so.pT (by decide) z.symm) 780).trans d780.1, d780.2.1, fun i hi => (congrFun (m.ai ok (by omega) (ok.so.ou (by decide) (by decide) (Or.inl (by decide)))) i).trans (d780.2.2 i hi)⟩, fun i hi => (congrFun (m.ai ok (by omega) (ok.so.ou (by decide) (by decide) (Or.inl (by decide)))) i).trans (d781 i hi), (m.fi ok (by omega) (fun z => ok.so.pT (by decide) z.symm) 782).trans d782, (m.rb ok k784 (ok.so.ou (by decide) (by decide) (Or.inl (by decide)))).trans d784, dl⟩
theorem RunC.w777 {v : Nat} (ok : Ok S h) (hx : sK S x = 7) (e : h' = sAI h (sT S 777 x) j (v : Nat)) (m : Mo S (fun y => y = sT S 777 x) h h') (D : RunC S h x r) : RunC S h' x (rsW r (upN (rW r) j v)) := by
  obtain ⟨d774, d775, d776, d777, d778, d780, d781, d782, d784, dl⟩ := D
  have k774 := kT774 ok hx
  have k775 := kT775 ok hx
  have k776 := kT776 ok hx
  have k777 := kT777 ok hx
  have k779 := kT779 ok hx
  have k781 := kT781 ok hx
  have k784 := kT784 ok hx
  exact ⟨fun t ht => (congrFun (m.ai ok (by omega) (ok.so.ou (by decide) (by decide) (Or.inl (by decide)))) t).trans (d774 t ht), fun t ht => (congrFun (m.ai ok (by omega) (ok.so.ou (by decide) (by decide) (Or.inl (by decide)))) t).trans (d775 t ht), fun t ht => (congrFun (m.ai ok (by omega) (ok.so.ou (by decide) (by decide) (Or.inl (by decide)))) t).trans (d776 t ht), fun t ht => by rw [e, sArr]; show _ = ((if t = j then v else rW r t : Nat) : Int); rw [d777 t ht]; first | done | (split <;> rfl), fun w hw => (d778 w hw).f ok m (kE778 ok hx hw) (OFr.t ok.so (by decide) (Or.inr (by decide)) (by omega)), ⟨(m.fi ok (by omega) (fun z => ok.so.pT (by decide) z.symm) 780).trans d780.1, d780.2.1, fun i hi => (congrFun (m.ai ok (by omega) (ok.so.ou (by decide) (by decide) (Or.inl (by decide)))) i).trans (d780.2.2 i hi)⟩, fun i hi => (congrFun (m.ai ok (by omega) (ok.so.ou (by decide) (by decide) (Or.inl (by decide)))) i).trans (d781 i hi), (m.fi ok (by omega) (fun z => ok.so.pT (by decide) z.symm) 782).trans d782, (m.rb ok k784 (ok.so.ou (by decide) (by decide) (Or.inl (by decide)))).trans d784, dl⟩
theorem RunC.w781 {v : Nat} (ok : Ok S h) (hx : sK S x = 7) (e : h' = sAI h (sT S 781 x) j (v : Nat)) (m : Mo S (fun y => y = sT S 781 x) h h') (D : RunC S h x r) : RunC S h' x (rsC r (upN (rC r) j v)) := by
  obtain ⟨d774, d775, d776, d777, d778, d780, d781, d782, d784, dl⟩ := D
  have k774 := kT774 ok hx
  have k775 := kT775 ok hx
  have k776 := kT776 ok hx
  have k777 := kT777 ok hx
  have k779 := kT779 ok hx
  have k781 := kT781 ok hx
  have k784 := kT784 ok hx
  exact ⟨fun t ht => (congrFun (m.ai ok (by omega) (ok.so.ou (by decide) (by decide) (Or.inl (by decide)))) t).trans (d774 t ht), fun t ht => (congrFun (m.ai ok (by omega) (ok.so.ou (by decide) (by decide) (Or.inl (by decide)))) t).trans (d775 t ht), fun t ht => (congrFun (m.ai ok (by omega) (ok.so.ou (by decide) (by decide) (Or.inl (by decide)))) t).trans (d776 t ht), fun t ht => (congrFun (m.ai ok (by omega) (ok.so.ou (by decide) (by decide) (Or.inl (by decide)))) t).trans (d777 t ht), fun w hw => (d778 w hw).f ok m (kE778 ok hx hw) (OFr.t ok.so (by decide) (Or.inr (by decide)) (by omega)), ⟨(m.fi ok (by omega) (fun z => ok.so.pT (by decide) z.symm) 780).trans d780.1, d780.2.1, fun i hi => (congrFun (m.ai ok (by omega) (ok.so.ou (by decide) (by decide) (Or.inl (by decide)))) i).trans (d780.2.2 i hi)⟩, fun t ht => by rw [e, sArr]; show _ = ((if t = j then v else rC r t : Nat) : Int); rw [d781 t ht]; first | done | (split <;> rfl), (m.fi ok (by omega) (fun z => ok.so.pT (by decide) z.symm) 782).trans d782, (m.rb ok k784 (ok.so.ou (by decide) (by decide) (Or.inl (by decide)))).trans d784, dl⟩
theorem RunC.wB (ok : Ok S h) (hx : sK S x = 7) (hj : j < 2) (m : Mo S (OA S (sE S (sT S 778 x) j)) h h') (nb : BenC S h' (sE S (sT S 778 x) j) bv) (D : RunC S h x r) : RunC S h' x (rsB r (upO (rB r) j bv)) := by
  obtain ⟨d774, d775, d776, d777, d778, d780, d781, d782, d784, dl⟩ := D
  have k774 := kT774 ok hx
  have k775 := kT775 ok hx
  have k776 := kT776 ok hx
  have k777 := kT777 ok hx
  have k779 := kT779 ok hx
  have k781 := kT781 ok hx
  have k784 := kT784 ok hx
  have kb := kE778 ok hx hj
  have nU : ¬ U S (sE S (sT S 778 x) j) (sT S 784 x) := fun z => ok.so.nUT (f := 778) (g := 784) (by decide) (by decide) (by decide) (U_trans (ok.so.uE (by omega) U_refl) z)
  exact ⟨fun t ht => (congrFun (m.ai ok (by omega) (OA.no ok kb (by omega))) t).trans (d774 t ht), fun t ht => (congrFun (m.ai ok (by omega) (OA.no ok kb (by omega))) t).trans (d775 t ht), fun t ht => (congrFun (m.ai ok (by omega) (OA.no ok kb (by omega))) t).trans (d776 t ht), fun t ht => (congrFun (m.ai ok (by omega) (OA.no ok kb (by omega))) t).trans (d777 t ht), fun w hw => by
    show BenC S h' _ (if w = j then bv else rB r w)
    by_cases q : w = j
    · rw [if_pos q, q]; exact nb
    · rw [if_neg q]; exact (d778 w hw).f ok m (kE778 ok hx hw) (OFr.oa ok kb (kE778 ok hx hw) (ok.so.ne2 (by decide) (by decide) (by omega) (by omega) (Or.inr (Ne.symm q)))), ⟨(m.fi ok (by omega) (OA.no ok kb (by omega)) 780).trans d780.1, d780.2.1, fun i hi => (congrFun (m.ai ok (by omega) (OA.no ok kb (by omega))) i).trans (d780.2.2 i hi)⟩, fun i hi => (congrFun (m.ai ok (by omega) (OA.no ok kb (by omega))) i).trans (d781 i hi), (m.fi ok (by omega) (OA.no ok kb (by omega)) 782).trans d782, (m.rb ok k784 (fun z => nU (z.u ok.so))).trans d784, dl⟩
theorem RunC.wR {v : Nat} (ok : Ok S h) (hx : sK S x = 7) (hl : (rR r).length < 14) (m : Mo S (fun y => y = x ∨ y = sT S 779 x) h h') (e1 : FI h' 780 x = ((rR r).length : Int) + 1) (e2 : FI h' 782 x = FI h 782 x) (e3 : ∀ i, AI h' (sT S 779 x) i = if i = (rR r).length then (v : Int) else AI h (sT S 779 x) i) (D : RunC S h x r) : RunC S h' x (rsR r (rR r ++ [v])) := by
  obtain ⟨d774, d775, d776, d777, d778, d780, d781, d782, d784, dl⟩ := D
  have k774 := kT774 ok hx
  have k775 := kT775 ok hx
  have k776 := kT776 ok hx
  have k777 := kT777 ok hx
  have k779 := kT779 ok hx
  have k781 := kT781 ok hx
  have k784 := kT784 ok hx
  have eL : (rR r ++ [v]).length = (rR r).length + 1 := by simp
  exact ⟨fun t ht => (congrFun (m.ai ok (by omega) (fun z => z.elim (fun z => ok.so.pT (by decide) z) (ok.so.ou (by decide) (by decide) (Or.inl (by decide))))) t).trans (d774 t ht), fun t ht => (congrFun (m.ai ok (by omega) (fun z => z.elim (fun z => ok.so.pT (by decide) z) (ok.so.ou (by decide) (by decide) (Or.inl (by decide))))) t).trans (d775 t ht), fun t ht => (congrFun (m.ai ok (by omega) (fun z => z.elim (fun z => ok.so.pT (by decide) z) (ok.so.ou (by decide) (by decide) (Or.inl (by decide))))) t).trans (d776 t ht), fun t ht => (congrFun (m.ai ok (by omega) (fun z => z.elim (fun z => ok.so.pT (by decide) z) (ok.so.ou (by decide) (by decide) (Or.inl (by decide))))) t).trans (d777 t ht), fun w hw => (d778 w hw).f ok m (kE778 ok hx hw) (⟨fun z => z.elim (OFr.own ok.so (by decide) (by omega)).1 (OFr.t ok.so (by decide) (Or.inr (by decide)) (by omega)).1, fun f f1 f2 z => z.elim ((OFr.own ok.so (by decide) (by omega)).2 f f1 f2) ((OFr.t ok.so (by decide) (Or.inr (by decide)) (by omega)).2 f f1 f2)⟩), ⟨by rw [e1]; show _ = (((rR r ++ [v]).length : Nat) : Int); rw [eL]; rfl, by show (rR r ++ [v]).length ≤ 14; omega, fun i hi => by
    change i < (rR r ++ [v]).length at hi
    rw [eL] at hi
    show _ = (((rR r ++ [v]).getD i 0 : Nat) : Int)
    rw [e3, getD_snoc]
    by_cases q : i = (rR r).length
    · rw [if_pos q, if_pos q]
    · rw [if_neg q, if_neg q]; exact d780.2.2 i (by omega)⟩, fun i hi => (congrFun (m.ai ok (by omega) (fun z => z.elim (fun z => ok.so.pT (by decide) z) (ok.so.ou (by decide) (by decide) (Or.inl (by decide))))) i).trans (d781 i hi), e2.trans d782, (m.rb ok k784 (fun z => z.elim (fun z => ok.so.pT (by decide) z) (ok.so.ou (by decide) (by decide) (Or.inl (by decide))))).trans d784, dl⟩
theorem RunC.wF {v : Int} {t : List Nat} (ok : Ok S h) (hx : sK S x = 7) (hl : t.length ≤ 600) (m : Mo S (fun y => y = x ∨ y = sT S 784 x) h h') (e1 : FI h' 782 x = v) (e2 : FI h' 780 x = FI h 780 x) (e3 : rl h' (sT S 784 x) = t) (D : RunC S h x r) : RunC S h' x (rsF r v t) := by
  obtain ⟨d774, d775, d776, d777, d778, d780, d781, d782, d784, dl⟩ := D
  have k774 := kT774 ok hx
  have k775 := kT775 ok hx
  have k776 := kT776 ok hx
  have k777 := kT777 ok hx
  have k779 := kT779 ok hx
  have k781 := kT781 ok hx
  have k784 := kT784 ok hx
  exact ⟨fun t ht => (congrFun (m.ai ok (by omega) (fun z => z.elim (fun z => ok.so.pT (by decide) z) (ok.so.ou (by decide) (by decide) (Or.inl (by decide))))) t).trans (d774 t ht), fun t ht => (congrFun (m.ai ok (by omega) (fun z => z.elim (fun z => ok.so.pT (by decide) z) (ok.so.ou (by decide) (by decide) (Or.inl (by decide))))) t).trans (d775 t ht), fun t ht => (congrFun (m.ai ok (by omega) (fun z => z.elim (fun z => ok.so.pT (by decide) z) (ok.so.ou (by decide) (by decide) (Or.inl (by decide))))) t).trans (d776 t ht), fun t ht => (congrFun (m.ai ok (by omega) (fun z => z.elim (fun z => ok.so.pT (by decide) z) (ok.so.ou (by decide) (by decide) (Or.inl (by decide))))) t).trans (d777 t ht), fun w hw => (d778 w hw).f ok m (kE778 ok hx hw) (⟨fun z => z.elim (OFr.own ok.so (by decide) (by omega)).1 (OFr.t ok.so (by decide) (Or.inr (by decide)) (by omega)).1, fun f f1 f2 z => z.elim ((OFr.own ok.so (by decide) (by omega)).2 f f1 f2) ((OFr.t ok.so (by decide) (Or.inr (by decide)) (by omega)).2 f f1 f2)⟩), ⟨e2.trans d780.1, d780.2.1, fun i hi => (congrFun (m.ai ok (by omega) (fun z => z.elim (fun z => ok.so.pT (by decide) z) (ok.so.ou (by decide) (by decide) (Or.inl (by decide))))) i).trans (d780.2.2 i hi)⟩, fun i hi => (congrFun (m.ai ok (by omega) (fun z => z.elim (fun z => ok.so.pT (by decide) z) (ok.so.ou (by decide) (by decide) (Or.inl (by decide))))) i).trans (d781 i hi), e1, e3, hl⟩
theorem RunC.own (ok : Ok S h) (hx : sK S x = 7) (m : Mo S (fun y => y = x) h h') (e780 : FI h' 780 x = FI h 780 x) (e782 : FI h' 782 x = FI h 782 x) (D : RunC S h x r) : RunC S h' x r := by
  obtain ⟨d774, d775, d776, d777, d778, d780, d781, d782, d784, dl⟩ := D
  have k774 := kT774 ok hx
  have k775 := kT775 ok hx
  have k776 := kT776 ok hx
  have k777 := kT777 ok hx
  have k779 := kT779 ok hx
  have k781 := kT781 ok hx
  have k784 := kT784 ok hx
  exact ⟨fun t ht => (congrFun (m.ai ok (by omega) (fun z => ok.so.pT (by decide) z)) t).trans (d774 t ht), fun t ht => (congrFun (m.ai ok (by omega) (fun z => ok.so.pT (by decide) z)) t).trans (d775 t ht), fun t ht => (congrFun (m.ai ok (by omega) (fun z => ok.so.pT (by decide) z)) t).trans (d776 t ht), fun t ht => (congrFun (m.ai ok (by omega) (fun z => ok.so.pT (by decide) z)) t).trans (d777 t ht), fun w hw => (d778 w hw).f ok m (kE778 ok hx hw) (OFr.own ok.so (by decide) (by omega)), ⟨e780.trans d780.1, d780.2.1, fun i hi => (congrFun (m.ai ok (by omega) (fun z => ok.so.pT (by decide) z)) i).trans (d780.2.2 i hi)⟩, fun i hi => (congrFun (m.ai ok (by omega) (fun z => ok.so.pT (by decide) z)) i).trans (d781 i hi), e782.trans d782, (m.rb ok k784 (fun z => ok.so.pT (by decide) z)).trans d784, dl⟩
end SES
