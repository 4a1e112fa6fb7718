/-! the reference: a target of a request -/
def NmI (h : Hp) (m : Nat) : Prop := ∃ f e : Nat, NmR h m f e ∧ f ≤ e ∧ e ≤ 20020
theorem NmI.r {S : Shp} {m : Nat} {F : List Nat} {h h' : Hp} (D : NmI h m) (fr : Fr S m F h h') (hm : sK S m = 14) (h1 : 1742 ∉ F ∧ 1743 ∉ F := by decide) : NmI h' m := by
  obtain ⟨f, e, a, b⟩ := D
  exact ⟨f, e, a.r fr hm h1, b⟩
theorem rsg_rg {l : List Nat} {b : Bool} {p : Nat} {w : Int} (hp : p ≤ l.length) : p ≤ (rsg l b p w).1 ∧ (rsg l b p w).1 ≤ l.length := by
  unfold rsg
  split
  · exact ⟨Nat.le_refl _, hp⟩
  · split
    · have := wordE_rg (m := nB b) (lo := lB b) hp
      exact ⟨this.1, this.2.1⟩
    · exact ⟨Nat.le_refl _, hp⟩
theorem rsg_s {l : List Nat} {b : Bool} {p : Nat} : rsg l b p (-1) = if pWord l (nB b) (lB b) p = true then (wordE l p (nB b) (lB b), -1) else (p, (p : Int)) := by
  unfold rsg
  rw [if_neg (by decide)]
  by_cases z : 97 ≤ bHe l p ∧ bHe l p ≤ 122
  · obtain ⟨q, e⟩ := bHe_in (l := l) (a := p) (by omega)
    have n0 : 0 < nB b := by unfold nB; split <;> decide
    have il : isLet (l.getD p 0) = true := by
      rw [e] at z
      show (decide (97 ≤ l.getD p 0) && decide (l.getD p 0 ≤ 122)) = true
      rw [decide_eq_true (by omega), decide_eq_true (by omega)]
      rfl
    have hw : wordE l p (nB b) (lB b) ≠ p := by
      unfold wordE
      rw [if_pos ⟨q, n0, il⟩]
      have := scan_ge l (isLater (lB b)) (p + 1) (nB b - 1)
      omega
    rw [if_pos z, if_pos (show pWord l (nB b) (lB b) p = true from decide_eq_true hw)]
  · have hw : wordE l p (nB b) (lB b) = p := by
      unfold wordE
      rw [if_neg]
      intro y
      have e : bHe l p = ((l.getD p 0 : Nat) : Int) := if_pos y.1
      have y2 : (decide (97 ≤ l.getD p 0) && decide (l.getD p 0 ≤ 122)) = true := y.2.2
      simp only [Bool.and_eq_true, decide_eq_true_eq] at y2
      omega
    rw [if_neg z, if_neg]
    intro y
    exact (of_decide_eq_true (show decide (wordE l p (nB b) (lB b) ≠ p) = true from y)) hw
theorem rnm_s {l : List Nat} {p : Nat} : rnm l p (-1) = if pNum l p = true then (numV (sl l p (numE l p)), numE l p, -1) else (0, p, (p : Int)) := by
  unfold rnm
  rw [if_neg (by decide)]
  by_cases z : 48 ≤ bHe l p ∧ bHe l p ≤ 57
  · have hw : numE l p ≠ p := by
      rw [num_1 z]
      split
      · omega
      · have := scan_ge l isDig (p + 1) 3
        omega
    rw [if_pos z, if_pos (show pNum l p = true from decide_eq_true hw)]
  · have hw : numE l p = p := scan_stop ((dg_no z).imp id Or.inr)
    rw [if_neg z, if_neg]
    intro y
    exact (of_decide_eq_true (show decide (numE l p ≠ p) = true from y)) hw
section RDJ
variable {l : List Nat} {a p c : Nat} {w : Int} {X : Prop} {B : Nat → Prop}
/-- wrong at p, and so the class says -/
def badJ (B : Nat → Prop) (p : Nat) (w : Int) : Prop := w = (p : Int) ∧ B p
theorem badJ_w (h : badJ B p w) : 0 ≤ w := by have := h.1; omega
theorem rxp_j (J : (w = -1 ∧ X) ∨ badJ B p w) (hb : X → pSign l c p = false → B p) : ((rxp l c p w).2 = -1 ∧ X ∧ pSign l c p = true ∧ (rxp l c p w).1 = p + 1) ∨ badJ B (rxp l c p w).1 (rxp l c p w).2 := by
  rcases J with ⟨j1, j2⟩ | j
  · subst j1
    cases hz : pSign l c p with
    | true => rw [rxp_y hz]; exact Or.inl ⟨rfl, j2, rfl, rfl⟩
    | false => rw [rxp_n hz]; exact Or.inr ⟨rfl, hb j2 hz⟩
  · have e : rxp l c p w = (p, w) := if_pos (badJ_w j)
    rw [e]
    exact Or.inr j
theorem rsg_j {b : Bool} (J : (w = -1 ∧ X) ∨ badJ B p w) (hb : X → pWord l (nB b) (lB b) p = false → B p) : ((rsg l b p w).2 = -1 ∧ X ∧ pWord l (nB b) (lB b) p = true ∧ (rsg l b p w).1 = wordE l p (nB b) (lB b)) ∨ badJ B (rsg l b p w).1 (rsg l b p w).2 := by
  rcases J with ⟨j1, j2⟩ | j
  · subst j1
    rw [rsg_s]
    cases hz : pWord l (nB b) (lB b) p with
    | true => exact Or.inl ⟨rfl, j2, rfl, rfl⟩
    | false => exact Or.inr ⟨rfl, hb j2 hz⟩
  · have e : rsg l b p w = (p, w) := if_pos (badJ_w j)
    rw [e]
    exact Or.inr j
theorem rnm_j (J : (w = -1 ∧ X) ∨ badJ B p w) (hb : X → pNum l p = false → B p) : ((rnm l p w).2.2 = -1 ∧ X ∧ pNum l p = true ∧ (rnm l p w).2.1 = numE l p ∧ (rnm l p w).1 = numV (sl l p (numE l p))) ∨ badJ B (rnm l p w).2.1 (rnm l p w).2.2 := by
  rcases J with ⟨j1, j2⟩ | j
  · subst j1
    rw [rnm_s]
    cases hz : pNum l p with
    | true => exact Or.inl ⟨rfl, j2, rfl, rfl, rfl⟩
    | false => exact Or.inr ⟨rfl, hb j2 hz⟩
  · have e : rnm l p w = (0, p, w) := if_pos (badJ_w j)
    rw [e]
    exact Or.inr j
theorem jw (J : (w = -1 ∧ X) ∨ badJ B p w) (h : ¬ 0 ≤ w) : w = -1 ∧ X := J.resolve_right (fun z => h (badJ_w z))
theorem jb (J : (w = -1 ∧ X) ∨ badJ B p w) (h : 0 ≤ w) : badJ B p w := J.resolve_left (fun z => by have := z.1; omega)
end RDJ
def RuR (h : Hp) (m f e : Nat) : Prop := FI h 1748 m = (f : Nat) ∧ FI h 1749 m = (e : Nat)
theorem RuR.r {S : Shp} {m f e : Nat} {F : List Nat} {h h' : Hp} (D : RuR h m f e) (fr : Fr S m F h h') (_ : sK S m = 14) (h1 : 1748 ∉ F ∧ 1749 ∉ F := by decide) : RuR h' m f e := ⟨(fr.i 1748 h1.1).trans D.1, (fr.i 1749 h1.2).trans D.2⟩
def WoR (h : Hp) (m f e : Nat) : Prop := FI h 1750 m = (f : Nat) ∧ FI h 1751 m = (e : Nat)
theorem WoR.r {S : Shp} {m f e : Nat} {F : List Nat} {h h' : Hp} (D : WoR h m f e) (fr : Fr S m F h h') (_ : sK S m = 14) (h1 : 1750 ∉ F ∧ 1751 ∉ F := by decide) : WoR h' m f e := ⟨(fr.i 1750 h1.1).trans D.1, (fr.i 1751 h1.2).trans D.2⟩
def FgR (h : Hp) (m f e : Nat) : Prop := FI h 1757 m = (f : Nat) ∧ FI h 1758 m = (e : Nat)
theorem FgR.r {S : Shp} {m f e : Nat} {F : List Nat} {h h' : Hp} (D : FgR h m f e) (fr : Fr S m F h h') (_ : sK S m = 14) (h1 : 1757 ∉ F ∧ 1758 ∉ F := by decide) : FgR h' m f e := ⟨(fr.i 1757 h1.1).trans D.1, (fr.i 1758 h1.2).trans D.2⟩
/-- the inputs of a request, in their arrays -/
def InA (S : Shp) (h : Hp) (m : Nat) (l : List Nat) (xs : List InV) : Prop := ∀ k, k < xs.length → AI h (sT S 1753 m) k = b2i (inB xs k) ∧ ∃ f e : Nat, AI h (sT S 1754 m) k = (f : Int) ∧ AI h (sT S 1755 m) k = (e : Int) ∧ f ≤ e ∧ e ≤ l.length ∧ sl l f e = inN xs k
theorem InA.r {S : Shp} {m : Nat} {l : List Nat} {xs : List InV} {F : List Nat} {h h' : Hp} (D : InA S h m l xs) (fr : Fr S m F h h') (hm : sK S m = 14) (h1 : 1753 ∉ F ∧ 1754 ∉ F ∧ 1755 ∉ F ∧ ltF4 F := by decide) : InA S h' m l xs := fun k hk => by
  rw [fr.ai (by have := kT1753 fr.1 hm; omega) (by decide) h1.1 h1.2.2.2, fr.ai (by have := kT1754 fr.1 hm; omega) (by decide) h1.2.1 h1.2.2.2, fr.ai (by have := kT1755 fr.1 hm; omega) (by decide) h1.2.2.1 h1.2.2.2]
  exact D k hk
theorem sAI_o {h : Hp} {b n c k : Nat} {x : Int} (q : k ≠ n) : AI (sAI h b n x) c k = AI h c k := by
  show up2 (AI h) b n x c k = _
  unfold up2
  rw [if_neg (fun z => q z.2)]
theorem InA.w {S : Shp} {m b : Nat} {l : List Nat} {xs : List InV} {h h' : Hp} {x : Int} (D : InA S h m l xs) (e : h' = sAI h b xs.length x) : InA S h' m l xs := fun k hk => by
  rw [e, sAI_o (by omega), sAI_o (by omega), sAI_o (by omega)]
  exact D k hk
theorem inB_s {xs : List InV} {x : InV} : inB (xs ++ [x]) xs.length = x.1 ∧ inN (xs ++ [x]) xs.length = x.2 := by
  unfold inB inN
  rw [List.getD_eq_getElem?_getD, List.getElem?_append_right (Nat.le_refl _), Nat.sub_self]
  exact ⟨rfl, rfl⟩
theorem inB_o {xs : List InV} {x : InV} {k : Nat} (h : k < xs.length) : inB (xs ++ [x]) k = inB xs k ∧ inN (xs ++ [x]) k = inN xs k := by
  unfold inB inN
  rw [List.getD_eq_getElem?_getD, List.getElem?_append_left h, ← List.getD_eq_getElem?_getD]
  exact ⟨rfl, rfl⟩
theorem InA.add {S : Shp} {m f e : Nat} {l : List Nat} {xs : List InV} {x : InV} {h : Hp} (D : InA S h m l xs) (h1 : AI h (sT S 1753 m) xs.length = b2i x.1) (h2 : AI h (sT S 1754 m) xs.length = (f : Int)) (h3 : AI h (sT S 1755 m) xs.length = (e : Int)) (h4 : f ≤ e ∧ e ≤ l.length) (h5 : sl l f e = x.2) : InA S h m l (xs ++ [x]) := fun k hk => by
  rw [List.length_append] at hk
  have hk : k < xs.length + 1 := hk
  by_cases q : k = xs.length
  · rw [q, inB_s.1, inB_s.2]
    exact ⟨h1, f, e, h2, h3, h4.1, h4.2, h5⟩
  · rw [(inB_o (by omega)).1, (inB_o (by omega)).2]
    exact D k (by omega)
/-- inputs ahead of others -/
def icat (xs : List InV) (v : Bool × Nat × List InV) : Bool × Nat × List InV := (v.1, v.2.1, xs ++ v.2.2)
theorem icat_2 {xs : List InV} {x : InV} {v : Bool × Nat × List InV} : icat xs (icat [x] v) = icat (xs ++ [x]) v := by
  unfold icat
  simp
theorem pIns_bad {l : List Nat} {f p : Nat} (hf : 0 < f) (h : (pIn l p).1 = false) : pIns l f p = (false, (pIn l p).2.1, []) := by
  obtain ⟨f, rfl⟩ : ∃ k, f = k + 1 := ⟨f - 1, by omega⟩
  rw [pIns, h]
  rfl
theorem pIns_go {l : List Nat} {f p : Nat} (hf : 1 < f) (h : (pIn l p).1 = true) (h2 : pSign l 44 (pIn l p).2.1 = true) : pIns l f p = icat [(pIn l p).2.2] (pIns l (f - 1) ((pIn l p).2.1 + 1)) := by
  obtain ⟨f, rfl⟩ : ∃ k, f = k + 1 := ⟨f - 1, by omega⟩
  rw [pIns, if_pos h, if_pos ⟨by omega, h2⟩]
  rfl
theorem pIns_end {l : List Nat} {f p : Nat} (hf : 0 < f) (h : (pIn l p).1 = true) (h2 : f = 1 ∨ pSign l 44 (pIn l p).2.1 = false) : pIns l f p = (true, (pIn l p).2.1, [(pIn l p).2.2]) := by
  obtain ⟨f, rfl⟩ : ∃ k, f = k + 1 := ⟨f - 1, by omega⟩
  rw [pIns, if_pos h, if_neg]
  rintro ⟨y, z⟩
  rcases h2 with q | q
  · omega
  · rw [q] at z; exact absurd z (by decide)
/-- a target that is read: where its words lie -/
def TdR (S : Shp) (h : Hp) (m : Nat) (l : List Nat) (D : TgV) : Prop := ∃ nf nt rf rt wf wt : Nat, NmR h m nf nt ∧ RuR h m rf rt ∧ WoR h m wf wt ∧ (nf ≤ nt ∧ nt ≤ l.length ∧ rf ≤ rt ∧ rt ≤ l.length ∧ wf ≤ wt ∧ wt ≤ l.length) ∧ sl l nf nt = tgN D ∧ sl l rf rt = tgR D ∧ sl l wf wt = tgW D ∧
  FI h 1752 m = ((tgI D).length : Nat) ∧ (tgI D).length ≤ 6 ∧ InA S h m l (tgI D) ∧ ((tgC D = [] ∧ D.2.2.2.2.2 = 0 ∧ FI h 1756 m = 0) ∨ (tgC D ≠ [] ∧ FI h 1756 m = 1 ∧ ∃ ff ft : Nat, FgR h m ff ft ∧ ff ≤ ft ∧ ft ≤ l.length ∧ sl l ff ft = tgC D ∧ AI h (sT S 1741 m) 0 = (D.2.2.2.2.2 : Nat)))
/-- what the definition says of a place that is wrong -/
def badD (l : List Nat) (a p : Nat) : Prop := (pDef l a).1 = false ∧ (pDef l a).2.1 = p
theorem pd_1 {l : List Nat} {a : Nat} (h : pWord l 8 48 a = false) : badD l a a := by
  unfold badD pDef
  rw [if_neg (fun z => by rw [h] at z; exact absurd z.1 (by decide))]
  exact ⟨rfl, pWord_f h⟩
theorem pd_2 {l : List Nat} {a : Nat} (h : pSign l 61 (wordE l a 8 48) = false) : badD l a (wordE l a 8 48) := by
  unfold badD pDef
  rw [if_neg (fun z => by rw [h] at z; exact absurd z.2 (by decide))]
  exact ⟨rfl, rfl⟩
/-- name and = are right -/
def g2 (l : List Nat) (a : Nat) : Prop := pWord l 8 48 a = true ∧ pSign l 61 (wordE l a 8 48) = true
theorem pd_g {l : List Nat} {a : Nat} (h : g2 l a) : pDef l a = pDef2 l (sl l a (wordE l a 8 48)) (pRule l (wordE l a 8 48 + 1)) := if_pos h
theorem pd_3 {l : List Nat} {a : Nat} (g : g2 l a) (h : (pRule l (wordE l a 8 48 + 1)).1 = false ∨ pSign l 40 (pRule l (wordE l a 8 48 + 1)).2.1 = false) {p : Nat} (e : (pRule l (wordE l a 8 48 + 1)).2.1 = p) : badD l a p := by
  unfold badD
  rw [pd_g g]
  unfold pDef2
  rw [if_neg]
  · exact ⟨rfl, e⟩
  · rintro ⟨y, z⟩
    rcases h with q | q
    · rw [q] at y; exact absurd y (by decide)
    · rw [q] at z; exact absurd z (by decide)
theorem pr_0 {l : List Nat} {b : Nat} (h : pWord l 8 48 b = false) : pRule l b = (false, b, [], []) := by
  unfold pRule
  rw [h]
  rfl
theorem pr_1 {l : List Nat} {b : Nat} (h : pWord l 8 48 b = true) (h2 : pSign l 46 (wordE l b 8 48) = false) : pRule l b = (true, wordE l b 8 48, sl l b (wordE l b 8 48), []) := by
  unfold pRule
  rw [h, h2]
  rfl
theorem pr_2 {l : List Nat} {b : Nat} (h : pWord l 8 48 b = true) (h2 : pSign l 46 (wordE l b 8 48) = true) : pRule l b = (pWord l 8 48 (wordE l b 8 48 + 1), wordE l (wordE l b 8 48 + 1) 8 48, sl l b (wordE l b 8 48), sl l (wordE l b 8 48 + 1) (wordE l (wordE l b 8 48 + 1) 8 48)) := by
  unfold pRule
  rw [if_pos h, if_pos h2]
/-- rule and ( are right -/
def g5 (l : List Nat) (a nt rf rt wf wt q : Nat) : Prop := a ≤ nt ∧ nt ≤ l.length ∧ rf ≤ rt ∧ rt ≤ l.length ∧ wf ≤ wt ∧ wt ≤ l.length ∧ q ≤ l.length ∧ pDef l a = pDef3 l (sl l a nt) (sl l rf rt) (sl l wf wt) (pIns l 6 q)
theorem pd_5 {l : List Nat} {a nt rf rt wf wt q p : Nat} (g : g5 l a nt rf rt wf wt q) (h : (pIns l 6 q).1 = false ∨ pSign l 41 (pIns l 6 q).2.1 = false) (e : (pIns l 6 q).2.1 = p) : badD l a p := by
  unfold badD
  rw [g.2.2.2.2.2.2.2]
  unfold pDef3
  rw [if_neg]
  · exact ⟨rfl, e⟩
  · rintro ⟨y, z⟩
    rcases h with q | q
    · rw [q] at y; exact absurd y (by decide)
    · rw [q] at z; exact absurd z (by decide)
theorem pd_6 {l : List Nat} {a nt rf rt wf wt q p : Nat} {xs : List InV} (g : g5 l a nt rf rt wf wt q) (h : pIns l 6 q = (true, p, xs)) (h2 : pSign l 41 p = true) : pDef l a = if pSign l 63 (p + 1) = true then ((pCond l (p + 2)).1, (pCond l (p + 2)).2.1, (sl l a nt, sl l rf rt, sl l wf wt, xs, (pCond l (p + 2)).2.2.1, (pCond l (p + 2)).2.2.2)) else (true, p + 1, (sl l a nt, sl l rf rt, sl l wf wt, xs, [], 0)) := by
  rw [g.2.2.2.2.2.2.2]
  unfold pDef3
  rw [h, if_pos ⟨rfl, h2⟩]
theorem pc_0 {l : List Nat} {b : Nat} (h : pWord l 8 48 b = false) : (pCond l b).1 = false ∧ (pCond l b).2.1 = b := by
  unfold pCond
  rw [h]
  exact ⟨rfl, rfl⟩
theorem pc_1 {l : List Nat} {b : Nat} (h : pWord l 8 48 b = true) (h2 : pSign l 61 (wordE l b 8 48) = false) : (pCond l b).1 = false ∧ (pCond l b).2.1 = wordE l b 8 48 := by
  unfold pCond
  rw [h, h2]
  exact ⟨rfl, rfl⟩
theorem pc_2 {l : List Nat} {b : Nat} (h : pWord l 8 48 b = true) (h2 : pSign l 61 (wordE l b 8 48) = true) : pCond l b = (pNum l (wordE l b 8 48 + 1), numE l (wordE l b 8 48 + 1), sl l b (wordE l b 8 48), numV (sl l (wordE l b 8 48 + 1) (numE l (wordE l b 8 48 + 1)))) := by
  unfold pCond
  rw [if_pos h, if_pos h2]
theorem pWord_rg {l : List Nat} {m lo b : Nat} (hb : b ≤ l.length) (h : pWord l m lo b = true) : b < wordE l b m lo ∧ wordE l b m lo ≤ l.length := by
  have := wordE_rg (m := m) (lo := lo) hb
  have := of_decide_eq_true (show decide (wordE l b m lo ≠ b) = true from h)
  omega
def g4 (l : List Nat) (a n1 p2 p3 wf p : Nat) : Prop := n1 = wordE l a 8 48 ∧ g2 l a ∧ p2 = n1 + 1 ∧ pRule l p2 = (true, p, sl l p2 p3, sl l wf p) ∧ p2 ≤ p3 ∧ p3 ≤ l.length ∧ wf ≤ p ∧ p ≤ l.length
theorem pd_4 {l : List Nat} {a n1 p2 p3 wf p : Nat} (ha : a ≤ l.length) (g : g4 l a n1 p2 p3 wf p) (h : pSign l 40 p = true) : g5 l a n1 p2 p3 wf p (p + 1) := by
  obtain ⟨e1, e2, e3, e4, e5, e6, e7, e8⟩ := g
  have r := wordE_rg (m := 8) (lo := 48) ha
  refine ⟨by omega, by omega, e5, e6, e7, e8, pSign_lt h, ?_⟩
  rw [pd_g e2, ← e1, ← e3, e4]
  unfold pDef2
  rw [if_pos ⟨rfl, h⟩]
theorem pd_4b {l : List Nat} {a n1 p2 p3 wf p : Nat} (g : g4 l a n1 p2 p3 wf p) (h : pSign l 40 p = false) : badD l a p := by
  obtain ⟨e1, e2, e3, e4, e5, e6, e7, e8⟩ := g
  rw [e3, e1] at e4
  exact pd_3 e2 (Or.inr (by rw [e4]; exact h)) (by rw [e4])
theorem bad_end {S : Shp} {h : Hp} {m a p : Nat} {l : List Nat} {w : Int} (PW : PwR h m p w) (b : badJ (badD l a) p w) : PwR h m (pDef l a).2.1 (wOf (pDef l a).1 (pDef l a).2.1) ∧ ((pDef l a).1 = true → TdR S h m l (pDef l a).2.2) := by
  obtain ⟨b1, b2, b3⟩ := b
  rw [b2, b3]
  unfold wOf
  rw [if_neg (by decide)]
  exact ⟨⟨PW.1, PW.2.trans b1⟩, fun z => absurd z (by decide)⟩
theorem d212_0 : dc 212 0 = some (.aload_n 0, 1) := by decide +kernel
theorem d212_1 : dc 212 1 = some (.invokevirtual 213, 4) := by decide +kernel
theorem d212_4 : dc 212 4 = some (.aload_n 0, 5) := by decide +kernel
theorem d212_5 : dc 212 5 = some (.bipush 61, 7) := by decide +kernel
theorem d212_7 : dc 212 7 = some (.invokevirtual 204, 10) := by decide +kernel
theorem d212_10 : dc 212 10 = some (.aload_n 0, 11) := by decide +kernel
theorem d212_11 : dc 212 11 = some (.aload_n 0, 12) := by decide +kernel
theorem d212_12 : dc 212 12 = some (.getfield 1740, 15) := by decide +kernel
theorem d212_15 : dc 212 15 = some (.putfield 1748, 18) := by decide +kernel
theorem d212_18 : dc 212 18 = some (.aload_n 0, 19) := by decide +kernel
theorem d212_19 : dc 212 19 = some (.iconst 0, 20) := by decide +kernel
theorem d212_20 : dc 212 20 = some (.invokevirtual 209, 23) := by decide +kernel
theorem d212_23 : dc 212 23 = some (.aload_n 0, 24) := by decide +kernel
theorem d212_24 : dc 212 24 = some (.aload_n 0, 25) := by decide +kernel
theorem d212_25 : dc 212 25 = some (.getfield 1740, 28) := by decide +kernel
theorem d212_28 : dc 212 28 = some (.putfield 1749, 31) := by decide +kernel
theorem d212_31 : dc 212 31 = some (.aload_n 0, 32) := by decide +kernel
theorem d212_32 : dc 212 32 = some (.aload_n 0, 33) := by decide +kernel
theorem d212_33 : dc 212 33 = some (.getfield 1740, 36) := by decide +kernel
theorem d212_36 : dc 212 36 = some (.putfield 1750, 39) := by decide +kernel
theorem d212_39 : dc 212 39 = some (.aload_n 0, 40) := by decide +kernel
theorem d212_40 : dc 212 40 = some (.aload_n 0, 41) := by decide +kernel
theorem d212_41 : dc 212 41 = some (.getfield 1740, 44) := by decide +kernel
theorem d212_44 : dc 212 44 = some (.putfield 1751, 47) := by decide +kernel
theorem d212_47 : dc 212 47 = some (.aload_n 0, 48) := by decide +kernel
theorem d212_48 : dc 212 48 = some (.getfield 1738, 51) := by decide +kernel
theorem d212_51 : dc 212 51 = some (.ifCond .ge ((94 : Nat) : Int), 54) := by decide +kernel
theorem d212_54 : dc 212 54 = some (.aload_n 0, 55) := by decide +kernel
theorem d212_55 : dc 212 55 = some (.invokevirtual 205, 58) := by decide +kernel
theorem d212_58 : dc 212 58 = some (.bipush 46, 60) := by decide +kernel
theorem d212_60 : dc 212 60 = some (.if_icmp .ne ((94 : Nat) : Int), 63) := by decide +kernel
theorem d212_63 : dc 212 63 = some (.aload_n 0, 64) := by decide +kernel
theorem d212_64 : dc 212 64 = some (.dup, 65) := by decide +kernel
theorem d212_65 : dc 212 65 = some (.getfield 1740, 68) := by decide +kernel
theorem d212_68 : dc 212 68 = some (.iconst 1, 69) := by decide +kernel
theorem d212_69 : dc 212 69 = some (.iadd, 70) := by decide +kernel
theorem d212_70 : dc 212 70 = some (.putfield 1740, 73) := by decide +kernel
theorem d212_73 : dc 212 73 = some (.aload_n 0, 74) := by decide +kernel
theorem d212_74 : dc 212 74 = some (.aload_n 0, 75) := by decide +kernel
theorem d212_75 : dc 212 75 = some (.getfield 1740, 78) := by decide +kernel
theorem d212_78 : dc 212 78 = some (.putfield 1750, 81) := by decide +kernel
theorem d212_81 : dc 212 81 = some (.aload_n 0, 82) := by decide +kernel
theorem d212_82 : dc 212 82 = some (.iconst 0, 83) := by decide +kernel
theorem d212_83 : dc 212 83 = some (.invokevirtual 209, 86) := by decide +kernel
theorem d212_86 : dc 212 86 = some (.aload_n 0, 87) := by decide +kernel
theorem d212_87 : dc 212 87 = some (.aload_n 0, 88) := by decide +kernel
theorem d212_88 : dc 212 88 = some (.getfield 1740, 91) := by decide +kernel
theorem d212_91 : dc 212 91 = some (.putfield 1751, 94) := by decide +kernel
theorem d212_94 : dc 212 94 = some (.aload_n 0, 95) := by decide +kernel
theorem d212_95 : dc 212 95 = some (.bipush 40, 97) := by decide +kernel
theorem d212_97 : dc 212 97 = some (.invokevirtual 204, 100) := by decide +kernel
theorem d212_100 : dc 212 100 = some (.aload_n 0, 101) := by decide +kernel
theorem d212_101 : dc 212 101 = some (.iconst 0, 102) := by decide +kernel
theorem d212_102 : dc 212 102 = some (.putfield 1752, 105) := by decide +kernel
theorem d212_105 : dc 212 105 = some (.aload_n 0, 106) := by decide +kernel
theorem d212_106 : dc 212 106 = some (.getfield 1738, 109) := by decide +kernel
theorem d212_109 : dc 212 109 = some (.ifCond .ge ((116 : Nat) : Int), 112) := by decide +kernel
theorem d212_112 : dc 212 112 = some (.iconst 1, 113) := by decide +kernel
theorem d212_113 : dc 212 113 = some (.goto ((117 : Nat) : Int), 116) := by decide +kernel
theorem d212_116 : dc 212 116 = some (.iconst 0, 117) := by decide +kernel
theorem d212_117 : dc 212 117 = some (.istore_n 1, 118) := by decide +kernel
theorem d212_118 : dc 212 118 = some (.iload_n 1, 119) := by decide +kernel
theorem d212_119 : dc 212 119 = some (.ifCond .eq ((261 : Nat) : Int), 122) := by decide +kernel
theorem d212_122 : dc 212 122 = some (.aload_n 0, 123) := by decide +kernel
theorem d212_123 : dc 212 123 = some (.invokevirtual 205, 126) := by decide +kernel
theorem d212_126 : dc 212 126 = some (.bipush 58, 128) := by decide +kernel
theorem d212_128 : dc 212 128 = some (.if_icmp .ne ((135 : Nat) : Int), 131) := by decide +kernel
theorem d212_131 : dc 212 131 = some (.iconst 1, 132) := by decide +kernel
theorem d212_132 : dc 212 132 = some (.goto ((136 : Nat) : Int), 135) := by decide +kernel
theorem d212_135 : dc 212 135 = some (.iconst 0, 136) := by decide +kernel
theorem d212_136 : dc 212 136 = some (.istore_n 2, 137) := by decide +kernel
theorem d212_137 : dc 212 137 = some (.iload_n 2, 138) := by decide +kernel
theorem d212_138 : dc 212 138 = some (.ifCond .eq ((151 : Nat) : Int), 141) := by decide +kernel
theorem d212_141 : dc 212 141 = some (.aload_n 0, 142) := by decide +kernel
theorem d212_142 : dc 212 142 = some (.dup, 143) := by decide +kernel
theorem d212_143 : dc 212 143 = some (.getfield 1740, 146) := by decide +kernel
theorem d212_146 : dc 212 146 = some (.iconst 1, 147) := by decide +kernel
theorem d212_147 : dc 212 147 = some (.iadd, 148) := by decide +kernel
theorem d212_148 : dc 212 148 = some (.putfield 1740, 151) := by decide +kernel
theorem d212_151 : dc 212 151 = some (.aload_n 0, 152) := by decide +kernel
theorem d212_152 : dc 212 152 = some (.getfield 1740, 155) := by decide +kernel
theorem d212_155 : dc 212 155 = some (.istore_n 3, 156) := by decide +kernel
theorem d212_156 : dc 212 156 = some (.aload_n 0, 157) := by decide +kernel
theorem d212_157 : dc 212 157 = some (.iload_n 2, 158) := by decide +kernel
theorem d212_158 : dc 212 158 = some (.ifCond .ne ((165 : Nat) : Int), 161) := by decide +kernel
theorem d212_161 : dc 212 161 = some (.iconst 1, 162) := by decide +kernel
theorem d212_162 : dc 212 162 = some (.goto ((166 : Nat) : Int), 165) := by decide +kernel
theorem d212_165 : dc 212 165 = some (.iconst 0, 166) := by decide +kernel
theorem d212_166 : dc 212 166 = some (.invokevirtual 209, 169) := by decide +kernel
theorem d212_169 : dc 212 169 = some (.aload_n 0, 170) := by decide +kernel
theorem d212_170 : dc 212 170 = some (.getfield 1738, 173) := by decide +kernel
theorem d212_173 : dc 212 173 = some (.ifCond .lt ((177 : Nat) : Int), 176) := by decide +kernel
theorem d212_176 : dc 212 176 = some (.return_, 177) := by decide +kernel
theorem d212_177 : dc 212 177 = some (.aload_n 0, 178) := by decide +kernel
theorem d212_178 : dc 212 178 = some (.dload 1753, 181) := by decide +kernel
theorem d212_181 : dc 212 181 = some (.aload_n 0, 182) := by decide +kernel
theorem d212_182 : dc 212 182 = some (.getfield 1752, 185) := by decide +kernel
theorem d212_185 : dc 212 185 = some (.iload_n 2, 186) := by decide +kernel
theorem d212_186 : dc 212 186 = some (.bastore, 187) := by decide +kernel
theorem d212_187 : dc 212 187 = some (.aload_n 0, 188) := by decide +kernel
theorem d212_188 : dc 212 188 = some (.dload 1754, 191) := by decide +kernel
theorem d212_191 : dc 212 191 = some (.aload_n 0, 192) := by decide +kernel
theorem d212_192 : dc 212 192 = some (.getfield 1752, 195) := by decide +kernel
theorem d212_195 : dc 212 195 = some (.iload_n 3, 196) := by decide +kernel
theorem d212_196 : dc 212 196 = some (.iastore, 197) := by decide +kernel
theorem d212_197 : dc 212 197 = some (.aload_n 0, 198) := by decide +kernel
theorem d212_198 : dc 212 198 = some (.dload 1755, 201) := by decide +kernel
theorem d212_201 : dc 212 201 = some (.aload_n 0, 202) := by decide +kernel
theorem d212_202 : dc 212 202 = some (.getfield 1752, 205) := by decide +kernel
theorem d212_205 : dc 212 205 = some (.aload_n 0, 206) := by decide +kernel
theorem d212_206 : dc 212 206 = some (.getfield 1740, 209) := by decide +kernel
theorem d212_209 : dc 212 209 = some (.iastore, 210) := by decide +kernel
theorem d212_210 : dc 212 210 = some (.aload_n 0, 211) := by decide +kernel
theorem d212_211 : dc 212 211 = some (.dup, 212) := by decide +kernel
theorem d212_212 : dc 212 212 = some (.getfield 1752, 215) := by decide +kernel
theorem d212_215 : dc 212 215 = some (.iconst 1, 216) := by decide +kernel
theorem d212_216 : dc 212 216 = some (.iadd, 217) := by decide +kernel
theorem d212_217 : dc 212 217 = some (.putfield 1752, 220) := by decide +kernel
theorem d212_220 : dc 212 220 = some (.aload_n 0, 221) := by decide +kernel
theorem d212_221 : dc 212 221 = some (.invokevirtual 205, 224) := by decide +kernel
theorem d212_224 : dc 212 224 = some (.bipush 44, 226) := by decide +kernel
theorem d212_226 : dc 212 226 = some (.if_icmp .ne ((242 : Nat) : Int), 229) := by decide +kernel
theorem d212_229 : dc 212 229 = some (.aload_n 0, 230) := by decide +kernel
theorem d212_230 : dc 212 230 = some (.getfield 1752, 233) := by decide +kernel
theorem d212_233 : dc 212 233 = some (.bipush 6, 235) := by decide +kernel
theorem d212_235 : dc 212 235 = some (.if_icmp .ge ((242 : Nat) : Int), 238) := by decide +kernel
theorem d212_238 : dc 212 238 = some (.iconst 1, 239) := by decide +kernel
theorem d212_239 : dc 212 239 = some (.goto ((243 : Nat) : Int), 242) := by decide +kernel
theorem d212_242 : dc 212 242 = some (.iconst 0, 243) := by decide +kernel
theorem d212_243 : dc 212 243 = some (.istore_n 1, 244) := by decide +kernel
theorem d212_244 : dc 212 244 = some (.iload_n 1, 245) := by decide +kernel
theorem d212_245 : dc 212 245 = some (.ifCond .eq ((258 : Nat) : Int), 248) := by decide +kernel
theorem d212_248 : dc 212 248 = some (.aload_n 0, 249) := by decide +kernel
theorem d212_249 : dc 212 249 = some (.dup, 250) := by decide +kernel
theorem d212_250 : dc 212 250 = some (.getfield 1740, 253) := by decide +kernel
theorem d212_253 : dc 212 253 = some (.iconst 1, 254) := by decide +kernel
theorem d212_254 : dc 212 254 = some (.iadd, 255) := by decide +kernel
theorem d212_255 : dc 212 255 = some (.putfield 1740, 258) := by decide +kernel
theorem d212_258 : dc 212 258 = some (.goto ((118 : Nat) : Int), 261) := by decide +kernel
theorem d212_261 : dc 212 261 = some (.aload_n 0, 262) := by decide +kernel
theorem d212_262 : dc 212 262 = some (.bipush 41, 264) := by decide +kernel
theorem d212_264 : dc 212 264 = some (.invokevirtual 204, 267) := by decide +kernel
theorem d212_267 : dc 212 267 = some (.aload_n 0, 268) := by decide +kernel
theorem d212_268 : dc 212 268 = some (.aload_n 0, 269) := by decide +kernel
theorem d212_269 : dc 212 269 = some (.getfield 1738, 272) := by decide +kernel
theorem d212_272 : dc 212 272 = some (.ifCond .ge ((288 : Nat) : Int), 275) := by decide +kernel
theorem d212_275 : dc 212 275 = some (.aload_n 0, 276) := by decide +kernel
theorem d212_276 : dc 212 276 = some (.invokevirtual 205, 279) := by decide +kernel
theorem d212_279 : dc 212 279 = some (.bipush 63, 281) := by decide +kernel
theorem d212_281 : dc 212 281 = some (.if_icmp .ne ((288 : Nat) : Int), 284) := by decide +kernel
theorem d212_284 : dc 212 284 = some (.iconst 1, 285) := by decide +kernel
theorem d212_285 : dc 212 285 = some (.goto ((289 : Nat) : Int), 288) := by decide +kernel
theorem d212_288 : dc 212 288 = some (.iconst 0, 289) := by decide +kernel
theorem d212_289 : dc 212 289 = some (.putstatic 1756, 292) := by decide +kernel
theorem d212_292 : dc 212 292 = some (.aload_n 0, 293) := by decide +kernel
theorem d212_293 : dc 212 293 = some (.getfield 1756, 296) := by decide +kernel
theorem d212_296 : dc 212 296 = some (.ifCond .ne ((300 : Nat) : Int), 299) := by decide +kernel
theorem d212_299 : dc 212 299 = some (.return_, 300) := by decide +kernel
theorem d212_300 : dc 212 300 = some (.aload_n 0, 301) := by decide +kernel
theorem d212_301 : dc 212 301 = some (.dup, 302) := by decide +kernel
theorem d212_302 : dc 212 302 = some (.getfield 1740, 305) := by decide +kernel
theorem d212_305 : dc 212 305 = some (.iconst 1, 306) := by decide +kernel
theorem d212_306 : dc 212 306 = some (.iadd, 307) := by decide +kernel
theorem d212_307 : dc 212 307 = some (.putfield 1740, 310) := by decide +kernel
theorem d212_310 : dc 212 310 = some (.aload_n 0, 311) := by decide +kernel
theorem d212_311 : dc 212 311 = some (.aload_n 0, 312) := by decide +kernel
theorem d212_312 : dc 212 312 = some (.getfield 1740, 315) := by decide +kernel
theorem d212_315 : dc 212 315 = some (.putfield 1757, 318) := by decide +kernel
theorem d212_318 : dc 212 318 = some (.aload_n 0, 319) := by decide +kernel
theorem d212_319 : dc 212 319 = some (.iconst 0, 320) := by decide +kernel
theorem d212_320 : dc 212 320 = some (.invokevirtual 209, 323) := by decide +kernel
theorem d212_323 : dc 212 323 = some (.aload_n 0, 324) := by decide +kernel
theorem d212_324 : dc 212 324 = some (.aload_n 0, 325) := by decide +kernel
theorem d212_325 : dc 212 325 = some (.getfield 1740, 328) := by decide +kernel
theorem d212_328 : dc 212 328 = some (.putfield 1758, 331) := by decide +kernel
theorem d212_331 : dc 212 331 = some (.aload_n 0, 332) := by decide +kernel
theorem d212_332 : dc 212 332 = some (.bipush 61, 334) := by decide +kernel
theorem d212_334 : dc 212 334 = some (.invokevirtual 204, 337) := by decide +kernel
theorem d212_337 : dc 212 337 = some (.aload_n 0, 338) := by decide +kernel
theorem d212_338 : dc 212 338 = some (.dload 1741, 341) := by decide +kernel
theorem d212_341 : dc 212 341 = some (.iconst 0, 342) := by decide +kernel
theorem d212_342 : dc 212 342 = some (.aload_n 0, 343) := by decide +kernel
theorem d212_343 : dc 212 343 = some (.invokevirtual 214, 346) := by decide +kernel
theorem d212_346 : dc 212 346 = some (.iastore, 347) := by decide +kernel
theorem d212_347 : dc 212 347 = some (.return_, 348) := by decide +kernel
theorem k_M_readTarget {S : Shp} {G : Nat → Option Nat} {d : Nat} {h : Hp} {Q : Option MV → Hp → Prop} {m : Nat} {l : List Nat} {a : Nat} (ok : Ok S h) (h1 : 4 ≤ d) (hm : sK S m = 14) (RQ : RqR S h m l) (PW : PwR h m a (-1)) (hal : a ≤ l.length)
    (kk : ∀ h', Fr S m [1740, 1738, 1742, 1743, 1748, 1749, 1750, 1751, 1752, 1753, 1754, 1755, 1756, 1757, 1758, 1741] h h' → RqR S h' m l → PwR h' m (pDef l a).2.1 (wOf (pDef l a).1 (pDef l a).2.1) → ((pDef l a).1 = true → TdR S h' m l (pDef l a).2.2) → NmI h' m → Q none h') : Cl G d 212 [vR (some m)] h Q := by
  show Wp G d 212 0 [some (vR (some m)), none, none, none] [] h Q
  have RQ_0 := RQ
  have PW_0 := PW
  refine w_aload_n d212_0 rfl ?_
  refine w_callv1 d212_1 (by omega) rfl (ok.kd hm) (by simp) (Nat.le_of_ble_eq_true rfl) ?_
  refine k_M_readName ok (by omega) hm RQ PW (fun h1 f1 RQ PW NM => ?_)
  have ok1 := f1.ok
  have FR1 := Fr.le (F := [1740, 1738, 1742, 1743, 1748, 1749, 1750, 1751, 1752, 1753, 1754, 1755, 1756, 1757, 1758, 1741]) f1 (by decide)
  obtain ⟨n1, enn1⟩ : ∃ x, (rsg l false a (-1)).1 = x := ⟨_, rfl⟩
  obtain ⟨w1, ewn1⟩ : ∃ x, (rsg l false a (-1)).2 = x := ⟨_, rfl⟩
  rw [enn1] at PW NM
  rw [ewn1] at PW
  have J1 : (w1 = -1 ∧ True ∧ pWord l 8 48 a = true ∧ n1 = wordE l a 8 48) ∨ badJ (badD l a) n1 w1 := by
    rw [← enn1, ← ewn1]
    exact rsg_j (b := false) (B := (badD l a)) (Or.inl ⟨rfl, trivial⟩) (fun _ z => pd_1 z)
  have nr1 : a ≤ n1 ∧ n1 ≤ l.length := by rw [← enn1]; exact rsg_rg hal
  refine w_aload_n d212_4 rfl ?_
  refine w_bipush d212_5 (by decide) ?_
  refine w_callv2 d212_7 (by omega) rfl (ok1.kd hm) (by simp) (Nat.le_of_ble_eq_true rfl) ?_
  refine k_M_expect (c := ((61 : Nat) : Int)) ok1 (by omega) hm RQ PW (by decide) (fun h7 f7 RQ PW => ?_)
  have ok7 := f7.ok
  have FR7 := Fr.tr (F := [1740, 1738, 1742, 1743, 1748, 1749, 1750, 1751, 1752, 1753, 1754, 1755, 1756, 1757, 1758, 1741]) FR1 f7 (by decide) (by decide)
  have NM := NM.r f7 hm
  obtain ⟨p2, enp2⟩ : ∃ x, (rxp l ((61 : Nat) : Int) n1 w1).1 = x := ⟨_, rfl⟩
  obtain ⟨w2, ewp2⟩ : ∃ x, (rxp l ((61 : Nat) : Int) n1 w1).2 = x := ⟨_, rfl⟩
  rw [enp2] at PW
  rw [ewp2] at PW
  have J2 : (w2 = -1 ∧ (True ∧ pWord l 8 48 a = true ∧ n1 = wordE l a 8 48) ∧ pSign l 61 n1 = true ∧ p2 = n1 + 1) ∨ badJ (badD l a) p2 w2 := by
    rw [← enp2, ← ewp2]
    exact rxp_j J1 (fun x z => by rw [x.2.2] at z ⊢; exact pd_2 z)
  have rp2 := rg1740 ok7 hm
  rw [PW.1] at rp2
  refine w_aload_n d212_10 rfl ?_
  refine w_aload_n d212_11 rfl ?_
  refine w_getI (x := ((p2 : Nat) : Int)) d212_12 (ok7.kd hm) PW.1 ?_
  refine wf1748 d212_15 ok7 hm (by omega) (fun h15 e15 m15 => ?_)
  have f15 : Fr S m [1748] _ _ := Fr.wF ok7 m15 (FK.pI e15)
  have ok15 := f15.ok
  have FR15 := Fr.tr (F := [1740, 1738, 1742, 1743, 1748, 1749, 1750, 1751, 1752, 1753, 1754, 1755, 1756, 1757, 1758, 1741]) FR7 f15 (by decide) (by decide)
  have RQ := RQ.r f15 hm
  have PW := PW.r f15 hm
  have NM := NM.r f15 hm
  have RF1 : FI h15 1748 m = ((p2 : Nat) : Int) := by rw [e15, FI_sFI, if_pos ⟨rfl, rfl⟩]
  refine w_aload_n d212_18 rfl ?_
  refine w_iconst d212_19 (by decide) ?_
  refine w_callv2 d212_20 (by omega) rfl (ok15.kd hm) (by simp) (Nat.le_of_ble_eq_true rfl) ?_
  refine k_M_readSigns (b := false) ok15 (by omega) hm RQ PW (fun h20 f20 RQ PW => ?_)
  have ok20 := f20.ok
  have FR20 := Fr.tr (F := [1740, 1738, 1742, 1743, 1748, 1749, 1750, 1751, 1752, 1753, 1754, 1755, 1756, 1757, 1758, 1741]) FR15 f20 (by decide) (by decide)
  have NM := NM.r f20 hm
  have RF1 := (f20.i 1748).trans RF1
  obtain ⟨p3, enp3⟩ : ∃ x, (rsg l false p2 w2).1 = x := ⟨_, rfl⟩
  obtain ⟨w3, ewp3⟩ : ∃ x, (rsg l false p2 w2).2 = x := ⟨_, rfl⟩
  rw [enp3] at PW
  rw [ewp3] at PW
  have J3 : (w3 = -1 ∧ ((True ∧ pWord l 8 48 a = true ∧ n1 = wordE l a 8 48) ∧ pSign l 61 n1 = true ∧ p2 = n1 + 1) ∧ pWord l 8 48 p2 = true ∧ p3 = wordE l p2 8 48) ∨ badJ (badD l a) p3 w3 := by
    rw [← enp3, ← ewp3]
    exact rsg_j (b := false) J2 (fun x z => by
      have z : pWord l 8 48 p2 = false := z
      rw [x.2.2, x.1.2.2] at z
      rw [x.2.2, x.1.2.2]
      exact pd_3 ⟨x.1.2.1, by rw [← x.1.2.2]; exact x.2.1⟩ (Or.inl (by rw [pr_0 z])) (by rw [pr_0 z]))
  have rp3 := rg1740 ok20 hm
  rw [PW.1] at rp3
  refine w_aload_n d212_23 rfl ?_
  refine w_aload_n d212_24 rfl ?_
  refine w_getI (x := ((p3 : Nat) : Int)) d212_25 (ok20.kd hm) PW.1 ?_
  refine wf1749 d212_28 ok20 hm (by omega) (fun h28 e28 m28 => ?_)
  have f28 : Fr S m [1749] _ _ := Fr.wF ok20 m28 (FK.pI e28)
  have ok28 := f28.ok
  have FR28 := Fr.tr (F := [1740, 1738, 1742, 1743, 1748, 1749, 1750, 1751, 1752, 1753, 1754, 1755, 1756, 1757, 1758, 1741]) FR20 f28 (by decide) (by decide)
  have RQ := RQ.r f28 hm
  have PW := PW.r f28 hm
  have NM := NM.r f28 hm
  have RF1 := (f28.i 1748).trans RF1
  have RU : RuR h28 m p2 p3 := ⟨RF1, by rw [e28, FI_sFI, if_pos ⟨rfl, rfl⟩]⟩
  refine w_aload_n d212_31 rfl ?_
  refine w_aload_n d212_32 rfl ?_
  refine w_getI (x := ((p3 : Nat) : Int)) d212_33 (ok28.kd hm) PW.1 ?_
  refine wf1750 d212_36 ok28 hm (by omega) (fun h36 e36 m36 => ?_)
  have f36 : Fr S m [1750] _ _ := Fr.wF ok28 m36 (FK.pI e36)
  have ok36 := f36.ok
  have FR36 := Fr.tr (F := [1740, 1738, 1742, 1743, 1748, 1749, 1750, 1751, 1752, 1753, 1754, 1755, 1756, 1757, 1758, 1741]) FR28 f36 (by decide) (by decide)
  have RQ := RQ.r f36 hm
  have PW := PW.r f36 hm
  have NM := NM.r f36 hm
  have RU := RU.r f36 hm
  have WF1 : FI h36 1750 m = ((p3 : Nat) : Int) := by rw [e36, FI_sFI, if_pos ⟨rfl, rfl⟩]
  refine w_aload_n d212_39 rfl ?_
  refine w_aload_n d212_40 rfl ?_
  refine w_getI (x := ((p3 : Nat) : Int)) d212_41 (ok36.kd hm) PW.1 ?_
  refine wf1751 d212_44 ok36 hm (by omega) (fun h44 e44 m44 => ?_)
  have f44 : Fr S m [1751] _ _ := Fr.wF ok36 m44 (FK.pI e44)
  have ok44 := f44.ok
  have FR44 := Fr.tr (F := [1740, 1738, 1742, 1743, 1748, 1749, 1750, 1751, 1752, 1753, 1754, 1755, 1756, 1757, 1758, 1741]) FR36 f44 (by decide) (by decide)
  have RQ := RQ.r f44 hm
  have PW := PW.r f44 hm
  have NM := NM.r f44 hm
  have RU := RU.r f44 hm
  have WF1 := (f44.i 1750).trans WF1
  have WO : WoR h44 m p3 p3 := ⟨WF1, by rw [e44, FI_sFI, if_pos ⟨rfl, rfl⟩]⟩
  refine w_aload_n d212_47 rfl ?_
  refine w_getI (x := w3) d212_48 (ok44.kd hm) PW.2 ?_
  have L94 : ∀ (m94 : Nat) (b : Hp) (p wf : Nat) (w : Int), 0 = m94 → Fr S m [1740, 1738, 1742, 1743, 1748, 1749, 1750, 1751, 1752, 1753, 1754, 1755, 1756, 1757, 1758, 1741] h b → (PwR b m p w) → (WoR b m wf p) → ((w = -1 ∧ g4 l a n1 p2 p3 wf p) ∨ badJ (badD l a) p w) → (NmR b m a n1) → (RuR b m p2 p3) → Wp G d 212 94 [some (vR (some m)), none, none, none] [] b Q := by
    intro m94
    induction m94 using Nat.strongRecOn with | ind m94 IH94 => ?_
    intro b p wf w hm94 FRb PW WO J4 NM RU
    have okb := FRb.ok
    have RQ := RQ_0.r FRb hm
    refine w_aload_n d212_94 rfl ?_
    refine w_bipush d212_95 (by decide) ?_
    refine w_callv2 d212_97 (by omega) rfl (okb.kd hm) (by simp) (Nat.le_of_ble_eq_true rfl) ?_
    refine k_M_expect (c := ((40 : Nat) : Int)) okb (by omega) hm RQ PW (by decide) (fun h97 f97 RQ PW => ?_)
    have ok97 := f97.ok
    have FR97 := Fr.tr (F := [1740, 1738, 1742, 1743, 1748, 1749, 1750, 1751, 1752, 1753, 1754, 1755, 1756, 1757, 1758, 1741]) FRb f97 (by decide) (by decide)
    have NM := NM.r f97 hm
    have RU := RU.r f97 hm
    have WO := WO.r f97 hm
    obtain ⟨p5, enp5⟩ : ∃ x, (rxp l ((40 : Nat) : Int) p w).1 = x := ⟨_, rfl⟩
    obtain ⟨w5, ewp5⟩ : ∃ x, (rxp l ((40 : Nat) : Int) p w).2 = x := ⟨_, rfl⟩
    rw [enp5] at PW
    rw [ewp5] at PW
    have J5 : (w5 = -1 ∧ g4 l a n1 p2 p3 wf p ∧ pSign l 40 p = true ∧ p5 = p + 1) ∨ badJ (badD l a) p5 w5 := by
      rw [← enp5, ← ewp5]
      exact rxp_j J4 (fun x z => pd_4b x z)
    have rp5 := rg1740 ok97 hm
    rw [PW.1] at rp5
    refine w_aload_n d212_100 rfl ?_
    refine w_iconst d212_101 (by decide) ?_
    refine wf1752 d212_102 ok97 hm (by omega) (fun h102 e102 m102 => ?_)
    have f102 : Fr S m [1752] _ _ := Fr.wF ok97 m102 (FK.pI e102)
    have ok102 := f102.ok
    have FR102 := Fr.tr (F := [1740, 1738, 1742, 1743, 1748, 1749, 1750, 1751, 1752, 1753, 1754, 1755, 1756, 1757, 1758, 1741]) FR97 f102 (by decide) (by decide)
    have NM := NM.r f102 hm
    have RU := RU.r f102 hm
    have RQ := RQ.r f102 hm
    have PW := PW.r f102 hm
    have WO := WO.r f102 hm
    have IC : FI h102 1752 m = ((([] : List InV).length : Nat) : Int) := by rw [e102, FI_sFI, if_pos ⟨rfl, rfl⟩]; rfl
    have IA : InA S h102 m l [] := fun k hk => absurd hk (Nat.not_lt_zero _)
    refine w_aload_n d212_105 rfl ?_
    have L118 : ∀ (m118 : Nat) (g : Hp) (b : Bool) (p6 : Nat) (w6 : Int) (xs : List InV), 7 - xs.length = m118 → Fr S m [1740, 1738, 1742, 1743, 1748, 1749, 1750, 1751, 1752, 1753, 1754, 1755, 1756, 1757, 1758, 1741] h g → (xs.length ≤ 6 ∧ (b = true → xs.length < 6 ∧ p6 ≤ l.length)) → (PwR g m p6 w6) → (FI g 1752 m = ((xs.length : Nat) : Int)) → (InA S g m l xs) → (b = true → w6 = -1 ∧ g5 l a n1 p2 p3 wf p p5 ∧ pIns l 6 p5 = icat xs (pIns l (6 - xs.length) p6)) → (b = false → (w6 = -1 ∧ g5 l a n1 p2 p3 wf p p5 ∧ pIns l 6 p5 = (true, p6, xs)) ∨ badJ (badD l a) p6 w6) → (NmR g m a n1) → (RuR g m p2 p3) → (WoR g m wf p) → Wp G d 212 118 [some (vR (some m)), some (vI (b2i b)), none, none] [] g Q := by
      intro m118
      induction m118 using Nat.strongRecOn with | ind m118 IH118 => ?_
      intro g b p6 w6 xs hm118 FRg pr6 PW IC IA Jt Jf NM RU WO
      have okg := FRg.ok
      have RQ := RQ_0.r FRg hm
      refine w_iload_n d212_118 rfl ?_
      refine w_ifeq d212_119 (fun c119 => ?_) (fun c119 => ?_)
      · have bf : b = false := by
          cases b with
          | true => exact absurd c119 (by decide)
          | false => rfl
        have J6 : (w6 = -1 ∧ g5 l a n1 p2 p3 wf p p5 ∧ pIns l 6 p5 = (true, p6, xs)) ∨ badJ (badD l a) p6 w6 := Jf bf
        refine w_aload_n d212_261 rfl ?_
        refine w_bipush d212_262 (by decide) ?_
        refine w_callv2 d212_264 (by omega) rfl (okg.kd hm) (by simp) (Nat.le_of_ble_eq_true rfl) ?_
        refine k_M_expect (c := ((41 : Nat) : Int)) okg (by omega) hm RQ PW (by decide) (fun h264 f264 RQ PW => ?_)
        have ok264 := f264.ok
        have FR264 := Fr.tr (F := [1740, 1738, 1742, 1743, 1748, 1749, 1750, 1751, 1752, 1753, 1754, 1755, 1756, 1757, 1758, 1741]) FRg f264 (by decide) (by decide)
        have NM := NM.r f264 hm
        have RU := RU.r f264 hm
        have WO := WO.r f264 hm
        have IC := (f264.i 1752).trans IC
        have IA := IA.r f264 hm
        obtain ⟨p8, enp8⟩ : ∃ x, (rxp l ((41 : Nat) : Int) p6 w6).1 = x := ⟨_, rfl⟩
        obtain ⟨w8, ewp8⟩ : ∃ x, (rxp l ((41 : Nat) : Int) p6 w6).2 = x := ⟨_, rfl⟩
        rw [enp8] at PW
        rw [ewp8] at PW
        have J8 : (w8 = -1 ∧ (g5 l a n1 p2 p3 wf p p5 ∧ pIns l 6 p5 = (true, p6, xs)) ∧ pSign l 41 p6 = true ∧ p8 = p6 + 1) ∨ badJ (badD l a) p8 w8 := by
          rw [← enp8, ← ewp8]
          exact rxp_j J6 (fun x z => pd_5 x.1 (Or.inr (by rw [x.2]; exact z)) (by rw [x.2]))
        have rp8 := rg1740 ok264 hm
        rw [PW.1] at rp8
        refine w_aload_n d212_267 rfl ?_
        refine w_aload_n d212_268 rfl ?_
        refine w_getI (x := w8) d212_269 (ok264.kd hm) PW.2 ?_
        refine w_ifge d212_272 (fun c272 => ?_) (fun c272 => ?_)
        · refine w_iconst d212_288 (by decide) ?_
          refine wf1756 d212_289 ok264 hm (by omega) (fun h289 e289 m289 => ?_)
          have f289 : Fr S m [1756] _ _ := Fr.wF ok264 m289 (FK.pI e289)
          have ok289 := f289.ok
          have FR289 := Fr.tr (F := [1740, 1738, 1742, 1743, 1748, 1749, 1750, 1751, 1752, 1753, 1754, 1755, 1756, 1757, 1758, 1741]) FR264 f289 (by decide) (by decide)
          have NM := NM.r f289 hm
          have RU := RU.r f289 hm
          have WO := WO.r f289 hm
          have RQ := RQ.r f289 hm
          have PW := PW.r f289 hm
          have IC := (f289.i 1752).trans IC
          have IA := IA.r f289 hm
          have CN : FI h289 1756 m = 0 := by rw [e289, FI_sFI, if_pos ⟨rfl, rfl⟩]
          refine w_aload_n d212_292 rfl ?_
          refine w_getI (x := 0) d212_293 (ok289.kd hm) CN ?_
          refine w_ifne d212_296 (fun c296 => ?_) (fun c296 => ?_)
          · exact absurd rfl c296
          · refine w_return d212_299 ?_
            obtain ⟨be1, be2⟩ := bad_end (S := S) PW (jb J8 (by omega))
            have NIa : NmI h289 m := ⟨a, n1, NM, nr1.1, by have := RQ.2.1; omega⟩
            exact kk _ FR289 RQ be1 be2 NIa
        · have j8 := jw J8 (by omega)
          refine w_aload_n d212_275 rfl ?_
          refine w_callv1 d212_276 (by omega) rfl (ok264.kd hm) (by simp) (Nat.le_of_ble_eq_true rfl) ?_
          refine k_M_byteHere ok264 (by omega) hm RQ PW ?_
          refine w_bipush d212_279 (by decide) ?_
          refine w_icmpne d212_281 (fun c281 => ?_) (fun c281 => ?_)
          · refine w_iconst d212_288 (by decide) ?_
            refine wf1756 d212_289 ok264 hm (by omega) (fun h289 e289 m289 => ?_)
            have f289 : Fr S m [1756] _ _ := Fr.wF ok264 m289 (FK.pI e289)
            have ok289 := f289.ok
            have FR289 := Fr.tr (F := [1740, 1738, 1742, 1743, 1748, 1749, 1750, 1751, 1752, 1753, 1754, 1755, 1756, 1757, 1758, 1741]) FR264 f289 (by decide) (by decide)
            have NM := NM.r f289 hm
            have RU := RU.r f289 hm
            have WO := WO.r f289 hm
            have RQ := RQ.r f289 hm
            have PW := PW.r f289 hm
            have IC := (f289.i 1752).trans IC
            have IA := IA.r f289 hm
            have CN : FI h289 1756 m = 0 := by rw [e289, FI_sFI, if_pos ⟨rfl, rfl⟩]
            refine w_aload_n d212_292 rfl ?_
            refine w_getI (x := 0) d212_293 (ok289.kd hm) CN ?_
            refine w_ifne d212_296 (fun c296 => ?_) (fun c296 => ?_)
            · exact absurd rfl c296
            · refine w_return d212_299 ?_
              have s63 : pSign l 63 (p6 + 1) = false := by rw [← j8.2.2.2]; exact sgn_n (c := 63) c281
              have ev := pd_6 j8.2.1.1 j8.2.1.2 j8.2.2.1
              rw [s63, if_neg (by decide), ← j8.2.2.2] at ev
              rw [ev] at kk
              obtain ⟨y1, y2, y3, y4, y5, y6, y7, y8⟩ := j8.2.1.1
              exact kk _ FR289 RQ ⟨PW.1, PW.2.trans j8.1⟩ (fun _ => ⟨a, n1, p2, p3, wf, p, NM, RU, WO, ⟨y1, y2, y3, y4, y5, y6⟩, rfl, rfl, rfl, IC, pr6.1, IA, Or.inl ⟨rfl, rfl, CN⟩⟩) ⟨a, n1, NM, nr1.1, by have := RQ.2.1; omega⟩
          · have s63 : pSign l 63 (p6 + 1) = true := by rw [← j8.2.2.2]; exact sgn_h.mpr (by omega)
            have pl8 := pSign_lt s63
            have l9 := RQ.2.1
            refine w_iconst d212_284 (by decide) ?_
            refine w_goto d212_285 ?_
            refine wf1756 d212_289 ok264 hm (by omega) (fun h289 e289 m289 => ?_)
            have f289 : Fr S m [1756] _ _ := Fr.wF ok264 m289 (FK.pI e289)
            have ok289 := f289.ok
            have FR289 := Fr.tr (F := [1740, 1738, 1742, 1743, 1748, 1749, 1750, 1751, 1752, 1753, 1754, 1755, 1756, 1757, 1758, 1741]) FR264 f289 (by decide) (by decide)
            have NM := NM.r f289 hm
            have RU := RU.r f289 hm
            have WO := WO.r f289 hm
            have RQ := RQ.r f289 hm
            have PW := PW.r f289 hm
            have IC := (f289.i 1752).trans IC
            have IA := IA.r f289 hm
            have CN : FI h289 1756 m = 1 := by rw [e289, FI_sFI, if_pos ⟨rfl, rfl⟩]
            refine w_aload_n d212_292 rfl ?_
            refine w_getI (x := 1) d212_293 (ok289.kd hm) CN ?_
            refine w_ifne d212_296 (fun c296 => ?_) (fun c296 => ?_)
            · refine w_aload_n d212_300 rfl ?_
              refine w_dupR d212_301 ?_
              refine w_getI (x := ((p8 : Nat) : Int)) d212_302 (ok289.kd hm) PW.1 ?_
              refine w_iconst d212_305 (by decide) ?_
              refine w_iadd d212_306 (by constructor <;> omega) ?_
              refine wf1740 d212_307 ok289 hm (by omega) (fun h307 e307 m307 => ?_)
              have f307 : Fr S m [1740] _ _ := Fr.wF ok289 m307 (FK.pI e307)
              have ok307 := f307.ok
              have FR307 := Fr.tr (F := [1740, 1738, 1742, 1743, 1748, 1749, 1750, 1751, 1752, 1753, 1754, 1755, 1756, 1757, 1758, 1741]) FR289 f307 (by decide) (by decide)
              have NM := NM.r f307 hm
              have RU := RU.r f307 hm
              have WO := WO.r f307 hm
              have RQ := RQ.r f307 hm
              have IC := (f307.i 1752).trans IC
              have IA := IA.r f307 hm
              have CN := (f307.i 1756).trans CN
              have PW : PwR h307 m (p8 + 1) w8 := ⟨by rw [e307, FI_sFI, if_pos ⟨rfl, rfl⟩]; rfl, (f307.i 1738 (by decide)).trans PW.2⟩
              have ev := pd_6 j8.2.1.1 j8.2.1.2 j8.2.2.1
              rw [s63, if_pos rfl, show p6 + 2 = p8 + 1 by omega] at ev
              have p81 : p8 + 1 ≤ l.length := by omega
              refine w_aload_n d212_310 rfl ?_
              refine w_aload_n d212_311 rfl ?_
              refine w_getI (x := ((p8 + 1 : Nat) : Int)) d212_312 (ok307.kd hm) PW.1 ?_
              refine wf1757 d212_315 ok307 hm (by omega) (fun h315 e315 m315 => ?_)
              have f315 : Fr S m [1757] _ _ := Fr.wF ok307 m315 (FK.pI e315)
              have ok315 := f315.ok
              have FR315 := Fr.tr (F := [1740, 1738, 1742, 1743, 1748, 1749, 1750, 1751, 1752, 1753, 1754, 1755, 1756, 1757, 1758, 1741]) FR307 f315 (by decide) (by decide)
              have NM := NM.r f315 hm
              have RU := RU.r f315 hm
              have WO := WO.r f315 hm
              have RQ := RQ.r f315 hm
              have IC := (f315.i 1752).trans IC
              have IA := IA.r f315 hm
              have CN := (f315.i 1756).trans CN
              have PW := PW.r f315 hm
              have FF1 : FI h315 1757 m = ((p8 + 1 : Nat) : Int) := by rw [e315, FI_sFI, if_pos ⟨rfl, rfl⟩]
              refine w_aload_n d212_318 rfl ?_
              refine w_iconst d212_319 (by decide) ?_
              refine w_callv2 d212_320 (by omega) rfl (ok315.kd hm) (by simp) (Nat.le_of_ble_eq_true rfl) ?_
              refine k_M_readSigns (b := false) ok315 (by omega) hm RQ PW (fun h320 f320 RQ PW => ?_)
              have ok320 := f320.ok
              have FR320 := Fr.tr (F := [1740, 1738, 1742, 1743, 1748, 1749, 1750, 1751, 1752, 1753, 1754, 1755, 1756, 1757, 1758, 1741]) FR315 f320 (by decide) (by decide)
              have NM := NM.r f320 hm
              have RU := RU.r f320 hm
              have WO := WO.r f320 hm
              have IC := (f320.i 1752).trans IC
              have IA := IA.r f320 hm
              have CN := (f320.i 1756).trans CN
              have FF1 := (f320.i 1757).trans FF1
              obtain ⟨p9, enp9⟩ : ∃ x, (rsg l false (p8 + 1) w8).1 = x := ⟨_, rfl⟩
              obtain ⟨w9, ewp9⟩ : ∃ x, (rsg l false (p8 + 1) w8).2 = x := ⟨_, rfl⟩
              rw [enp9] at PW
              rw [ewp9] at PW
              have J9 : (w9 = -1 ∧ True ∧ pWord l 8 48 (p8 + 1) = true ∧ p9 = wordE l (p8 + 1) 8 48) ∨ badJ (badD l a) p9 w9 := by
                rw [← enp9, ← ewp9]
                exact rsg_j (b := false) (B := (badD l a)) (Or.inl ⟨j8.1, trivial⟩) (fun _ z => by
                  unfold badD
                  rw [ev]
                  exact pc_0 z)
              have rp9 := rg1740 ok320 hm
              rw [PW.1] at rp9
              refine w_aload_n d212_323 rfl ?_
              refine w_aload_n d212_324 rfl ?_
              refine w_getI (x := ((p9 : Nat) : Int)) d212_325 (ok320.kd hm) PW.1 ?_
              refine wf1758 d212_328 ok320 hm (by omega) (fun h328 e328 m328 => ?_)
              have f328 : Fr S m [1758] _ _ := Fr.wF ok320 m328 (FK.pI e328)
              have ok328 := f328.ok
              have FR328 := Fr.tr (F := [1740, 1738, 1742, 1743, 1748, 1749, 1750, 1751, 1752, 1753, 1754, 1755, 1756, 1757, 1758, 1741]) FR320 f328 (by decide) (by decide)
              have NM := NM.r f328 hm
              have RU := RU.r f328 hm
              have WO := WO.r f328 hm
              have RQ := RQ.r f328 hm
              have IC := (f328.i 1752).trans IC
              have IA := IA.r f328 hm
              have CN := (f328.i 1756).trans CN
              have PW := PW.r f328 hm
              have FF1 := (f328.i 1757).trans FF1
              have FG : FgR h328 m (p8 + 1) p9 := ⟨FF1, by rw [e328, FI_sFI, if_pos ⟨rfl, rfl⟩]⟩
              refine w_aload_n d212_331 rfl ?_
              refine w_bipush d212_332 (by decide) ?_
              refine w_callv2 d212_334 (by omega) rfl (ok328.kd hm) (by simp) (Nat.le_of_ble_eq_true rfl) ?_
              refine k_M_expect (c := ((61 : Nat) : Int)) ok328 (by omega) hm RQ PW (by decide) (fun h334 f334 RQ PW => ?_)
              have ok334 := f334.ok
              have FR334 := Fr.tr (F := [1740, 1738, 1742, 1743, 1748, 1749, 1750, 1751, 1752, 1753, 1754, 1755, 1756, 1757, 1758, 1741]) FR328 f334 (by decide) (by decide)
              have NM := NM.r f334 hm
              have RU := RU.r f334 hm
              have WO := WO.r f334 hm
              have IC := (f334.i 1752).trans IC
              have IA := IA.r f334 hm
              have CN := (f334.i 1756).trans CN
              have FG := FG.r f334 hm
              obtain ⟨p10, enp10⟩ : ∃ x, (rxp l ((61 : Nat) : Int) p9 w9).1 = x := ⟨_, rfl⟩
              obtain ⟨w10, ewp10⟩ : ∃ x, (rxp l ((61 : Nat) : Int) p9 w9).2 = x := ⟨_, rfl⟩
              rw [enp10] at PW
              rw [ewp10] at PW
              have J10 : (w10 = -1 ∧ (True ∧ pWord l 8 48 (p8 + 1) = true ∧ p9 = wordE l (p8 + 1) 8 48) ∧ pSign l 61 p9 = true ∧ p10 = p9 + 1) ∨ badJ (badD l a) p10 w10 := by
                rw [← enp10, ← ewp10]
                exact rxp_j J9 (fun x z => by
                  unfold badD
                  rw [ev]
                  rw [x.2.2] at z ⊢
                  exact pc_1 x.2.1 z)
              refine w_aload_n d212_337 rfl ?_
              refine w_dloadS d212_338 (ok334.kd hm) (fr1741 ok334 hm) ?_
              refine w_iconst d212_341 (by decide) ?_
              refine w_aload_n d212_342 rfl ?_
              refine w_callv1 d212_343 (by omega) rfl (ok334.kd hm) (by simp) (Nat.le_of_ble_eq_true rfl) ?_
              refine k_M_readNumber ok334 (by omega) hm RQ PW (fun h343 f343 RQ PW => ?_)
              have ok343 := f343.ok
              have FR343 := Fr.tr (F := [1740, 1738, 1742, 1743, 1748, 1749, 1750, 1751, 1752, 1753, 1754, 1755, 1756, 1757, 1758, 1741]) FR334 f343 (by decide) (by decide)
              have NM := NM.r f343 hm
              have RU := RU.r f343 hm
              have WO := WO.r f343 hm
              have IC := (f343.i 1752).trans IC
              have IA := IA.r f343 hm
              have CN := (f343.i 1756).trans CN
              have FG := FG.r f343 hm
              obtain ⟨r11, er11⟩ : ∃ x, (rnm l p10 w10) = x := ⟨_, rfl⟩
              rw [er11] at PW
              rw [er11]
              obtain ⟨n11, p11, w11⟩ := r11
              dsimp only at PW ⊢
              have J11 : (w11 = -1 ∧ ((True ∧ pWord l 8 48 (p8 + 1) = true ∧ p9 = wordE l (p8 + 1) 8 48) ∧ pSign l 61 p9 = true ∧ p10 = p9 + 1) ∧ pNum l p10 = true ∧ p11 = numE l p10 ∧ n11 = numV (sl l p10 (numE l p10))) ∨ badJ (badD l a) p11 w11 := by
                have j := rnm_j J10 (fun x z => by
                  unfold badD
                  rw [ev]
                  rw [x.2.2, x.1.2.2] at z ⊢
                  rw [pc_2 x.1.2.1 (by rw [← x.1.2.2]; exact x.2.1)]
                  exact ⟨z, pNum_f z⟩)
                rw [er11] at j
                exact j
              have n9 : n11 ≤ 9999 := by
                rcases J10 with z | z
                · have := (rnm_le (l := l) (a := p10) (w := w10) (by have := pSign_lt z.2.2.1; omega)).1
                  rw [er11] at this
                  exact this
                · have e : rnm l p10 w10 = (0, p10, w10) := if_pos (badJ_w z)
                  rw [er11] at e
                  injection e with e1 e2
                  omega
              refine wa1741 d212_346 ok343 hm (by omega) (by omega) (fun h346 e346 m346 => ?_)
              have f346 : Fr S m [1741] _ _ := Fr.wB ok343 hm m346 (fun ζ e => ⟨1741, by decide, by decide, e ▸ U_refl⟩)
              have ok346 := f346.ok
              have FR346 := Fr.tr (F := [1740, 1738, 1742, 1743, 1748, 1749, 1750, 1751, 1752, 1753, 1754, 1755, 1756, 1757, 1758, 1741]) FR343 f346 (by decide) (by decide)
              have NM := NM.r f346 hm
              have RU := RU.r f346 hm
              have WO := WO.r f346 hm
              have RQ := RQ.r f346 hm
              have IC := (f346.i 1752).trans IC
              have IA := IA.r f346 hm
              have CN := (f346.i 1756).trans CN
              have PW := PW.r f346 hm
              have FG := FG.r f346 hm
              have AR0 : AI h346 (sT S 1741 m) 0 = ((n11 : Nat) : Int) := by rw [e346, sArr]; exact if_pos rfl
              refine w_return d212_347 ?_
              rcases J11 with ⟨j1, ⟨⟨-, j2, j3⟩, j4, j5⟩, j6, j7, j8b⟩ | j
              · have pc : pCond l (p8 + 1) = (true, p11, sl l (p8 + 1) p9, n11) := by rw [pc_2 j2 (by rw [← j3]; exact j4), ← j3, ← j5, j6, ← j8b, ← j7]
                have wl := pWord_rg p81 j2
                rw [← j3] at wl
                rw [pc] at ev
                rw [ev] at kk
                obtain ⟨y1, y2, y3, y4, y5, y6, y7, y8⟩ := j8.2.1.1
                exact kk _ FR346 RQ ⟨PW.1, PW.2.trans j1⟩ (fun _ => ⟨a, n1, p2, p3, wf, p, NM, RU, WO, ⟨y1, y2, y3, y4, y5, y6⟩, rfl, rfl, rfl, IC, pr6.1, IA, Or.inr ⟨sl_ne wl.1 wl.2, CN, p8 + 1, p9, FG, by omega, wl.2, rfl, AR0⟩⟩) ⟨a, n1, NM, nr1.1, by have := RQ.2.1; omega⟩
              · obtain ⟨be1, be2⟩ := bad_end (S := S) PW j
                have NIa : NmI h346 m := ⟨a, n1, NM, nr1.1, by have := RQ.2.1; omega⟩
                exact kk _ FR346 RQ be1 be2 NIa
            · exact absurd c296 (by decide)
      · have bt : b = true := by
          cases b with
          | true => rfl
          | false => exact absurd rfl c119
        have jt := Jt bt
        have xn := pr6.2 bt
        have rp6 := rg1740 okg hm
        rw [PW.1] at rp6
        refine w_aload_n d212_122 rfl ?_
        refine w_callv1 d212_123 (by omega) rfl (okg.kd hm) (by simp) (Nat.le_of_ble_eq_true rfl) ?_
        refine k_M_byteHere okg (by omega) hm RQ PW ?_
        refine w_bipush d212_126 (by decide) ?_
        refine w_icmpne d212_128 (fun c128 => ?_) (fun c128 => ?_)
        · have s58 : pSign l 58 p6 = false := sgn_n (c := 58) (show ¬ bHe l p6 = ((58 : Nat) : Int) from c128)
          have pin : pIn l p6 = (pWord l 12 46 p6, wordE l p6 12 46, (false, sl l p6 (wordE l p6 12 46))) := by unfold pIn; rw [if_neg (fun z => by rw [s58] at z; exact absurd z (by decide))]
          have fle : p6 ≤ l.length := xn.2
          have l9 := RQ.2.1
          refine w_iconst d212_135 (by decide) ?_
          refine w_istore2 d212_136 rfl ?_
          refine w_iload_n d212_137 rfl ?_
          refine w_ifeq d212_138 (fun c138 => ?_) (fun c138 => ?_)
          · refine w_aload_n d212_151 rfl ?_
            refine w_getI (x := ((p6 : Nat) : Int)) d212_152 (okg.kd hm) PW.1 ?_
            refine w_istore3 d212_155 rfl ?_
            refine w_aload_n d212_156 rfl ?_
            refine w_iload_n d212_157 rfl ?_
            refine w_ifne d212_158 (fun c158 => ?_) (fun c158 => ?_)
            · exact absurd rfl c158
            · refine w_iconst d212_161 (by decide) ?_
              refine w_goto d212_162 ?_
              refine w_callv2 d212_166 (by omega) rfl (okg.kd hm) (by simp) (Nat.le_of_ble_eq_true rfl) ?_
              refine k_M_readSigns (b := true) okg (by omega) hm RQ PW (fun h166 f166 RQ PW => ?_)
              have ok166 := f166.ok
              have FR166 := Fr.tr (F := [1740, 1738, 1742, 1743, 1748, 1749, 1750, 1751, 1752, 1753, 1754, 1755, 1756, 1757, 1758, 1741]) FRg f166 (by decide) (by decide)
              have NM := NM.r f166 hm
              have RU := RU.r f166 hm
              have WO := WO.r f166 hm
              have IC := (f166.i 1752).trans IC
              have IA := IA.r f166 hm
              obtain ⟨p7, enp7⟩ : ∃ x, (rsg l true p6 w6).1 = x := ⟨_, rfl⟩
              obtain ⟨w7, ewp7⟩ : ∃ x, (rsg l true p6 w6).2 = x := ⟨_, rfl⟩
              rw [enp7] at PW
              rw [ewp7] at PW
              have J7 : (w7 = -1 ∧ True ∧ pWord l 12 46 p6 = true ∧ p7 = wordE l p6 12 46) ∨ badJ (badD l a) p7 w7 := by
                rw [← enp7, ← ewp7]
                exact rsg_j (b := true) (B := (badD l a)) (Or.inl ⟨jt.1, trivial⟩) (fun _ z => by
                  have z : pWord l 12 46 p6 = false := z
                  have e0 : pIns l 6 p5 = icat xs (false, p6, []) := by rw [jt.2.2, pIns_bad (by omega) (by rw [pin]; exact z), pin]; dsimp only; rw [pWord_f z]
                  exact pd_5 jt.2.1 (Or.inl (by rw [e0]; rfl)) (by rw [e0]; rfl))
              refine w_aload_n d212_169 rfl ?_
              refine w_getI (x := w7) d212_170 (ok166.kd hm) PW.2 ?_
              refine w_iflt d212_173 (fun c173 => ?_) (fun c173 => ?_)
              · obtain ⟨w7e, -, w7p, w7q⟩ := jw J7 (by omega)
                have wl7 := pWord_rg fle w7p
                rw [← w7q] at wl7
                have pin1 : pIn l p6 = (true, p7, (false, sl l p6 p7)) := by rw [pin, w7p, ← w7q]
                have rp7 := rg1740 ok166 hm
                rw [PW.1] at rp7
                refine w_aload_n d212_177 rfl ?_
                refine w_dloadS d212_178 (ok166.kd hm) (fr1753 ok166 hm) ?_
                refine w_aload_n d212_181 rfl ?_
                refine w_getI (x := ((xs.length : Nat) : Int)) d212_182 (ok166.kd hm) IC ?_
                refine w_iload_n d212_185 rfl ?_
                refine wa1753 d212_186 ok166 hm (by omega) (by omega) (fun h186 e186 m186 => ?_)
                have e186 : h186 = sAI h166 (sT S 1753 m) xs.length 0 := e186
                have f186 : Fr S m [1753] _ _ := Fr.wB ok166 hm m186 (fun ζ e => ⟨1753, by decide, by decide, e ▸ U_refl⟩)
                have ok186 := f186.ok
                have FR186 := Fr.tr (F := [1740, 1738, 1742, 1743, 1748, 1749, 1750, 1751, 1752, 1753, 1754, 1755, 1756, 1757, 1758, 1741]) FR166 f186 (by decide) (by decide)
                have NM := NM.r f186 hm
                have RU := RU.r f186 hm
                have WO := WO.r f186 hm
                have RQ := RQ.r f186 hm
                have PW := PW.r f186 hm
                have IC := (f186.i 1752).trans IC
                have IA := InA.w IA e186
                have v1 : AI h186 (sT S 1753 m) xs.length = b2i false := by rw [e186, sArr, if_pos rfl]; rfl
                refine w_aload_n d212_187 rfl ?_
                refine w_dloadS d212_188 (ok186.kd hm) (fr1754 ok186 hm) ?_
                refine w_aload_n d212_191 rfl ?_
                refine w_getI (x := ((xs.length : Nat) : Int)) d212_192 (ok186.kd hm) IC ?_
                refine w_iload_n d212_195 rfl ?_
                refine wa1754 d212_196 ok186 hm (by omega) (by omega) (fun h196 e196 m196 => ?_)
                have e196 : h196 = sAI h186 (sT S 1754 m) xs.length ((p6 : Nat) : Int) := e196
                have f196 : Fr S m [1754] _ _ := Fr.wB ok186 hm m196 (fun ζ e => ⟨1754, by decide, by decide, e ▸ U_refl⟩)
                have ok196 := f196.ok
                have FR196 := Fr.tr (F := [1740, 1738, 1742, 1743, 1748, 1749, 1750, 1751, 1752, 1753, 1754, 1755, 1756, 1757, 1758, 1741]) FR186 f196 (by decide) (by decide)
                have NM := NM.r f196 hm
                have RU := RU.r f196 hm
                have WO := WO.r f196 hm
                have RQ := RQ.r f196 hm
                have PW := PW.r f196 hm
                have IC := (f196.i 1752).trans IC
                have IA := InA.w IA e196
                have v1 : AI h196 (sT S 1753 m) xs.length = b2i false := by rw [f196.ai (by have := kT1753 ok hm; omega) (by decide) (by decide) (by decide)]; exact v1
                have v2 : AI h196 (sT S 1754 m) xs.length = ((p6 : Nat) : Int) := by rw [e196, sArr, if_pos rfl]
                refine w_aload_n d212_197 rfl ?_
                refine w_dloadS d212_198 (ok196.kd hm) (fr1755 ok196 hm) ?_
                refine w_aload_n d212_201 rfl ?_
                refine w_getI (x := ((xs.length : Nat) : Int)) d212_202 (ok196.kd hm) IC ?_
                refine w_aload_n d212_205 rfl ?_
                refine w_getI (x := ((p7 : Nat) : Int)) d212_206 (ok196.kd hm) PW.1 ?_
                refine wa1755 d212_209 ok196 hm (by omega) (by omega) (fun h209 e209 m209 => ?_)
                have e209 : h209 = sAI h196 (sT S 1755 m) xs.length ((p7 : Nat) : Int) := e209
                have f209 : Fr S m [1755] _ _ := Fr.wB ok196 hm m209 (fun ζ e => ⟨1755, by decide, by decide, e ▸ U_refl⟩)
                have ok209 := f209.ok
                have FR209 := Fr.tr (F := [1740, 1738, 1742, 1743, 1748, 1749, 1750, 1751, 1752, 1753, 1754, 1755, 1756, 1757, 1758, 1741]) FR196 f209 (by decide) (by decide)
                have NM := NM.r f209 hm
                have RU := RU.r f209 hm
                have WO := WO.r f209 hm
                have RQ := RQ.r f209 hm
                have PW := PW.r f209 hm
                have IC := (f209.i 1752).trans IC
                have IA := InA.w IA e209
                have v1 : AI h209 (sT S 1753 m) xs.length = b2i false := by rw [f209.ai (by have := kT1753 ok hm; omega) (by decide) (by decide) (by decide)]; exact v1
                have v2 : AI h209 (sT S 1754 m) xs.length = ((p6 : Nat) : Int) := by rw [f209.ai (by have := kT1754 ok hm; omega) (by decide) (by decide) (by decide)]; exact v2
                have v3 : AI h209 (sT S 1755 m) xs.length = ((p7 : Nat) : Int) := by rw [e209, sArr, if_pos rfl]
                have IA : InA S h209 m l (xs ++ [(false, sl l p6 p7)]) := InA.add (x := (false, sl l p6 p7)) IA v1 v2 v3 ⟨by omega, wl7.2⟩ rfl
                refine w_aload_n d212_210 rfl ?_
                refine w_dupR d212_211 ?_
                refine w_getI (x := ((xs.length : Nat) : Int)) d212_212 (ok209.kd hm) IC ?_
                refine w_iconst d212_215 (by decide) ?_
                refine w_iadd d212_216 (by constructor <;> omega) ?_
                refine wf1752 d212_217 ok209 hm (by omega) (fun h217 e217 m217 => ?_)
                have f217 : Fr S m [1752] _ _ := Fr.wF ok209 m217 (FK.pI e217)
                have ok217 := f217.ok
                have FR217 := Fr.tr (F := [1740, 1738, 1742, 1743, 1748, 1749, 1750, 1751, 1752, 1753, 1754, 1755, 1756, 1757, 1758, 1741]) FR209 f217 (by decide) (by decide)
                have NM := NM.r f217 hm
                have RU := RU.r f217 hm
                have WO := WO.r f217 hm
                have RQ := RQ.r f217 hm
                have PW := PW.r f217 hm
                have IA := IA.r f217 hm
                have IC : FI h217 1752 m = (((xs ++ [(false, sl l p6 p7)]).length : Nat) : Int) := by rw [e217, FI_sFI, if_pos ⟨rfl, rfl⟩, List.length_append]; rfl
                have xl : (xs ++ [(false, sl l p6 p7)]).length = xs.length + 1 := by rw [List.length_append]; rfl
                refine w_aload_n d212_220 rfl ?_
                refine w_callv1 d212_221 (by omega) rfl (ok217.kd hm) (by simp) (Nat.le_of_ble_eq_true rfl) ?_
                refine k_M_byteHere ok217 (by omega) hm RQ PW ?_
                refine w_bipush d212_224 (by decide) ?_
                refine w_icmpne d212_226 (fun c226 => ?_) (fun c226 => ?_)
                · have qz : (0 : Int) = b2i false := rfl
                  have jn : pIns l 6 p5 = (true, p7, xs ++ [(false, sl l p6 p7)]) := by rw [jt.2.2, pIns_end (by omega) (by rw [pin1]) (Or.inr (by rw [pin1]; exact sgn_n (c := 44) c226)), pin1]; rfl
                  refine w_iconst d212_242 (by decide) ?_
                  refine w_istore1 d212_243 rfl ?_
                  refine w_iload_n d212_244 rfl ?_
                  refine w_ifeq d212_245 (fun c245 => ?_) (fun c245 => ?_)
                  · refine w_goto d212_258 ?_
                    rw [qz]
                    refine w_less ?_ (IH118 _ (by omega) h217 false _ w7 _ rfl FR217 ⟨by omega, fun z => absurd z (by decide)⟩ PW IC IA (fun z => absurd z (by decide)) (fun _ => Or.inl ⟨w7e, jt.2.1, jn⟩) NM RU WO)
                    exact ⟨Or.inr rfl, Or.inr rfl, Or.inl rfl, Or.inl rfl, trivial⟩
                  · exact absurd rfl c245
                · refine w_aload_n d212_229 rfl ?_
                  refine w_getI (x := (((xs ++ [(false, sl l p6 p7)]).length : Nat) : Int)) d212_230 (ok217.kd hm) IC ?_
                  refine w_bipush d212_233 (by decide) ?_
                  refine w_icmpge d212_235 (fun c235 => ?_) (fun c235 => ?_)
                  · have qz : (0 : Int) = b2i false := rfl
                    have jn : pIns l 6 p5 = (true, p7, xs ++ [(false, sl l p6 p7)]) := by rw [jt.2.2, pIns_end (by omega) (by rw [pin1]) (Or.inl (by omega)), pin1]; rfl
                    refine w_iconst d212_242 (by decide) ?_
                    refine w_istore1 d212_243 rfl ?_
                    refine w_iload_n d212_244 rfl ?_
                    refine w_ifeq d212_245 (fun c245 => ?_) (fun c245 => ?_)
                    · refine w_goto d212_258 ?_
                      rw [qz]
                      refine w_less ?_ (IH118 _ (by omega) h217 false _ w7 _ rfl FR217 ⟨by omega, fun z => absurd z (by decide)⟩ PW IC IA (fun z => absurd z (by decide)) (fun _ => Or.inl ⟨w7e, jt.2.1, jn⟩) NM RU WO)
                      exact ⟨Or.inr rfl, Or.inr rfl, Or.inl rfl, Or.inl rfl, trivial⟩
                    · exact absurd rfl c245
                  · have qz : (1 : Int) = b2i true := rfl
                    have s44 : pSign l 44 p7 = true := sgn_h.mpr (by omega)
                    have pl7 := pSign_lt s44
                    have jn : pIns l 6 p5 = icat (xs ++ [(false, sl l p6 p7)]) (pIns l (6 - (xs ++ [(false, sl l p6 p7)]).length) (p7 + 1)) := by rw [jt.2.2, pIns_go (by omega) (by rw [pin1]) (by rw [pin1]; exact s44), pin1, icat_2, xl]; rfl
                    refine w_iconst d212_238 (by decide) ?_
                    refine w_goto d212_239 ?_
                    refine w_istore1 d212_243 rfl ?_
                    refine w_iload_n d212_244 rfl ?_
                    refine w_ifeq d212_245 (fun c245 => ?_) (fun c245 => ?_)
                    · exact absurd c245 (by decide)
                    · refine w_aload_n d212_248 rfl ?_
                      refine w_dupR d212_249 ?_
                      refine w_getI (x := ((p7 : Nat) : Int)) d212_250 (ok217.kd hm) PW.1 ?_
                      refine w_iconst d212_253 (by decide) ?_
                      refine w_iadd d212_254 (by constructor <;> omega) ?_
                      refine wf1740 d212_255 ok217 hm (by omega) (fun h255 e255 m255 => ?_)
                      have f255 : Fr S m [1740] _ _ := Fr.wF ok217 m255 (FK.pI e255)
                      have ok255 := f255.ok
                      have FR255 := Fr.tr (F := [1740, 1738, 1742, 1743, 1748, 1749, 1750, 1751, 1752, 1753, 1754, 1755, 1756, 1757, 1758, 1741]) FR217 f255 (by decide) (by decide)
                      have NM := NM.r f255 hm
                      have RU := RU.r f255 hm
                      have WO := WO.r f255 hm
                      have RQ := RQ.r f255 hm
                      have IA := IA.r f255 hm
                      have IC := (f255.i 1752).trans IC
                      have PW : PwR h255 m (p7 + 1) w7 := ⟨by rw [e255, FI_sFI, if_pos ⟨rfl, rfl⟩]; rfl, (f255.i 1738 (by decide)).trans PW.2⟩
                      refine w_goto d212_258 ?_
                      rw [qz]
                      refine w_less ?_ (IH118 _ (by omega) h255 true _ w7 _ rfl FR255 ⟨by omega, fun _ => ⟨by omega, by omega⟩⟩ PW IC IA (fun _ => ⟨w7e, jt.2.1, jn⟩) (fun z => absurd z (by decide)) NM RU WO)
                      exact ⟨Or.inr rfl, Or.inr rfl, Or.inl rfl, Or.inl rfl, trivial⟩
              · refine w_return d212_176 ?_
                obtain ⟨be1, be2⟩ := bad_end (S := S) PW (jb J7 (by omega))
                have NIa : NmI h166 m := ⟨a, n1, NM, nr1.1, by have := RQ.2.1; omega⟩
                exact kk _ FR166 RQ be1 be2 NIa
          · exact absurd rfl c138
        · have s58 : pSign l 58 p6 = true := sgn_h.mpr (by omega)
          have pin : pIn l p6 = (pWord l 8 48 (p6 + 1), wordE l (p6 + 1) 8 48, (true, sl l (p6 + 1) (wordE l (p6 + 1) 8 48))) := by unfold pIn; rw [if_pos s58]
          have fle : (p6 + 1) ≤ l.length := pSign_lt s58
          have l9 := RQ.2.1
          refine w_iconst d212_131 (by decide) ?_
          refine w_goto d212_132 ?_
          refine w_istore2 d212_136 rfl ?_
          refine w_iload_n d212_137 rfl ?_
          refine w_ifeq d212_138 (fun c138 => ?_) (fun c138 => ?_)
          · exact absurd c138 (by decide)
          · refine w_aload_n d212_141 rfl ?_
            refine w_dupR d212_142 ?_
            refine w_getI (x := ((p6 : Nat) : Int)) d212_143 (okg.kd hm) PW.1 ?_
            refine w_iconst d212_146 (by decide) ?_
            refine w_iadd d212_147 (by constructor <;> omega) ?_
            refine wf1740 d212_148 okg hm (by omega) (fun h148 e148 m148 => ?_)
            have f148 : Fr S m [1740] _ _ := Fr.wF okg m148 (FK.pI e148)
            have ok148 := f148.ok
            have FR148 := Fr.tr (F := [1740, 1738, 1742, 1743, 1748, 1749, 1750, 1751, 1752, 1753, 1754, 1755, 1756, 1757, 1758, 1741]) FRg f148 (by decide) (by decide)
            have NM := NM.r f148 hm
            have RU := RU.r f148 hm
            have WO := WO.r f148 hm
            have RQ := RQ.r f148 hm
            have IC := (f148.i 1752).trans IC
            have IA := IA.r f148 hm
            have PW : PwR h148 m (p6 + 1) w6 := ⟨by rw [e148, FI_sFI, if_pos ⟨rfl, rfl⟩]; rfl, (f148.i 1738 (by decide)).trans PW.2⟩
            refine w_aload_n d212_151 rfl ?_
            refine w_getI (x := (((p6 + 1) : Nat) : Int)) d212_152 (ok148.kd hm) PW.1 ?_
            refine w_istore3 d212_155 rfl ?_
            refine w_aload_n d212_156 rfl ?_
            refine w_iload_n d212_157 rfl ?_
            refine w_ifne d212_158 (fun c158 => ?_) (fun c158 => ?_)
            · refine w_iconst d212_165 (by decide) ?_
              refine w_callv2 d212_166 (by omega) rfl (ok148.kd hm) (by simp) (Nat.le_of_ble_eq_true rfl) ?_
              refine k_M_readSigns (b := false) ok148 (by omega) hm RQ PW (fun h166 f166 RQ PW => ?_)
              have ok166 := f166.ok
              have FR166 := Fr.tr (F := [1740, 1738, 1742, 1743, 1748, 1749, 1750, 1751, 1752, 1753, 1754, 1755, 1756, 1757, 1758, 1741]) FR148 f166 (by decide) (by decide)
              have NM := NM.r f166 hm
              have RU := RU.r f166 hm
              have WO := WO.r f166 hm
              have IC := (f166.i 1752).trans IC
              have IA := IA.r f166 hm
              obtain ⟨p7, enp7⟩ : ∃ x, (rsg l false (p6 + 1) w6).1 = x := ⟨_, rfl⟩
              obtain ⟨w7, ewp7⟩ : ∃ x, (rsg l false (p6 + 1) w6).2 = x := ⟨_, rfl⟩
              rw [enp7] at PW
              rw [ewp7] at PW
              have J7 : (w7 = -1 ∧ True ∧ pWord l 8 48 (p6 + 1) = true ∧ p7 = wordE l (p6 + 1) 8 48) ∨ badJ (badD l a) p7 w7 := by
                rw [← enp7, ← ewp7]
                exact rsg_j (b := false) (B := (badD l a)) (Or.inl ⟨jt.1, trivial⟩) (fun _ z => by
                  have z : pWord l 8 48 (p6 + 1) = false := z
                  have e0 : pIns l 6 p5 = icat xs (false, (p6 + 1), []) := by rw [jt.2.2, pIns_bad (by omega) (by rw [pin]; exact z), pin]; dsimp only; rw [pWord_f z]
                  exact pd_5 jt.2.1 (Or.inl (by rw [e0]; rfl)) (by rw [e0]; rfl))
              refine w_aload_n d212_169 rfl ?_
              refine w_getI (x := w7) d212_170 (ok166.kd hm) PW.2 ?_
              refine w_iflt d212_173 (fun c173 => ?_) (fun c173 => ?_)
              · obtain ⟨w7e, -, w7p, w7q⟩ := jw J7 (by omega)
                have wl7 := pWord_rg fle w7p
                rw [← w7q] at wl7
                have pin1 : pIn l p6 = (true, p7, (true, sl l (p6 + 1) p7)) := by rw [pin, w7p, ← w7q]
                have rp7 := rg1740 ok166 hm
                rw [PW.1] at rp7
                refine w_aload_n d212_177 rfl ?_
                refine w_dloadS d212_178 (ok166.kd hm) (fr1753 ok166 hm) ?_
                refine w_aload_n d212_181 rfl ?_
                refine w_getI (x := ((xs.length : Nat) : Int)) d212_182 (ok166.kd hm) IC ?_
                refine w_iload_n d212_185 rfl ?_
                refine wa1753 d212_186 ok166 hm (by omega) (by omega) (fun h186 e186 m186 => ?_)
                have e186 : h186 = sAI h166 (sT S 1753 m) xs.length 1 := e186
                have f186 : Fr S m [1753] _ _ := Fr.wB ok166 hm m186 (fun ζ e => ⟨1753, by decide, by decide, e ▸ U_refl⟩)
                have ok186 := f186.ok
                have FR186 := Fr.tr (F := [1740, 1738, 1742, 1743, 1748, 1749, 1750, 1751, 1752, 1753, 1754, 1755, 1756, 1757, 1758, 1741]) FR166 f186 (by decide) (by decide)
                have NM := NM.r f186 hm
                have RU := RU.r f186 hm
                have WO := WO.r f186 hm
                have RQ := RQ.r f186 hm
                have IC := (f186.i 1752).trans IC
                have PW := PW.r f186 hm
                have IA := InA.w IA e186
                have v1 : AI h186 (sT S 1753 m) xs.length = b2i true := by rw [e186, sArr, if_pos rfl]; rfl
                refine w_aload_n d212_187 rfl ?_
                refine w_dloadS d212_188 (ok186.kd hm) (fr1754 ok186 hm) ?_
                refine w_aload_n d212_191 rfl ?_
                refine w_getI (x := ((xs.length : Nat) : Int)) d212_192 (ok186.kd hm) IC ?_
                refine w_iload_n d212_195 rfl ?_
                refine wa1754 d212_196 ok186 hm (by omega) (by omega) (fun h196 e196 m196 => ?_)
                have e196 : h196 = sAI h186 (sT S 1754 m) xs.length (((p6 + 1) : Nat) : Int) := e196
                have f196 : Fr S m [1754] _ _ := Fr.wB ok186 hm m196 (fun ζ e => ⟨1754, by decide, by decide, e ▸ U_refl⟩)
                have ok196 := f196.ok
                have FR196 := Fr.tr (F := [1740, 1738, 1742, 1743, 1748, 1749, 1750, 1751, 1752, 1753, 1754, 1755, 1756, 1757, 1758, 1741]) FR186 f196 (by decide) (by decide)
                have NM := NM.r f196 hm
                have RU := RU.r f196 hm
                have WO := WO.r f196 hm
                have RQ := RQ.r f196 hm
                have IC := (f196.i 1752).trans IC
                have PW := PW.r f196 hm
                have IA := InA.w IA e196
                have v1 : AI h196 (sT S 1753 m) xs.length = b2i true := by rw [f196.ai (by have := kT1753 ok hm; omega) (by decide) (by decide) (by decide)]; exact v1
                have v2 : AI h196 (sT S 1754 m) xs.length = (((p6 + 1) : Nat) : Int) := by rw [e196, sArr, if_pos rfl]
                refine w_aload_n d212_197 rfl ?_
                refine w_dloadS d212_198 (ok196.kd hm) (fr1755 ok196 hm) ?_
                refine w_aload_n d212_201 rfl ?_
                refine w_getI (x := ((xs.length : Nat) : Int)) d212_202 (ok196.kd hm) IC ?_
                refine w_aload_n d212_205 rfl ?_
                refine w_getI (x := ((p7 : Nat) : Int)) d212_206 (ok196.kd hm) PW.1 ?_
                refine wa1755 d212_209 ok196 hm (by omega) (by omega) (fun h209 e209 m209 => ?_)
                have e209 : h209 = sAI h196 (sT S 1755 m) xs.length ((p7 : Nat) : Int) := e209
                have f209 : Fr S m [1755] _ _ := Fr.wB ok196 hm m209 (fun ζ e => ⟨1755, by decide, by decide, e ▸ U_refl⟩)
                have ok209 := f209.ok
                have FR209 := Fr.tr (F := [1740, 1738, 1742, 1743, 1748, 1749, 1750, 1751, 1752, 1753, 1754, 1755, 1756, 1757, 1758, 1741]) FR196 f209 (by decide) (by decide)
                have NM := NM.r f209 hm
                have RU := RU.r f209 hm
                have WO := WO.r f209 hm
                have RQ := RQ.r f209 hm
                have IC := (f209.i 1752).trans IC
                have PW := PW.r f209 hm
                have IA := InA.w IA e209
                have v1 : AI h209 (sT S 1753 m) xs.length = b2i true := by rw [f209.ai (by have := kT1753 ok hm; omega) (by decide) (by decide) (by decide)]; exact v1
                have v2 : AI h209 (sT S 1754 m) xs.length = (((p6 + 1) : Nat) : Int) := by rw [f209.ai (by have := kT1754 ok hm; omega) (by decide) (by decide) (by decide)]; exact v2
                have v3 : AI h209 (sT S 1755 m) xs.length = ((p7 : Nat) : Int) := by rw [e209, sArr, if_pos rfl]
                have IA : InA S h209 m l (xs ++ [(true, sl l (p6 + 1) p7)]) := InA.add (x := (true, sl l (p6 + 1) p7)) IA v1 v2 v3 ⟨by omega, wl7.2⟩ rfl
                refine w_aload_n d212_210 rfl ?_
                refine w_dupR d212_211 ?_
                refine w_getI (x := ((xs.length : Nat) : Int)) d212_212 (ok209.kd hm) IC ?_
                refine w_iconst d212_215 (by decide) ?_
                refine w_iadd d212_216 (by constructor <;> omega) ?_
                refine wf1752 d212_217 ok209 hm (by omega) (fun h217 e217 m217 => ?_)
                have f217 : Fr S m [1752] _ _ := Fr.wF ok209 m217 (FK.pI e217)
                have ok217 := f217.ok
                have FR217 := Fr.tr (F := [1740, 1738, 1742, 1743, 1748, 1749, 1750, 1751, 1752, 1753, 1754, 1755, 1756, 1757, 1758, 1741]) FR209 f217 (by decide) (by decide)
                have NM := NM.r f217 hm
                have RU := RU.r f217 hm
                have WO := WO.r f217 hm
                have RQ := RQ.r f217 hm
                have PW := PW.r f217 hm
                have IA := IA.r f217 hm
                have IC : FI h217 1752 m = (((xs ++ [(true, sl l (p6 + 1) p7)]).length : Nat) : Int) := by rw [e217, FI_sFI, if_pos ⟨rfl, rfl⟩, List.length_append]; rfl
                have xl : (xs ++ [(true, sl l (p6 + 1) p7)]).length = xs.length + 1 := by rw [List.length_append]; rfl
                refine w_aload_n d212_220 rfl ?_
                refine w_callv1 d212_221 (by omega) rfl (ok217.kd hm) (by simp) (Nat.le_of_ble_eq_true rfl) ?_
                refine k_M_byteHere ok217 (by omega) hm RQ PW ?_
                refine w_bipush d212_224 (by decide) ?_
                refine w_icmpne d212_226 (fun c226 => ?_) (fun c226 => ?_)
                · have qz : (0 : Int) = b2i false := rfl
                  have jn : pIns l 6 p5 = (true, p7, xs ++ [(true, sl l (p6 + 1) p7)]) := by rw [jt.2.2, pIns_end (by omega) (by rw [pin1]) (Or.inr (by rw [pin1]; exact sgn_n (c := 44) c226)), pin1]; rfl
                  refine w_iconst d212_242 (by decide) ?_
                  refine w_istore1 d212_243 rfl ?_
                  refine w_iload_n d212_244 rfl ?_
                  refine w_ifeq d212_245 (fun c245 => ?_) (fun c245 => ?_)
                  · refine w_goto d212_258 ?_
                    rw [qz]
                    refine w_less ?_ (IH118 _ (by omega) h217 false _ w7 _ rfl FR217 ⟨by omega, fun z => absurd z (by decide)⟩ PW IC IA (fun z => absurd z (by decide)) (fun _ => Or.inl ⟨w7e, jt.2.1, jn⟩) NM RU WO)
                    exact ⟨Or.inr rfl, Or.inr rfl, Or.inl rfl, Or.inl rfl, trivial⟩
                  · exact absurd rfl c245
                · refine w_aload_n d212_229 rfl ?_
                  refine w_getI (x := (((xs ++ [(true, sl l (p6 + 1) p7)]).length : Nat) : Int)) d212_230 (ok217.kd hm) IC ?_
                  refine w_bipush d212_233 (by decide) ?_
                  refine w_icmpge d212_235 (fun c235 => ?_) (fun c235 => ?_)
                  · have qz : (0 : Int) = b2i false := rfl
                    have jn : pIns l 6 p5 = (true, p7, xs ++ [(true, sl l (p6 + 1) p7)]) := by rw [jt.2.2, pIns_end (by omega) (by rw [pin1]) (Or.inl (by omega)), pin1]; rfl
                    refine w_iconst d212_242 (by decide) ?_
                    refine w_istore1 d212_243 rfl ?_
                    refine w_iload_n d212_244 rfl ?_
                    refine w_ifeq d212_245 (fun c245 => ?_) (fun c245 => ?_)
                    · refine w_goto d212_258 ?_
                      rw [qz]
                      refine w_less ?_ (IH118 _ (by omega) h217 false _ w7 _ rfl FR217 ⟨by omega, fun z => absurd z (by decide)⟩ PW IC IA (fun z => absurd z (by decide)) (fun _ => Or.inl ⟨w7e, jt.2.1, jn⟩) NM RU WO)
                      exact ⟨Or.inr rfl, Or.inr rfl, Or.inl rfl, Or.inl rfl, trivial⟩
                    · exact absurd rfl c245
                  · have qz : (1 : Int) = b2i true := rfl
                    have s44 : pSign l 44 p7 = true := sgn_h.mpr (by omega)
                    have pl7 := pSign_lt s44
                    have jn : pIns l 6 p5 = icat (xs ++ [(true, sl l (p6 + 1) p7)]) (pIns l (6 - (xs ++ [(true, sl l (p6 + 1) p7)]).length) (p7 + 1)) := by rw [jt.2.2, pIns_go (by omega) (by rw [pin1]) (by rw [pin1]; exact s44), pin1, icat_2, xl]; rfl
                    refine w_iconst d212_238 (by decide) ?_
                    refine w_goto d212_239 ?_
                    refine w_istore1 d212_243 rfl ?_
                    refine w_iload_n d212_244 rfl ?_
                    refine w_ifeq d212_245 (fun c245 => ?_) (fun c245 => ?_)
                    · exact absurd c245 (by decide)
                    · refine w_aload_n d212_248 rfl ?_
                      refine w_dupR d212_249 ?_
                      refine w_getI (x := ((p7 : Nat) : Int)) d212_250 (ok217.kd hm) PW.1 ?_
                      refine w_iconst d212_253 (by decide) ?_
                      refine w_iadd d212_254 (by constructor <;> omega) ?_
                      refine wf1740 d212_255 ok217 hm (by omega) (fun h255 e255 m255 => ?_)
                      have f255 : Fr S m [1740] _ _ := Fr.wF ok217 m255 (FK.pI e255)
                      have ok255 := f255.ok
                      have FR255 := Fr.tr (F := [1740, 1738, 1742, 1743, 1748, 1749, 1750, 1751, 1752, 1753, 1754, 1755, 1756, 1757, 1758, 1741]) FR217 f255 (by decide) (by decide)
                      have NM := NM.r f255 hm
                      have RU := RU.r f255 hm
                      have WO := WO.r f255 hm
                      have RQ := RQ.r f255 hm
                      have IA := IA.r f255 hm
                      have IC := (f255.i 1752).trans IC
                      have PW : PwR h255 m (p7 + 1) w7 := ⟨by rw [e255, FI_sFI, if_pos ⟨rfl, rfl⟩]; rfl, (f255.i 1738 (by decide)).trans PW.2⟩
                      refine w_goto d212_258 ?_
                      rw [qz]
                      refine w_less ?_ (IH118 _ (by omega) h255 true _ w7 _ rfl FR255 ⟨by omega, fun _ => ⟨by omega, by omega⟩⟩ PW IC IA (fun _ => ⟨w7e, jt.2.1, jn⟩) (fun z => absurd z (by decide)) NM RU WO)
                      exact ⟨Or.inr rfl, Or.inr rfl, Or.inl rfl, Or.inl rfl, trivial⟩
              · refine w_return d212_176 ?_
                obtain ⟨be1, be2⟩ := bad_end (S := S) PW (jb J7 (by omega))
                have NIa : NmI h166 m := ⟨a, n1, NM, nr1.1, by have := RQ.2.1; omega⟩
                exact kk _ FR166 RQ be1 be2 NIa
            · exact absurd c158 (by decide)
    refine w_getI (x := w5) d212_106 (ok102.kd hm) PW.2 ?_
    refine w_ifge d212_109 (fun c109 => ?_) (fun c109 => ?_)
    · have j5 := jb J5 (by omega)
      have qz : (0 : Int) = b2i false := rfl
      refine w_iconst d212_116 (by decide) ?_
      refine w_istore1 d212_117 rfl ?_
      rw [qz]
      refine w_less ?_ (L118 _ h102 false p5 w5 [] rfl FR102 ⟨Nat.zero_le _, fun z => absurd z (by decide)⟩ PW IC IA (fun z => absurd z (by decide)) (fun _ => Or.inr j5) NM RU WO)
      exact ⟨Or.inr rfl, Or.inr rfl, Or.inl rfl, Or.inl rfl, trivial⟩
    · have j5 := jw J5 (by omega)
      have qz : (1 : Int) = b2i true := rfl
      have g5a : g5 l a n1 p2 p3 wf p p5 := by rw [j5.2.2.2]; exact pd_4 hal j5.2.1 j5.2.2.1
      refine w_iconst d212_112 (by decide) ?_
      refine w_goto d212_113 ?_
      refine w_istore1 d212_117 rfl ?_
      rw [qz]
      refine w_less ?_ (L118 _ h102 true p5 w5 [] rfl FR102 ⟨Nat.zero_le _, fun _ => ⟨by decide, by have := pSign_lt j5.2.2.1; omega⟩⟩ PW IC IA (fun _ => ⟨j5.1, g5a, rfl⟩) (fun z => absurd z (by decide)) NM RU WO)
      exact ⟨Or.inr rfl, Or.inr rfl, Or.inl rfl, Or.inl rfl, trivial⟩
  refine w_ifge d212_51 (fun c51 => ?_) (fun c51 => ?_)
  · have J4 : (w3 = -1 ∧ g4 l a n1 p2 p3 p3 p3) ∨ badJ (badD l a) p3 w3 := Or.inr (jb J3 (by omega))
    refine w_less ?_ (L94 _ h44 _ _ _ rfl FR44 PW WO J4 NM RU)
    exact ⟨Or.inr rfl, Or.inl rfl, Or.inl rfl, Or.inl rfl, trivial⟩
  · obtain ⟨w3e, x3, wp3, wq3⟩ := jw J3 (by omega)
    have g2a : g2 l a := ⟨x3.1.2.1, by rw [← x3.1.2.2]; exact x3.2.1⟩
    have p2l := pSign_lt x3.2.1
    have wr3 := pWord_rg (show p2 ≤ l.length by omega) wp3
    rw [← wq3] at wr3
    refine w_aload_n d212_54 rfl ?_
    refine w_callv1 d212_55 (by omega) rfl (ok44.kd hm) (by simp) (Nat.le_of_ble_eq_true rfl) ?_
    refine k_M_byteHere ok44 (by omega) hm RQ PW ?_
    refine w_bipush d212_58 (by decide) ?_
    refine w_icmpne d212_60 (fun c60 => ?_) (fun c60 => ?_)
    · have J4 : (w3 = -1 ∧ g4 l a n1 p2 p3 p3 p3) ∨ badJ (badD l a) p3 w3 := Or.inl ⟨w3e, x3.1.2.2, g2a, x3.2.2, by rw [pr_1 wp3 (by rw [← wq3]; exact sgn_n (c := 46) c60), ← wq3, sl_nil], by omega, wr3.2, Nat.le_refl _, wr3.2⟩
      refine w_less ?_ (L94 _ h44 _ _ _ rfl FR44 PW WO J4 NM RU)
      exact ⟨Or.inr rfl, Or.inl rfl, Or.inl rfl, Or.inl rfl, trivial⟩
    · have s46 : pSign l 46 p3 = true := sgn_h.mpr (by omega)
      have pl3 := pSign_lt s46
      have l9 := RQ.2.1
      refine w_aload_n d212_63 rfl ?_
      refine w_dupR d212_64 ?_
      refine w_getI (x := ((p3 : Nat) : Int)) d212_65 (ok44.kd hm) PW.1 ?_
      refine w_iconst d212_68 (by decide) ?_
      refine w_iadd d212_69 (by constructor <;> omega) ?_
      refine wf1740 d212_70 ok44 hm (by omega) (fun h70 e70 m70 => ?_)
      have f70 : Fr S m [1740] _ _ := Fr.wF ok44 m70 (FK.pI e70)
      have ok70 := f70.ok
      have FR70 := Fr.tr (F := [1740, 1738, 1742, 1743, 1748, 1749, 1750, 1751, 1752, 1753, 1754, 1755, 1756, 1757, 1758, 1741]) FR44 f70 (by decide) (by decide)
      have RQ := RQ.r f70 hm
      have NM := NM.r f70 hm
      have RU := RU.r f70 hm
      have WO := WO.r f70 hm
      have PW : PwR h70 m (p3 + 1) w3 := ⟨by rw [e70, FI_sFI, if_pos ⟨rfl, rfl⟩]; rfl, (f70.i 1738 (by decide)).trans PW.2⟩
      refine w_aload_n d212_73 rfl ?_
      refine w_aload_n d212_74 rfl ?_
      refine w_getI (x := ((p3 + 1 : Nat) : Int)) d212_75 (ok70.kd hm) PW.1 ?_
      refine wf1750 d212_78 ok70 hm (by omega) (fun h78 e78 m78 => ?_)
      have f78 : Fr S m [1750] _ _ := Fr.wF ok70 m78 (FK.pI e78)
      have ok78 := f78.ok
      have FR78 := Fr.tr (F := [1740, 1738, 1742, 1743, 1748, 1749, 1750, 1751, 1752, 1753, 1754, 1755, 1756, 1757, 1758, 1741]) FR70 f78 (by decide) (by decide)
      have RQ := RQ.r f78 hm
      have NM := NM.r f78 hm
      have RU := RU.r f78 hm
      have PW := PW.r f78 hm
      have WF1 : FI h78 1750 m = ((p3 + 1 : Nat) : Int) := by rw [e78, FI_sFI, if_pos ⟨rfl, rfl⟩]
      refine w_aload_n d212_81 rfl ?_
      refine w_iconst d212_82 (by decide) ?_
      refine w_callv2 d212_83 (by omega) rfl (ok78.kd hm) (by simp) (Nat.le_of_ble_eq_true rfl) ?_
      refine k_M_readSigns (b := false) ok78 (by omega) hm RQ PW (fun h83 f83 RQ PW => ?_)
      have ok83 := f83.ok
      have FR83 := Fr.tr (F := [1740, 1738, 1742, 1743, 1748, 1749, 1750, 1751, 1752, 1753, 1754, 1755, 1756, 1757, 1758, 1741]) FR78 f83 (by decide) (by decide)
      have NM := NM.r f83 hm
      have RU := RU.r f83 hm
      have WF1 := (f83.i 1750).trans WF1
      obtain ⟨p4, enp4⟩ : ∃ x, (rsg l false (p3 + 1) w3).1 = x := ⟨_, rfl⟩
      obtain ⟨w4, ewp4⟩ : ∃ x, (rsg l false (p3 + 1) w3).2 = x := ⟨_, rfl⟩
      rw [enp4] at PW
      rw [ewp4] at PW
      have J4b : (w4 = -1 ∧ True ∧ pWord l 8 48 (p3 + 1) = true ∧ p4 = wordE l (p3 + 1) 8 48) ∨ badJ (badD l a) p4 w4 := by
        rw [← enp4, ← ewp4]
        exact rsg_j (b := false) (B := (badD l a)) (Or.inl ⟨w3e, trivial⟩) (fun _ z => by
          have z : pWord l 8 48 (p3 + 1) = false := z
          have e2 := pr_2 wp3 (by rw [← wq3]; exact s46)
          rw [← wq3] at e2
          rw [x3.2.2, x3.1.2.2] at e2
          exact pd_3 g2a (Or.inl (by rw [e2]; exact z)) (by rw [e2]; exact pWord_f z))
      have J4 : (w4 = -1 ∧ g4 l a n1 p2 p3 (p3 + 1) p4) ∨ badJ (badD l a) p4 w4 := by
        rcases J4b with ⟨j1, -, j2, j3⟩ | j
        · have wl := pWord_rg (show p3 + 1 ≤ l.length by omega) j2
          rw [← j3] at wl
          refine Or.inl ⟨j1, x3.1.2.2, g2a, x3.2.2, ?_, by omega, wr3.2, by omega, wl.2⟩
          rw [pr_2 wp3 (by rw [← wq3]; exact s46), ← wq3, j2, ← j3]
        · exact Or.inr j
      have rp4 := rg1740 ok83 hm
      rw [PW.1] at rp4
      refine w_aload_n d212_86 rfl ?_
      refine w_aload_n d212_87 rfl ?_
      refine w_getI (x := ((p4 : Nat) : Int)) d212_88 (ok83.kd hm) PW.1 ?_
      refine wf1751 d212_91 ok83 hm (by omega) (fun h91 e91 m91 => ?_)
      have f91 : Fr S m [1751] _ _ := Fr.wF ok83 m91 (FK.pI e91)
      have ok91 := f91.ok
      have FR91 := Fr.tr (F := [1740, 1738, 1742, 1743, 1748, 1749, 1750, 1751, 1752, 1753, 1754, 1755, 1756, 1757, 1758, 1741]) FR83 f91 (by decide) (by decide)
      have RQ := RQ.r f91 hm
      have NM := NM.r f91 hm
      have RU := RU.r f91 hm
      have PW := PW.r f91 hm
      have WF1 := (f91.i 1750).trans WF1
      have WO : WoR h91 m (p3 + 1) p4 := ⟨WF1, by rw [e91, FI_sFI, if_pos ⟨rfl, rfl⟩]⟩
      refine w_less ?_ (L94 _ h91 _ _ _ rfl FR91 PW WO J4 NM RU)
      exact ⟨Or.inr rfl, Or.inl rfl, Or.inl rfl, Or.inl rfl, trivial⟩
