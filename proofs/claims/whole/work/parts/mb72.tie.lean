/-! the tie: files in any order -/
theorem fix_neg {fl : List (List Nat × List Nat)} {n : List Nat} : fix fl n < 0 ↔ ∀ b, (n, b) ∉ fl := by
  have g := srF_rg (p := fun i => fP fl i == n) (n := fl.length) (i := 0)
  change fix fl n = -1 ∨ ∃ j, 0 ≤ j ∧ j < fl.length ∧ fix fl n = (j : Int) ∧ (fP fl j == n) = true at g
  constructor
  · intro h b hb
    obtain ⟨i, hi, e⟩ := List.getElem_of_mem hb
    have h1 : srF (fun i => fP fl i == n) fl.length 0 = -1 := by
      rcases g with g | ⟨j, -, -, j3, -⟩
      · exact g
      · omega
    have no := srF_none.mp h1 i (Nat.zero_le _) hi
    have e2 : fP fl i = n := by unfold fP; rw [List.getD_eq_getElem?_getD, List.getElem?_eq_getElem hi]; show (fl[i]).1 = n; rw [e]
    rw [e2] at no
    exact absurd no (by simp)
  · intro h
    rcases g with g | ⟨j, -, j2, j3, j4⟩
    · omega
    · have e : fP fl j = n := eq_of_beq j4
      exact absurd (by rw [← e]; unfold fP; rw [List.getD_eq_getElem?_getD, List.getElem?_eq_getElem j2]; exact List.getElem_mem j2 : (n, (fl[j]).2) ∈ fl) (h _)
theorem fix_mem {fl : List (List Nat × List Nat)} {n : List Nat} (h : 0 ≤ fix fl n) : (n, fB fl (fix fl n).toNat) ∈ fl := by
  have g := srF_rg (p := fun i => fP fl i == n) (n := fl.length) (i := 0)
  change fix fl n = -1 ∨ ∃ j, 0 ≤ j ∧ j < fl.length ∧ fix fl n = (j : Int) ∧ (fP fl j == n) = true at g
  rcases g with g | ⟨j, -, j2, j3, j4⟩
  · omega
  · have e : fP fl j = n := eq_of_beq j4
    rw [j3, Int.toNat_natCast, ← e]
    unfold fP fB
    rw [List.getD_eq_getElem?_getD, List.getElem?_eq_getElem j2]
    exact List.getElem_mem j2
theorem nodup_b {fl : List (List Nat × List Nat)} {n b c : List Nat} (d : (fl.map Prod.fst).Nodup) (hb : (n, b) ∈ fl) (hc : (n, c) ∈ fl) : b = c := by
  induction fl with
  | nil => exact absurd hb List.not_mem_nil
  | cons x fl ih =>
    rw [List.map_cons, List.nodup_cons] at d
    rcases List.mem_cons.mp hb with y | y
    · rcases List.mem_cons.mp hc with z | z
      · exact congrArg Prod.snd (y.trans z.symm)
      · exact absurd (List.mem_map.mpr ⟨_, z, by rw [← y]⟩) d.1
    · rcases List.mem_cons.mp hc with z | z
      · exact absurd (List.mem_map.mpr ⟨_, y, by rw [← z]⟩) d.1
      · exact ih d.2 y z
/-- the same plan but for the order of files: the reference's, the class's -/
def plE (P Q : PlV) : Prop := P.2 = Q.2 ∧ (∀ x, x ∈ P.1 ↔ x ∈ Q.1) ∧ P.1.length = Q.1.length ∧ (P.1.map Prod.fst).Nodup ∧ (Q.1.map Prod.fst).Nodup
theorem plE.fx {P Q : PlV} (e : plE P Q) (n : List Nat) : (fix P.1 n < 0 ↔ fix Q.1 n < 0) ∧ (0 ≤ fix P.1 n → fB P.1 (fix P.1 n).toNat = fB Q.1 (fix Q.1 n).toNat) := by
  have a : fix P.1 n < 0 ↔ fix Q.1 n < 0 := by
    rw [fix_neg, fix_neg]
    exact ⟨fun h b hb => h b ((e.2.1 _).mpr hb), fun h b hb => h b ((e.2.1 _).mp hb)⟩
  exact ⟨a, fun h => nodup_b e.2.2.2.2 ((e.2.1 _).mp (fix_mem h)) (fix_mem (by omega))⟩
theorem misP_e {F F' : List Nat → Int} (h : ∀ n, F n < 0 ↔ F' n < 0) {ts : List (Bool × TgV)} {D : TgV} (i : Nat) : misP F ts D i = misP F' ts D i := by
  unfold misP
  split
  · rfl
  · exact decide_eq_decide.mpr (h _)
theorem plE.eA {P Q : PlV} (e : plE P Q) (t : Nat) : tkA P t = tkA Q t := by
  unfold tkA ahead
  have m : misI (fix P.1) P.2.2 (tD P.2.2 t) = misI (fix Q.1) Q.2.2 (tD Q.2.2 t) := by
    rw [e.1]
    unfold misI
    exact srF_congr (fun i _ => misP_e (fun n => (e.fx n).1) i)
  rw [m, e.1]
theorem plE.eI {P Q : PlV} (e : plE P Q) (pu : Nat → OutV) (t : Nat) : tkI P pu t = tkI Q pu t := by
  unfold tkI inpL
  rw [e.1]
  refine List.map_congr_left (fun x _ => ?_)
  unfold inpV
  have f := e.fx x.2
  by_cases z : x.1 = true
  · rw [if_pos z, if_pos z]
  · rw [if_neg z, if_neg z]
    by_cases y : 0 ≤ fix P.1 x.2
    · rw [if_pos y, if_pos (by omega), f.2 y]
    · rw [if_neg y, if_neg (by omega)]
theorem plE.eR {P Q : PlV} (e : plE P Q) (pu : Nat → OutV) (ks : List (Int64 × OutV)) (r : RunV) (w t : Nat) : tkR P pu ks r w t = tkR Q pu ks r w t := by
  unfold tkR tkK tkP tkS
  rw [e.eA t, e.eI pu t, e.1]
theorem plE.eE {P Q : PlV} (e : plE P Q) (pu : Nat → OutV) (pp : Nat → List Int64) (ra : Nat → Nat) (ks : List (Int64 × OutV)) (t : Nat) : tkE P pu pp ra ks t = tkE Q pu pp ra ks t := by
  unfold tkE tkK tkP
  rw [e.eA t, e.eI pu t, e.1]
theorem plE.eT {P Q : PlV} (e : plE P Q) (nd : Nat → Nat) (L w : Nat) (s : GoV) : trn P nd L w s = trn Q nd L w s := by
  have c : ∀ r, cho P nd r = cho Q nd r := fun r => by unfold cho; rw [e.1]
  have g : ∀ t s, tkG P w t s = tkG Q w t s := fun t s => by unfold tkG; rw [e.eE, e.eR]
  have wr : ∀ t s, wrG P w t s = wrG Q w t s := fun t s => by unfold wrG wrR; rw [e.eI, e.1]
  have a : ∀ s, tn1 P nd w s = tn1 Q nd w s := fun s => by unfold tn1; rw [c, g]
  have b : ∀ s, tn2 P L w s = tn2 Q L w s := fun s => by unfold tn2; rw [wr]
  unfold trn
  rw [a, b]
theorem plE.eG {P Q : PlV} (e : plE P Q) (nd : Nat → Nat) (L : Nat) : ∀ (n : Nat) (s : GoV) (g : Bool) (k : Nat), goG P nd L n s g k = goG Q nd L n s g k
  | 0, s, g, k => rfl
  | n + 1, s, g, k => by
    have t : ∀ w s, trs P nd L s w = trs Q nd L s w := fun w => by
      induction w with
      | zero => exact fun s => rfl
      | succ w ih => exact fun s => by rw [trs, trs, ih, e.eT]
    have o : ∀ s, onB P nd s = onB Q nd s := fun s => by unfold onB cho; rw [e.1]
    unfold goG
    rw [t, o, e.eG nd L n]
