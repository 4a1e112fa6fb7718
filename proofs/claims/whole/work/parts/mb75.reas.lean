/-! reasons are clean and short -/
def reaC (x : List Nat) : Prop := cln x ∧ x.length ≤ 60
theorem reaC_nil : reaC [] := ⟨fun _ h => absurd h List.not_mem_nil, Nat.zero_le _⟩
theorem cln_app {a b : List Nat} (ha : cln a) (hb : cln b) : cln (a ++ b) := fun c hc => (List.mem_append.mp hc).elim (ha c) (hb c)
theorem cln_dec (n : Nat) : cln (dec n) := fun c hc => by
  unfold dec dgs at hc
  obtain ⟨i, -, e⟩ := List.mem_map.mp hc
  omega
theorem cln_txt : ∀ i : Fin 89, ∀ c ∈ txt i.val, c ≠ 10 := by decide +kernel
theorem reaC_bad {z : Option (Nat × Nat)} : reaC (badT z) := by
  cases z with
  | none => exact reaC_nil
  | some v =>
    show reaC (txt 27 ++ (dec v.1 ++ ([32] ++ dec v.2)))
    refine ⟨cln_app (cln_txt 27) (cln_app (cln_dec _) (cln_app (fun c hc => by rw [List.mem_singleton.mp hc]; decide) (cln_dec _))), ?_⟩
    have a := dec_10 v.1
    have b := dec_10 v.2
    have c : (txt 27).length ≤ 20 := by decide
    simp only [List.length_append, List.length_cons, List.length_nil]
    omega
theorem reaC_fin {T Y F : List Nat} (h : reaC Y) : reaC (oW (finV T Y F)) := by
  unfold finV
  split
  · exact h
  · split
    · exact ⟨cln_txt 28, by decide⟩
    · exact reaC_nil
theorem reaC_wrk {t : TgV} {ins : List (List Nat)} : reaC (oW (wrkV t ins)) := by
  unfold wrkV
  split
  · exact reaC_fin reaC_bad
  · exact reaC_fin reaC_nil
theorem reaC_ahd {F : List Nat → Int} {gs : List (List Nat × Nat)} {ts : List (Bool × TgV)} {D : TgV} (h : tokD D) : reaC (ahead F gs ts D) := by
  unfold ahead
  split
  · exact ⟨cln_txt 1, by decide⟩
  · split
    · exact reaC_nil
    · have k := h.2.2.2.1 (misI F ts D).toNat
      have a2 : (txt 2).length ≤ 20 := by decide
      have a3 : (txt 3).length ≤ 20 := by decide
      have kl := k.1
      split
      · exact ⟨cln_app (cln_txt 2) k.cl, by rw [List.length_append]; omega⟩
      · exact ⟨cln_app (cln_txt 3) k.cl, by rw [List.length_append]; omega⟩
/-- what a session keeps of reasons -/
def clG (s : GoV) : Prop := (∀ x ∈ s.2.2.2.1, reaC (oW x.2)) ∧ (∀ w, reaC (oW (rB (goR s) w).1)) ∧ reaC (rT (goR s))
theorem kO_cl {ks : List (Int64 × OutV)} (h : ∀ x ∈ ks, reaC (oW x.2)) (i : Nat) : reaC (oW (kO ks i)) := by
  unfold kO
  rw [List.getD_eq_getElem?_getD]
  rcases Nat.lt_or_ge i ks.length with q | q
  · rw [List.getElem?_eq_getElem q]; exact h _ (List.getElem_mem q)
  · rw [List.getElem?_eq_none q]; exact reaC_nil
theorem kpL_cl {L : Nat} {ks : List (Int64 × OutV)} {x : Int64} {v : OutV} (h : ∀ x ∈ ks, reaC (oW x.2)) (hv : reaC (oW v)) : ∀ y ∈ kpL L ks x v, reaC (oW y.2) := by
  have ap : ∀ l : List (Int64 × OutV), (∀ y ∈ l, reaC (oW y.2)) → ∀ y ∈ l ++ [(x, v)], reaC (oW y.2) := fun l hl y hy => by
    rcases List.mem_append.mp hy with z | z
    · exact hl y z
    · rw [List.mem_singleton.mp z]; exact hv
  unfold kpL
  repeat' split
  all_goals first
    | exact h
    | exact ap _ h
    | exact ap _ (fun y hy => h y (List.mem_of_mem_eraseIdx hy))
    | exact fun y hy => absurd hy List.not_mem_nil
section CLG
variable {P : PlV} {nd : Nat → Nat} {s : GoV} {L w t : Nat}
theorem tk1_cl {r : RunV} {b : BeV} {y : Nat} {sv : Int} (h : ∀ w, reaC (oW (rB r w).1)) (hb : reaC (oW b.1)) : ∀ j, reaC (oW (rB (tk1 r w t b y sv) j).1) := fun j => by
  show reaC (oW (upO (rB r) w b j).1)
  unfold upO
  split
  · exact hb
  · exact h j
theorem tkG_cl (hp : plnK P.2.2) (I : clG s) : clG (tkG P w t s) := by
  obtain ⟨i1, i2, i3⟩ := I
  refine ⟨i1, ?_, ?_⟩
  · show ∀ j, reaC (oW (rB (tkR P s.1 s.2.2.2.1 (goR s) w t) j).1)
    unfold tkR
    split
    · exact tk1_cl i2 (reaC_ahd (hp t))
    · split
      · exact tk1_cl i2 (kO_cl i1 _)
      · split
        · exact tk1_cl (r := goR s) (t := t) (y := 0) (sv := ((tkS P s.1 t : Nat) : Int)) i2 reaC_nil
        · exact tk1_cl i2 reaC_nil
  · show reaC (rT (tkR P s.1 s.2.2.2.1 (goR s) w t))
    unfold tkR
    split
    · exact i3
    · split
      · exact i3
      · split
        · exact i3
        · exact i3
theorem wrG_cl (I : clG s) : clG (wrG P w t s) := by
  unfold wrG
  split
  · refine ⟨I.1, fun j => ?_, I.2.2⟩
    show reaC (oW (upO (rB (goR s)) w (wrkV (tD P.2.2 t) (tkI P s.1 t), (rB (goR s) w).2.1, (rB (goR s) w).2.2) j).1)
    unfold upO
    split
    · exact reaC_wrk
    · exact I.2.1 j
  · exact I
theorem fnG_cl (I : clG s) : clG (fnG L w t s) := by
  obtain ⟨i1, i2, i3⟩ := I
  refine ⟨?_, ?_, ?_⟩
  · show ∀ x ∈ (if rW (goR s) w = 2 then s.2.2.2.1 else kpL L s.2.2.2.1 (rB (goR s) w).2.2 (rB (goR s) w).1), reaC (oW x.2)
    split
    · exact i1
    · exact kpL_cl i1 (i2 w)
  · show ∀ j, reaC (oW (rB (fnR (goR s) w t) j).1)
    unfold fnR
    split
    · exact i2
    · split
      · exact i2
      · exact i2
  · show reaC (rT (fnR (goR s) w t))
    unfold fnR
    split
    · exact i3
    · split
      · exact i2 w
      · exact i3
theorem trn_cl (hp : plnK P.2.2) (I : clG s) : clG (trn P nd L w s) := by
  have a : clG (tn1 P nd w s) := by
    unfold tn1
    split
    · exact tkG_cl hp I
    · exact I
  unfold trn
  generalize tn1 P nd w s = s1 at a
  unfold tn2
  split
  · exact a
  · split
    · exact ⟨a.1, a.2.1, a.2.2⟩
    · exact fnG_cl (wrG_cl (s := ltG w s1) ⟨a.1, a.2.1, a.2.2⟩)
theorem goG_cl (hp : plnK P.2.2) : ∀ {n : Nat} {s : GoV} {g : Bool} {k : Nat}, clG s → clG (goG P nd L n s g k).1
  | 0, s, g, k, I => I
  | n + 1, s, g, k, I => by
    rw [goG]
    split
    · exact goG_cl hp (trn_cl hp (trn_cl hp I))
    · exact I
end CLG
