/-! what is told is short: at most 4087 signs -/
theorem txt_le : ∀ i : Nat, (txt i).length ≤ 201 := fun i => by
  have c : ∀ j : Fin 89, (txt j.val).length ≤ 201 := by decide +kernel
  rcases Nat.lt_or_ge i 89 with q | q
  · exact c ⟨i, q⟩
  · unfold txt
    rw [List.getD_eq_getElem?_getD, List.getElem?_eq_none (by show 89 ≤ i; exact q)]
    exact Nat.zero_le _
theorem map_told_len (l : List Nat) : (l.map told).length = l.length := List.length_map ..
theorem nodup_le {α : Type} [DecidableEq α] : ∀ {ps L : List α}, ps.Nodup → (∀ x ∈ ps, x ∈ L) → ps.length ≤ L.length
  | [], L, _, _ => Nat.zero_le _
  | a :: ps, L, d, h => by
    rw [List.nodup_cons] at d
    have ha := h a List.mem_cons_self
    have g := nodup_le (ps := ps) (L := L.erase a) d.2 (fun x hx => (List.mem_erase_of_ne (fun e => d.1 (by rw [← e]; exact hx))).mpr (h x (List.mem_cons_of_mem _ hx)))
    rw [List.length_erase_of_mem ha] at g
    have : 0 < L.length := List.length_pos_of_mem ha
    rw [List.length_cons]
    omega
theorem ltP_ir {n : List Nat} : ¬ ltP n n := by
  unfold ltP ltJ
  rintro (h | ⟨-, h⟩)
  · exact Int64.lt_irrefl h
  · exact Int64.lt_irrefl h
/-- what is known of a house for its texts' lengths -/
def lenP (v : HoS) : Prop := v.1.1.length ≤ 16 ∧ (∀ i, (fP v.1.1 i).length ≤ 12 ∧ (fB v.1.1 i).length ≤ 160) ∧ six v.1 ∧ (∀ u, tokD (tD v.1.2.2 u)) ∧ (∀ u, u < v.1.2.2.length → 0 ≤ rix (tgR (tD v.1.2.2 u))) ∧ (∀ t, t < 14 → (oO ((seGo v.2.2).1 t)).length ≤ 600 ∧ (oF ((seGo v.2.2).1 t)).length ≤ 600) ∧ (rR (goR (seGo v.2.2))).length ≤ 14 ∧ v.2.1.length ≤ 20
section LENS
variable {ts : List (Bool × TgV)}
theorem flTxt_le {fl : List (List Nat × List Nat)} (h : ∀ i, (fP fl i).length ≤ 12) : ∀ n, (flTxt fl n).length ≤ 24 * n
  | 0 => Nat.le_refl _
  | n + 1 => by
    have a := flTxt_le h n
    have b := h n
    have c := dec_10 (fB fl n).length
    unfold flTxt
    simp only [List.length_append, List.length_cons, List.length_nil]
    omega
theorem mkTxt_le (h : ∀ u, tokD (tD ts u)) (sel : Nat → Bool) : ∀ n, (mkTxt ts sel n).length ≤ 9 * n
  | 0 => Nat.le_refl _
  | n + 1 => by
    have a := mkTxt_le h sel n
    have b := (h n).1.1
    unfold mkTxt
    split
    · simp only [List.length_append, List.length_cons, List.length_nil]; omega
    · simp only [List.length_append, List.length_nil]; omega
theorem runT_le (h : ∀ u, tokD (tD ts u)) (l : List Nat) : ∀ n, (runT ts l n).length ≤ 9 * n
  | 0 => Nat.le_refl _
  | n + 1 => by
    have a := runT_le h l n
    have b := (h (l.getD n 0)).1.1
    unfold runT
    simp only [List.length_append, List.length_cons, List.length_nil]
    omega
theorem insTxt_le : ∀ {l : List InV}, (∀ k, (inN l k).length ≤ 12) → (insTxt l).length ≤ 14 * l.length
  | [], _ => Nat.le_refl _
  | [v], h => by
    have a : v.2.length ≤ 12 := h 0
    unfold insTxt inTxt
    split
    · simp only [List.length_cons, List.length_nil]; omega
    · simp only [List.length_cons, List.length_nil]; omega
  | v :: w :: l, h => by
    have a : v.2.length ≤ 12 := h 0
    have g := insTxt_le (l := w :: l) (fun k => h (k + 1))
    unfold insTxt inTxt
    simp only [List.length_append, List.length_cons] at g ⊢
    split
    · simp only [List.length_cons]; omega
    · omega
theorem knm_le : ∀ k : Fin 8, (knm k.val).length ≤ 8 := by decide +kernel
theorem tgTxt_le {D : TgV} (h : tokD D) (r : 0 ≤ rix (tgR D)) (n6 : (tgI D).length ≤ 6) : (tgTxt D).length ≤ 150 := by
  obtain ⟨h1, h2, h3, h4, h5⟩ := h
  have hr : (tgR D).length ≤ 8 := by
    obtain ⟨j, hj⟩ : ∃ j : Nat, rix (tgR D) = (j : Int) := ⟨(rix (tgR D)).toNat, by omega⟩
    have g := rixK_nm (k := 8) hj
    rw [← g.1]
    exact knm_le ⟨j, g.2⟩
  have hi := insTxt_le (l := tgI D) (fun k => (h4 k).1)
  have a := h1.1
  have b := h2.1
  have c := h3.1
  have d := dec_10 (tgK D)
  unfold tgTxt
  simp only [List.length_append, List.length_cons]
  have e1 : (if tgW D = [] then ([] : List Nat) else 46 :: tgW D).length ≤ 9 := by split <;> simp only [List.length_cons, List.length_nil] <;> omega
  have e2 : (if tgC D = [] then ([] : List Nat) else 63 :: tgC D ++ 61 :: dec (tgK D)).length ≤ 20 := by
    split
    · simp only [List.length_nil]; omega
    · simp only [List.length_append, List.length_cons]; omega
  omega
theorem tsTxt_le (h : ∀ u, tokD (tD ts u)) (r : ∀ u, u < ts.length → 0 ≤ rix (tgR (tD ts u))) (n6 : ∀ u, u < ts.length → (tgI (tD ts u)).length ≤ 6) : ∀ n, n ≤ ts.length → (tsTxt ts n).length ≤ 151 * n
  | 0, _ => Nat.le_refl _
  | n + 1, hn => by
    have a := tsTxt_le h r n6 n (by omega)
    have b := tgTxt_le (h n) (r n (by omega)) (n6 n (by omega))
    unfold tsTxt
    split
    · simp only [List.length_append, List.length_cons, List.length_nil]; omega
    · simp only [List.length_append, List.length_nil]; omega
theorem wkTx_le (C : Nat → Nat) : ∀ n, (wkTx C n).length ≤ 11 * n
  | 0 => Nat.le_refl _
  | n + 1 => by
    have a := wkTx_le C n
    have b := dec_10 (C n)
    unfold wkTx
    split
    · simp only [List.length_append, List.length_cons, List.length_nil]; omega
    · simp only [List.length_append, List.length_nil]; omega
theorem ediTxt_le (C : Nat → Nat) : ∀ n, (ediTxt C n).length ≤ 11 * n
  | 0 => Nat.le_refl _
  | n + 1 => by
    have a := ediTxt_le C n
    have b := dec_10 (C n)
    unfold ediTxt
    split
    · simp only [List.length_append, List.length_cons, List.length_nil]; omega
    · simp only [List.length_append, List.length_nil]; omega
theorem rusTxt_le (rs : List RuV) : ∀ n, (rusTxt rs n).length ≤ 70 * n
  | 0 => Nat.le_refl _
  | n + 1 => by
    have a := rusTxt_le rs n
    have b1 := dec_10 (rOf rs n).toNat
    have b2 := dec_10 (rWh rs n)
    have b3 := dec_10 (rPa rs n)
    have b4 := dec_10 (rLo rs n)
    have b5 := dec_10 (rHi rs n)
    unfold rusTxt ruTxt
    split
    · simp only [List.length_append, List.length_cons, List.length_nil]; omega
    · simp only [List.length_append, List.length_cons, List.length_nil]; omega
theorem slTxt_le (be : Nat → Int) : ∀ n, (slTxt be n).length ≤ 2 * n
  | 0 => Nat.le_refl _
  | n + 1 => by
    have a := slTxt_le be n
    unfold slTxt
    split
    · simp only [List.length_append, List.length_cons, List.length_nil]; omega
    · simp only [List.length_append, List.length_cons, List.length_nil]; omega
theorem tmT_le (rs : List RuV) : ∀ (n : Nat) (vl : Nat → Int), 3 * (tmT rs n vl).length + 2 ≤ 11 * 4 ^ n
  | 0, vl => by show 3 * 3 + 2 ≤ 11 * 1; decide
  | n + 1, vl => by
    unfold tmT
    have p : 1 ≤ 4 ^ n := Nat.one_le_pow _ _ (by decide)
    have e : 4 ^ (n + 1) = 4 ^ n * 4 := Nat.pow_succ ..
    split
    · show 3 * 3 + 2 ≤ 11 * 4 ^ (n + 1)
      omega
    · have a := tmT_le rs n (up vl (4 - n) 0)
      have b := tmT_le rs n (up vl (4 - n) 1)
      have c := tmT_le rs n (up vl (4 - n) 2)
      have d := tmT_le rs n (up vl (4 - n) 3)
      simp only [List.length_append, List.length_cons, List.length_nil]
      omega
theorem djT_le (rs : List RuV) (l : List Nat) : ∀ (n : Nat) (lp lv lt vl : Nat → Int) (L e p : Nat), (djT rs l n lp lv lt vl L e p).length ≤ 220
  | 0, _, _, _, _, _, _, _ => by have := txt_le 26; unfold djT; omega
  | n + 1, lp, lv, lt, vl, L, e, p => by
    unfold djT
    split
    · split
      · exact djT_le rs l n _ _ _ _ _ _ _
      · split
        · exact djT_le rs l n _ _ _ _ _ _ _
        · have a := txt_le 25
          have b := dec_10 e
          rw [List.length_append]; omega
    · have := txt_le 26; omega
theorem dnT_le (h : ∀ u, tokD (tD ts u)) (mk : Nat → Int) : ∀ (m t : Nat), (dnT ts mk m t).length ≤ 9 * m
  | 0, _ => Nat.le_refl _
  | m + 1, t => by
    unfold dnT
    split
    · have a := dnT_le h mk m (nxtF ts mk t (m + 1) 6)
      have b := (h (nxtF ts mk t (m + 1) 6)).1.1
      simp only [List.length_append, List.length_cons]; omega
    · exact Nat.zero_le _
theorem psTxt_le : ∀ {ps : List (List Nat)}, (∀ n ∈ ps, n.length ≤ 12) → (psTxt ps).length ≤ 13 * ps.length
  | [], _ => Nat.le_refl _
  | n :: ps, h => by
    have g := psTxt_le (ps := ps) (fun x hx => h x (List.mem_cons_of_mem _ hx))
    have a := h n List.mem_cons_self
    unfold psTxt at g ⊢
    rw [List.map_cons, List.flatten_cons]
    simp only [List.length_append, List.length_cons, List.length_nil] at g ⊢
    omega
theorem endT_le (h : ∀ u, tokD (tD ts u)) {g : Bool} {f : Int} {y : List Nat} (hy : y.length ≤ 600) : (endT ts g f y).length ≤ 1100 := by
  have a := txt_le 5
  have b := txt_le 6
  have c := txt_le 7
  have d := txt_le 8
  have e := (h f.toNat).1.1
  unfold endT
  split
  · omega
  · split
    · omega
    · simp only [List.length_append]; omega
theorem nmd_ps {t : Nat} {ps : List (List Nat)} (h : ∀ u, tokD (tD ts u)) (n14 : ts.length ≤ 14) (n6 : ∀ u, u < ts.length → (tgI (tD ts u)).length ≤ 6) (so : List.Pairwise ltP ps) (hm : ∀ n, n ∈ ps ↔ nmd ts t n) : (psTxt ps).length ≤ 1092 := by
  have d : ps.Nodup := so.imp (fun {a b} hab e => by subst e; exact ltP_ir hab)
  have sub : ∀ n ∈ ps, n ∈ (List.range 84).map (fun c => inN (tgI (tD ts (c / 6))) (c % 6)) := fun n hn => by
    obtain ⟨u, hu, -, i, hi, -, e⟩ := (hm n).mp hn
    have := n6 u hu
    refine List.mem_map.mpr ⟨6 * u + i, List.mem_range.mpr (by omega), ?_⟩
    rw [show (6 * u + i) / 6 = u by omega, show (6 * u + i) % 6 = i by omega]
    exact e
  have l := nodup_le d sub
  rw [List.length_map, List.length_range] at l
  have g := psTxt_le (ps := ps) (fun n hn => by
    obtain ⟨u, hu, -, i, hi, -, e⟩ := (hm n).mp hn
    rw [← e]
    exact ((h u).2.2.2.1 i).1)
  omega
end LENS
/-- a trial session's reason -/
theorem tr_rsn {P : PlV} {f N : Nat} {r : RunV} (s6 : six P) (pk : plnK P.2.2) (fl : f < P.2.2.length) (fH : tH P.2.2 f = true) : 0 ≤ rF (goR (goG P (ndF P.2.2 f) 0 N ((fun _ => (false, [], [], [])), (fun _ => []), (fun _ => 0), [], run0 r) true 0).1) → (rT (goR (goG P (ndF P.2.2 f) 0 N ((fun _ => (false, [], [], [])), (fun _ => []), (fun _ => 0), [], run0 r) true 0).1)).length ≤ 60 := by
  have hH : ∀ u, u < P.2.2.length → ndF P.2.2 f u = 1 → tH P.2.2 u = true := fun u _ h => Rc_H fH (Classical.byContradiction (fun c => by rw [ndF_0 c] at h; exact absurd h (by decide)))
  have I := goG_tr (nd := ndF P.2.2 f) (n := N) (g := true) (k := 0) s6 hH (trI_0 (P := P) (nd := ndF P.2.2 f) (r := r))
  intro F
  obtain ⟨f', -, -, g3, -⟩ := I.2.2.2.2.2 F
  rw [g3]
  unfold exV
  split
  · exact (reaC_ahd (pk f')).2
  · exact reaC_wrk.2
theorem ansR_len {l T : List Nat} {v v' : HoS} {b b' : BkV} (I : lenP v) (S : solQ v.2.1) (ac : acy v.1.2.2) (rt : (rT (goR (goG (sePl v.2.2) (seNd v.2.2) 24 ((qrA l (qrN l)).2.2.2 0).toNat (seGo v.2.2) (seOn v.2.2) (seSt v.2.2)).1)).length ≤ 600) (A : ansR 24 0 l v b v' b' T) : T.length ≤ 4000 := by
  obtain ⟨i1, i2, i3, i4, i5, i6, i7, i8⟩ := I
  have n14 := i3.1
  have t33 := txt_le 33
  have t4 := txt_le 4
  unfold ansR at A
  split at A
  · rw [A.2.2, List.length_append]
    have a := txt_le 27
    have b := dec_10 (qrE l)
    omega
  split at A
  · rw [A.2.2]; have := txt_le 37; omega
  split at A
  · have A := A.2.2
    generalize (if qrT l = 24 then tat v.1.2.2 (qr2 l) else tat v.1.2.2 (qrA l (qrN l)).1) = e2 at A
    unfold chR at A
    split at A
    · rw [A]; omega
    rename_i fe
    split at A
    · rename_i q21
      obtain ⟨r, e⟩ := A
      rw [e]
      unfold trT
      split
      · rename_i F
        refine Nat.le_trans (endT_le i4 ?_) (by decide)
        have g := tat_rg v.1.2.2 (qrA l (qrN l)).1
        have h0 : 0 ≤ tat v.1.2.2 (qrA l (qrN l)).1 := by omega
        have k := tr_rsn (P := v.1) (f := (tat v.1.2.2 (qrA l (qrN l)).1).toNat) (N := 1000000) (r := run0 (rsC r (fun _ => 0))) i3 i4 (by omega) (tat_H h0) F
        exact Nat.le_trans k (by decide)
      · split
        · have := txt_le 38; omega
        · rw [List.length_append]
          have := txt_le 39
          have := (i4 (srF (unlB (rE (goR (trG v 0 (tat v.1.2.2 (qrA l (qrN l)).1).toNat r).1)) (trG v 0 (tat v.1.2.2 (qrA l (qrN l)).1).toNat r).1.1 (seGo v.2.2).1) 14 0).toNat).1.1
          omega
    split at A
    · obtain ⟨sel, ps, -, so, hm, e⟩ := A
      rw [e, List.length_append]
      have a := mkTxt_le i4 sel v.1.2.2.length
      have b := nmd_ps i4 n14 i3.2 so hm
      omega
    split at A
    · obtain ⟨mk, hw, e⟩ := A
      rw [e]
      have g := tat_rg v.1.2.2 (qrA l (qrN l)).1
      split
      · omega
      · rename_i z
        rw [List.length_append]
        have a := dnT_le i4 mk ((mk (tat v.1.2.2 (qrA l (qrN l)).1).toNat).toNat - 1) (tat v.1.2.2 (qrA l (qrN l)).1).toNat
        have b := (i4 (tat v.1.2.2 (qrA l (qrN l)).1).toNat).1.1
        rcases hw (tat v.1.2.2 (qrA l (qrN l)).1).toNat (by omega) with ⟨k, k1, k2, -⟩ | ⟨y, -⟩
        · rw [k2] at a ⊢; omega
        · exact absurd y z
    · obtain ⟨mk, hw, e⟩ := A
      rw [e]
      have g := tat_rg v.1.2.2 (qrA l (qrN l)).1
      obtain ⟨k, k1, ⟨x, k2⟩, -⟩ := hw (tat v.1.2.2 (qrA l (qrN l)).1).toNat (by omega)
      have kl := acy_len ac (by omega) k2
      have a := dnT_le i4 mk ((mk (tat v.1.2.2 (qrA l (qrN l)).1).toNat).toNat - 1) (tat v.1.2.2 (qrA l (qrN l)).1).toNat
      have b := (i4 (tat v.1.2.2 (qrA l (qrN l)).1).toNat).1.1
      have c := dec_10 (mk (tat v.1.2.2 (qrA l (qrN l)).1).toNat).toNat
      rw [k1] at a c ⊢
      simp only [List.length_append, List.length_cons]
      omega
  split at A
  · rw [A.2.2]
    unfold ouT
    split
    · have := rusTxt_le v.2.1 v.2.1.length; omega
    split
    · split
      · have := slTxt_le (fsE v.2.1).2.1 5; omega
      · omega
    split
    · split
      · have := txt_le 21; omega
      · split
        · have := txt_le 22; omega
        · rw [List.length_append]
          have := txt_le 23
          have := dec_10 (lwb v.2.1 (qrN l)).toNat
          omega
    split
    · rw [S.2]
      split
      · have := txt_le 24; omega
      · have := tmT_le v.2.1 5 (fun _ => -1)
        have e : 4 ^ 5 = 1024 := by decide
        omega
    · have := djT_le v.2.1 l (l.length + 1) (fun _ => 0) (fun _ => 0) (fun _ => 0) (fun _ => -1) 0 0 9
      omega
  split at A
  · obtain ⟨-, sel, cu, -, -, -, e⟩ := A
    rw [e]
    clear e
    unfold shT
    by_cases q : qrT l = 13
    · rw [if_pos q]; have := flTxt_le (fun i => (i2 i).1) v.1.1.length; omega
    rw [if_neg q]
    by_cases q : qrT l = 14
    · rw [if_pos q]
      by_cases z : fix v.1.1 (qrA l (qrN l)).1 < 0
      · rw [if_pos z]; have := txt_le 29; omega
      · rw [if_neg z, map_told_len]; have := (i2 (fix v.1.1 (qrA l (qrN l)).1).toNat).2; omega
    rw [if_neg q]
    by_cases q : qrT l = 15
    · rw [if_pos q]; have := tsTxt_le i4 i5 i3.2 v.1.2.2.length (Nat.le_refl _); omega
    rw [if_neg q]
    by_cases q : qrT l = 16
    · rw [if_pos q]
      by_cases z : hpB (seGo v.2.2).1 (tix v.1.2.2 (qrA l (qrN l)).1) = true
      · rw [if_pos z, map_told_len]
        unfold hpB at z
        rw [Bool.and_eq_true, decide_eq_true_eq] at z
        have := (i6 (tix v.1.2.2 (qrA l (qrN l)).1).toNat (by omega)).1; omega
      · rw [if_neg z]; omega
    rw [if_neg q]
    by_cases q : qrT l = 17
    · rw [if_pos q]
      by_cases z : hpB (seGo v.2.2).1 (tix v.1.2.2 (qrA l (qrN l)).1) = true
      · rw [if_pos z, map_told_len]
        unfold hpB at z
        rw [Bool.and_eq_true, decide_eq_true_eq] at z
        have := (i6 (tix v.1.2.2 (qrA l (qrN l)).1).toNat (by omega)).2; omega
      · rw [if_neg z]; omega
    rw [if_neg q]
    by_cases q : qrT l = 18
    · rw [if_pos q]
      unfold reaTxt
      split
      · split
        · have := txt_le (10 + (seGo v.2.2).2.2.1 (tix v.1.2.2 (qrA l (qrN l)).1).toNat); omega
        · rw [List.length_append]
          have := txt_le 15
          have := dec_10 ((seGo v.2.2).2.2.1 (tix v.1.2.2 (qrA l (qrN l)).1).toNat - 5)
          omega
      · have := txt_le 10; omega
    rw [if_neg q]
    by_cases q : qrT l = 19
    · rw [if_pos q]; have := runT_le i4 (rR (goR (seGo v.2.2))) (rR (goR (seGo v.2.2))).length; omega
    rw [if_neg q]
    by_cases q : qrT l = 20
    · rw [if_pos q]; have := wkTx_le (rC (goR (seGo v.2.2))) 3; omega
    rw [if_neg q]
    by_cases q : qrT l = 23
    · rw [if_pos q]; have := mkTxt_le i4 sel v.1.2.2.length; omega
    rw [if_neg q]
    by_cases q : qrT l = 26
    · rw [if_pos q]; have := dec_10 (seGo v.2.2).2.2.2.1.length; omega
    rw [if_neg q]
    by_cases q : qrT l = 27
    · rw [if_pos q]
      split
      · have := ediTxt_le (v.2.2.2.2.1 (tix v.1.2.2 (qrA l (qrN l)).1).toNat) 3; omega
      · omega
    rw [if_neg q]
    cases cu with
    | true => rw [if_pos rfl]; have := txt_le 36; omega
    | false => rw [if_neg (by decide)]; have := txt_le 40; omega
  split at A
  · rw [A.2.2]
    have t36 := txt_le 36
    split
    · omega
    · generalize hc : caS 24 (qrT l) (qrA l (qrN l)) v = c
      unfold caS at hc
      by_cases q : qrT l = 0
      · rw [if_pos q] at hc; rw [← hc]; exact Nat.zero_le _
      rw [if_neg q] at hc
      by_cases q : qrT l = 1
      · rw [if_pos q] at hc; rw [← hc]; exact Nat.zero_le _
      rw [if_neg q] at hc
      by_cases q : qrT l = 2
      · rw [if_pos q] at hc; rw [← hc]; exact Nat.zero_le _
      rw [if_neg q] at hc
      by_cases q : qrT l = 3
      · rw [if_pos q] at hc; rw [← hc]; exact Nat.zero_le _
      rw [if_neg q] at hc
      by_cases q : qrT l = 4
      · rw [if_pos q] at hc; rw [← hc]; exact Nat.zero_le _
      rw [if_neg q] at hc
      by_cases q : qrT l = 5
      · rw [if_pos q] at hc; rw [← hc]; exact Nat.zero_le _
      rw [if_neg q] at hc
      by_cases q : qrT l = 6
      · rw [if_pos q] at hc; rw [← hc]; exact Nat.zero_le _
      rw [if_neg q] at hc
      by_cases q : qrT l = 7
      · rw [if_pos q] at hc; rw [← hc]
        exact Nat.le_trans (endT_le i4 rt) (by decide)
      rw [if_neg q] at hc
      by_cases q : qrT l = 8
      · rw [if_pos q] at hc; rw [← hc]; exact Nat.zero_le _
      rw [if_neg q] at hc
      by_cases q : qrT l = 9
      · rw [if_pos q] at hc; rw [← hc]
        show (relTxt _ _ _).length ≤ 4000
        unfold relTxt
        rw [List.length_append]
        have a := ediTxt_le (relE (v.2.2.2.1 (tix v.1.2.2 (qrA l (qrN l)).1).toNat) ((seGo v.2.2).1 (tix v.1.2.2 (qrA l (qrN l)).1).toNat) (v.2.2.2.2.1 (tix v.1.2.2 (qrA l (qrN l)).1).toNat)) 3
        have b := txt_le 9
        split
        · omega
        · rw [List.length_nil]; omega
      rw [if_neg q] at hc
      by_cases q : qrT l = 10
      · rw [if_pos q] at hc; rw [← hc]
        show (txt 20 ++ dec v.2.1.length).length ≤ 4000
        rw [List.length_append]
        have := txt_le 20
        have := dec_10 v.2.1.length
        omega
      rw [if_neg q] at hc
      by_cases q : qrT l = 11
      · rw [if_pos q] at hc; rw [← hc]
        show (txt 20 ++ dec v.2.1.length).length ≤ 4000
        rw [List.length_append]
        have := txt_le 20
        have := dec_10 v.2.1.length
        omega
      rw [if_neg q] at hc; rw [← hc]; exact Nat.zero_le _
  · rw [A.2.2]
    have := txt_le (if rfQ l v = 19 then 18 else rfQ l v)
    omega
