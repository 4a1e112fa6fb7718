theorem lineE_stops {l : List Nat} {i : Nat} (h : lineE l i < l.length) : l.getD (lineE l i) 0 = 10 := by
  by_cases q : i < l.length
  · by_cases c : l.getD i 0 = 10
    · rw [lineE_stop (Or.inr c)]; exact c
    · rw [lineE_go q c] at h ⊢
      exact lineE_stops h
  · rw [lineE_stop (Or.inl (by omega))] at h
    omega
termination_by l.length - i
/-! the reference: a line alone is read as it is read in its input -/
/-- the line y of x at f -/
def LnA (x : List Nat) (f : Nat) (y : List Nat) : Prop := f + y.length ≤ x.length ∧ (∀ i, i < y.length → x.getD (f + i) 0 = y.getD i 0) ∧ (f + y.length < x.length → x.getD (f + y.length) 0 = 10)
theorem LnA.of {x : List Nat} {f : Nat} (h : f ≤ x.length) : LnA x f (sl x f (lineE x f)) ∧ f + (sl x f (lineE x f)).length = lineE x f := by
  have g := lineE_ge x f
  have l := lineE_le (l := x) (i := f) h
  have n := sl_len (l := x) (f := f) (e := lineE x f) ⟨g, l⟩
  have e : f + (sl x f (lineE x f)).length = lineE x f := by omega
  refine ⟨⟨by omega, fun i hi => (sl_gd (by omega)).symm, fun h2 => ?_⟩, e⟩
  rw [e] at h2 ⊢
  have t := lineE_stops h2
  exact t
section SHIFT
variable {x y : List Nat} {f i n : Nat} {P : Nat → Bool}
theorem scan_sh (A : LnA x f y) (hP : P 10 = false) : ∀ {n i : Nat}, i ≤ y.length → scan x P (f + i) n = f + scan y P i n
  | 0, i, _ => by rw [scan_stop (Or.inr (Or.inl rfl)), scan_stop (Or.inr (Or.inl rfl))]
  | n + 1, i, hi => by
    rcases Nat.lt_or_ge i y.length with q | q
    · have e := A.2.1 i q
      rcases Bool.eq_false_or_eq_true (P (y.getD i 0)) with z | z
      · rw [scan_go (l := y) q z, scan_go (l := x) (by have := A.1; omega) (by rw [e]; exact z), Nat.add_assoc, scan_sh A hP (by omega)]
      · rw [scan_stop (l := y) (Or.inr (Or.inr z)), scan_stop (l := x) (Or.inr (Or.inr (by rw [e]; exact z)))]
    · have ei : i = y.length := by omega
      rw [scan_stop (l := y) (Or.inl q), scan_stop (l := x)]
      rcases Nat.lt_or_ge (f + i) x.length with z | z
      · refine Or.inr (Or.inr ?_)
        rw [ei, A.2.2 (by omega)]; exact hP
      · exact Or.inl z
theorem at_sh (A : LnA x f y) (hi : i ≤ y.length) : (i < y.length ∧ x.getD (f + i) 0 = y.getD i 0 ∧ f + i < x.length) ∨ (i = y.length ∧ y.getD i 0 = 0 ∧ (x.getD (f + i) 0 = 10 ∨ x.length ≤ f + i)) := by
  rcases Nat.lt_or_ge i y.length with q | q
  · exact Or.inl ⟨q, A.2.1 i q, by have := A.1; omega⟩
  · have ei : i = y.length := by omega
    refine Or.inr ⟨ei, by rw [List.getD_eq_getElem?_getD, List.getElem?_eq_none q]; rfl, ?_⟩
    rcases Nat.lt_or_ge (f + i) x.length with z | z
    · exact Or.inl (by rw [ei]; exact A.2.2 (by omega))
    · exact Or.inr z
theorem atv_sh (A : LnA x f y) (hi : i ≤ y.length) {c : Int} (hc : 0 ≤ c ∧ c ≠ 10) : atv x ((f + i : Nat) : Nat) = c ↔ atv y (i : Nat) = c := by
  rw [atvI, atvI]
  rcases at_sh A hi with ⟨a, b, d⟩ | ⟨a, b, d⟩
  · rw [if_pos a, if_pos d, b]
  · rw [if_neg (show ¬ i < y.length by omega)]
    rcases d with d | d
    · split
      · rw [d]; omega
      · exact Iff.rfl
    · rw [if_neg (by omega)]
theorem wordE_sh (A : LnA x f y) (hi : i ≤ y.length) : wordE x (f + i) 8 48 = f + wordE y i 8 48 := by
  unfold wordE
  rcases at_sh A hi with ⟨a, b, d⟩ | ⟨a, b, d⟩
  · rw [b]
    by_cases q : isLet (y.getD i 0) = true
    · rw [if_pos ⟨d, by decide, q⟩, if_pos ⟨a, by decide, q⟩, Nat.add_assoc]
      exact scan_sh A (by decide) (by omega)
    · rw [if_neg (fun z => q z.2.2), if_neg (fun z => q z.2.2)]
  · rw [if_neg (show ¬ (f + i < x.length ∧ 0 < 8 ∧ isLet (x.getD (f + i) 0) = true) from fun z => by
      rcases d with d | d
      · rw [d] at z; exact absurd z.2.2 (by decide)
      · omega), if_neg (fun z => by omega)]
theorem numE_sh (A : LnA x f y) (hi : i ≤ y.length) : numE x (f + i) = f + numE y i := by
  unfold numE
  have c : (f + i < x.length ∧ x.getD (f + i) 0 = 48) ↔ (i < y.length ∧ y.getD i 0 = 48) := by
    rcases at_sh A hi with ⟨a, b, d⟩ | ⟨a, b, d⟩
    · rw [b]; exact ⟨fun z => ⟨a, z.2⟩, fun z => ⟨d, z.2⟩⟩
    · exact ⟨fun z => by omega, fun z => by omega⟩
  by_cases q : i < y.length ∧ y.getD i 0 = 48
  · rw [if_pos q, if_pos (c.mpr q)]; exact scan_sh A (by decide) hi
  · rw [if_neg q, if_neg (fun z => q (c.mp z))]; exact scan_sh A (by decide) hi
theorem nameV_sh (A : LnA x f y) {a b : Nat} (hab : a ≤ b) (hb : b ≤ y.length) : nameV x (f + a) (f + b) = nameV y a b := by
  obtain ⟨k, rfl⟩ : ∃ k, b = a + k := ⟨b - a, by omega⟩
  unfold nameV pad8
  congr 1
  refine List.map_congr_left (fun j _ => ?_)
  by_cases q : j < k
  · rw [if_pos (by omega), if_pos (by omega), Nat.add_assoc, A.2.1 (a + j) (by omega)]
  · rw [if_neg (by omega), if_neg (by omega)]
theorem sl_sh (A : LnA x f y) {a b : Nat} (hab : a ≤ b) (hb : b ≤ y.length) : sl x (f + a) (f + b) = sl y a b := by
  have := A.1
  refine list_ext (by rw [sl_len ⟨by omega, by omega⟩, sl_len ⟨hab, hb⟩]; omega) (fun j hj => ?_)
  rw [sl_len ⟨by omega, by omega⟩] at hj
  rw [sl_gd (by omega), sl_gd (by omega), Nat.add_assoc, A.2.1 (a + j) (by omega)]
theorem rfK_sh (A : LnA x f y) {n : Nat} : rfK x f (f + y.length) n = rfK y 0 y.length n := by
  unfold rfK
  have w := wordE_sh A (Nat.zero_le y.length)
  rw [Nat.add_zero] at w
  have wr := wordE_rg (l := y) (a := 0) (m := 8) (lo := 48) (Nat.zero_le _)
  rw [w]
  have av := atv_sh A wr.2.1 (c := 61) (by decide)
  by_cases a : atv y (wordE y 0 8 48 : Nat) = 61
  · have lt : wordE y 0 8 48 < y.length := by
      rw [atvI] at a
      by_cases z : wordE y 0 8 48 < y.length
      · exact z
      · rw [if_neg z] at a; omega
    have ne := numE_sh A (i := wordE y 0 8 48 + 1) (by omega)
    rw [← Nat.add_assoc] at ne
    rw [ne]
    apply decide_eq_decide.mpr
    exact ⟨fun z => ⟨by omega, a, by omega, by omega, z.2.2.2.2⟩, fun z => ⟨by omega, av.mpr a, by omega, by omega, z.2.2.2.2⟩⟩
  · rw [decide_eq_false (fun z => a (av.mp z.2.1)), decide_eq_false (fun z => a z.2.1)]
theorem rfL_sh (A : LnA x f y) {fs : List FaV} : rfL x f (f + y.length) fs = rfL y 0 y.length fs := by
  unfold rfL
  rw [rfK_sh A]
  by_cases c : rfK y 0 y.length fs.length = true
  · rw [if_pos c, if_pos c]
    have c2 := of_decide_eq_true c
    have w := wordE_sh A (Nat.zero_le y.length)
    rw [Nat.add_zero] at w
    have wr := wordE_rg (l := y) (a := 0) (m := 8) (lo := 48) (Nat.zero_le _)
    have ne := numE_sh A (i := wordE y 0 8 48 + 1) (by
      have a := c2.2.1
      rw [atvI] at a
      by_cases z : wordE y 0 8 48 < y.length
      · omega
      · rw [if_neg z] at a; omega)
    rw [← Nat.add_assoc] at ne
    have n1 := nameV_sh A (a := 0) (b := wordE y 0 8 48) (Nat.zero_le _) wr.2.1
    rw [Nat.add_zero] at n1
    have nr := numE_rg (l := y) (a := wordE y 0 8 48 + 1) (by
      have a := c2.2.1
      rw [atvI] at a
      by_cases z : wordE y 0 8 48 < y.length
      · omega
      · rw [if_neg z] at a; omega)
    have s1 := sl_sh A (a := wordE y 0 8 48 + 1) (b := numE y (wordE y 0 8 48 + 1)) nr.1 nr.2.1
    rw [← Nat.add_assoc] at s1
    rw [w, ne, n1, s1]
  · rw [if_neg c, if_neg c]
theorem rsA_ge {y : List Nat} {p : Nat} (h : p + 1 ≤ y.length) : p + 1 ≤ rsA y p ∧ rsA y p ≤ y.length := by
  unfold rsA
  split
  · exact ⟨(wordE_rg h).1, (wordE_rg h).2.1⟩
  · exact ⟨(numE_rg h).1, (numE_rg h).2.1⟩
theorem rsA_sh (A : LnA x f y) {p : Nat} (hp : p + 1 ≤ y.length) : rsA x (f + p) = f + rsA y p := by
  unfold rsA
  have n := numE_sh A hp
  have w := wordE_sh A hp
  rw [← Nat.add_assoc] at n w
  rw [n, w]
  by_cases c : numE y (p + 1) = p + 1
  · rw [if_pos c, if_pos (by omega)]
  · rw [if_neg c, if_neg (by omega)]
theorem rsX_sh (A : LnA x f y) {ss : List SrV} {fs : List FaV} {p : Nat} (hp : p + 1 ≤ y.length) : rsX ss fs x (f + p) = rsX ss fs y p := by
  unfold rsX
  have n := numE_sh A hp
  have w := wordE_sh A hp
  have wr := wordE_rg (l := y) (a := p + 1) (m := 8) (lo := 48) hp
  have nr := numE_rg (l := y) (a := p + 1) hp
  have n1 := nameV_sh A (a := p + 1) (b := wordE y (p + 1) 8 48) wr.1 wr.2.1
  have s1 := sl_sh A (a := p + 1) (b := numE y (p + 1)) nr.1 nr.2.1
  rw [← Nat.add_assoc] at n w n1 s1
  rw [n, w, n1, s1]
  by_cases c : numE y (p + 1) = p + 1
  · rw [if_pos c, if_pos (by omega)]
  · rw [if_neg c, if_neg (by omega)]
theorem rsG_sh (A : LnA x f y) {ss : List SrV} {fs : List FaV} {a : Nat} : ∀ {n p s q : Nat}, p ≤ y.length → rsG ss fs x (f + y.length) (f + a) n (f + p) s q = rsG ss fs y y.length a n p s q
  | 0, p, s, q, hp => by
    rw [rsG, rsG]
    by_cases c : p < y.length
    · rw [if_pos c, if_pos (by omega)]
    · rw [if_neg c, if_neg (by omega)]
  | n + 1, p, s, q, hp => by
    rw [rsG, rsG]
    by_cases c : p < y.length
    · rw [if_pos c, if_pos (by omega), rsA_sh A (by omega), rsX_sh A (by omega)]
      have e43 := atv_sh A (i := p) (by omega) (c := 43) (by decide)
      have e42 := atv_sh A (i := p) (by omega) (c := 42) (by decide)
      have ge := rsA_ge (y := y) (p := p) (by omega)
      by_cases d : rsA y p = p + 1 ∨ rsX ss fs y p < 0 ∨ (p ≠ a ∧ atv y (p : Nat) ≠ 43 ∧ atv y (p : Nat) ≠ 42)
      · rw [if_pos d, if_pos (by
          rcases d with d | d | d
          · exact Or.inl (by omega)
          · exact Or.inr (Or.inl d)
          · exact Or.inr (Or.inr ⟨by omega, fun z => d.2.1 (e43.mp z), fun z => d.2.2 (e42.mp z)⟩))]
      · rw [if_neg d, if_neg (by
          rintro (z | z | z)
          · exact d (Or.inl (by omega))
          · exact d (Or.inr (Or.inl z))
          · exact d (Or.inr (Or.inr ⟨by omega, fun u => z.2.1 (e43.mpr u), fun u => z.2.2 (e42.mpr u)⟩)))]
        by_cases g : atv y (p : Nat) = 42
        · rw [if_pos g, if_pos (e42.mpr g)]; exact rsG_sh A ge.2
        · rw [if_neg g, if_neg (fun z => g (e42.mp z))]; exact rsG_sh A ge.2
    · rw [if_neg c, if_neg (by omega)]
theorem rsG_fu {ss : List SrV} {fs : List FaV} {a : Nat} : ∀ {n k p s q : Nat}, p ≤ y.length → y.length - p < n → y.length - p < k → rsG ss fs y y.length a n p s q = rsG ss fs y y.length a k p s q
  | 0, k, p, s, q, hp, hn, hk => absurd hn (Nat.not_lt_zero _)
  | n + 1, 0, p, s, q, hp, hn, hk => absurd hk (Nat.not_lt_zero _)
  | n + 1, k + 1, p, s, q, hp, hn, hk => by
    rw [rsG, rsG]
    by_cases c : p < y.length
    · rw [if_pos c, if_pos c]
      have ge := rsA_ge (y := y) (p := p) (by omega)
      by_cases d : rsA y p = p + 1 ∨ rsX ss fs y p < 0 ∨ (p ≠ a ∧ atv y (p : Nat) ≠ 43 ∧ atv y (p : Nat) ≠ 42)
      · rw [if_pos d, if_pos d]
      · rw [if_neg d, if_neg d]
        by_cases g : atv y (p : Nat) = 42
        · rw [if_pos g, if_pos g]; exact rsG_fu ge.2 (by omega) (by omega)
        · rw [if_neg g, if_neg g]; exact rsG_fu ge.2 (by omega) (by omega)
    · rw [if_neg c, if_neg c]
theorem opB_sh (A : LnA x f y) (hx : ∀ j, x.getD j 0 < 256) (hy : ∀ j, y.getD j 0 < 256) : opB x f = opB y 0 := by
  have ix : opB x f = true ↔ x.getD (f + 0) 0 = 112 ∧ x.getD (f + 1) 0 = 117 ∧ x.getD (f + 2) 0 = 98 ∧ x.getD (f + 3) 0 = 32 := by
    unfold opB
    rw [decide_eq_true_iff, show (8103490994101551104 : Int64) = nameV [112, 117, 98, 32] 0 (0 + 4) by decide, nameV_inj (by decide) hx (fun j => by
      rcases j with _ | _ | _ | _ | j <;> simp [List.getD_eq_getElem?_getD])]
    constructor
    · intro h
      exact ⟨h 0 (by decide), h 1 (by decide), h 2 (by decide), h 3 (by decide)⟩
    · rintro ⟨h0, h1, h2, h3⟩ j hj
      rcases j with _ | _ | _ | _ | j
      · exact h0
      · exact h1
      · exact h2
      · exact h3
      · omega
  have key : opB x f = true ↔ opB y 0 = true := by
    rw [ix, opB_iff hy]
    have s := fun i (hi : i ≤ y.length) => at_sh A hi
    have n0 : ∀ i, y.length ≤ i → y.getD i 0 = 0 := fun i hi => by rw [List.getD_eq_getElem?_getD, List.getElem?_eq_none hi]; rfl
    have x0 : ∀ i, x.length ≤ i → x.getD i 0 = 0 := fun i hi => by rw [List.getD_eq_getElem?_getD, List.getElem?_eq_none hi]; rfl
    constructor
    · rintro ⟨h0, h1, h2, h3⟩
      have g : ∀ i, i ≤ y.length → ∀ c, c ≠ 10 → c ≠ 0 → x.getD (f + i) 0 = c → i < y.length ∧ y.getD i 0 = c := fun i hi c c1 c2 e => by
        rcases s i hi with ⟨a, b, d⟩ | ⟨a, b, d⟩
        · exact ⟨a, by omega⟩
        · rcases d with d | d
          · omega
          · rw [x0 _ d] at e; omega
      have g0 := g 0 (Nat.zero_le _) 112 (by decide) (by decide) h0
      have g1 := g 1 (by omega) 117 (by decide) (by decide) h1
      have g2 := g 2 (by omega) 98 (by decide) (by decide) h2
      have g3 := g 3 (by omega) 32 (by decide) (by decide) h3
      exact ⟨g0.2, g1.2, g2.2, g3.2⟩
    · rintro ⟨h0, h1, h2, h3⟩
      have l3 : 3 < y.length := by
        rcases Nat.lt_or_ge 3 y.length with z | z
        · exact z
        · rw [n0 _ z] at h3; omega
      have e0 := A.2.1 0 (by omega)
      have e1 := A.2.1 1 (by omega)
      have e2 := A.2.1 2 (by omega)
      have e3 := A.2.1 3 (by omega)
      exact ⟨by omega, by omega, by omega, by omega⟩
  rcases Bool.eq_false_or_eq_true (opB x f) with z | z
  · rw [z, key.mp z]
  · rcases Bool.eq_false_or_eq_true (opB y 0) with u | u
    · rw [key.mpr u] at z; exact absurd z (by decide)
    · rw [z, u]
theorem opF_le (hy : ∀ j, y.getD j 0 < 256) : opF y 0 ≤ y.length := by
  unfold opF
  split
  · rename_i o
    obtain ⟨e0, e1, e2, e3⟩ := (opB_iff hy).mp o
    rcases Nat.lt_or_ge 3 y.length with z | z
    · omega
    · rw [List.getD_eq_getElem?_getD, List.getElem?_eq_none z] at e3
      exact absurd e3 (by decide)
  · exact Nat.zero_le _
theorem srR_sh (A : LnA x f y) (hx : ∀ j, x.getD j 0 < 256) (hy : ∀ j, y.getD j 0 < 256) {ss : List SrV} {fs : List FaV} : srR x f (f + y.length) ss fs = srR y 0 y.length ss fs := by
  have ob := opB_sh A hx hy
  have of_ : opF x f = f + opF y 0 := by
    unfold opF
    rw [ob]
    split <;> omega
  have ol := opF_le hy
  have w := wordE_sh A ol
  have wr := wordE_rg (l := y) (a := opF y 0) (m := 8) (lo := 48) ol
  have sn : srN x f = srN y 0 := by
    unfold srN
    rw [of_, w]
    exact nameV_sh A wr.1 wr.2.1
  have av := atv_sh A wr.2.1 (c := 61) (by decide)
  unfold srR
  by_cases c : y.length = 0
  · rw [if_pos (by omega), if_pos (by omega)]
  rw [if_neg (by omega), if_neg (show ¬ 0 = y.length by omega), of_, w, sn]
  by_cases d : wordE y (opF y 0) 8 48 = opF y 0 ∨ atv y (wordE y (opF y 0) 8 48 : Nat) ≠ 61 ∨ 0 ≤ sAt ss (srN y 0) ∨ 246 ≤ ss.length
  · rw [if_pos d, if_pos (by
      rcases d with d | d | d
      · exact Or.inl (by omega)
      · exact Or.inr (Or.inl (fun z => d (av.mp z)))
      · exact Or.inr (Or.inr d))]
  · rw [if_neg d, if_neg (by
      rintro (z | z | z)
      · exact d (Or.inl (by omega))
      · exact d (Or.inr (Or.inl (fun u => z (av.mpr u))))
      · exact d (Or.inr (Or.inr z))), rsG_sh A wr.2.1, rsG_fu (n := f + y.length + 1) (k := y.length + 1) wr.2.1 (by omega) (by omega), ob]
end SHIFT
/-- the lines of an input one by one -/
def cmL (b : Bool) : List (List Nat) → Nat → List SrV → List FaV → Option Nat × List SrV × List FaV
  | [], _, ss, fs => (none, ss, fs)
  | y :: ys, k, ss, fs => if b = true then (if rfK y 0 y.length fs.length = true then cmL b ys (k + 1) ss (rfL y 0 y.length fs) else (some k, ss, fs)) else (if (srR y 0 y.length ss fs).1 = true then cmL b ys (k + 1) (srR y 0 y.length ss fs).2 fs else (some k, (srR y 0 y.length ss fs).2, fs))
theorem getD_sl_lt {x : List Nat} (hx : ∀ j, x.getD j 0 < 256) (f e : Nat) (j : Nat) : (sl x f e).getD j 0 < 256 := by
  rcases Nat.lt_or_ge (f + j) e with q | q
  · rw [sl_gd q]; exact hx _
  · have : (sl x f e).length ≤ j := by
      unfold sl
      rw [List.length_take]
      omega
    rw [List.getD_eq_getElem?_getD, List.getElem?_eq_none this]
    decide
theorem cmI_L {x : List Nat} {b : Bool} (hx : ∀ j, x.getD j 0 < 256) : ∀ {n f k : Nat} {ss : List SrV} {fs : List FaV}, x.length < n + f → cmI x b n f k ss fs = cmL b (lns (x.drop f)) k ss fs
  | 0, f, k, ss, fs, h => by
    rw [lns_end (by omega), cmL, cmI]
  | n + 1, f, k, ss, fs, h => by
    by_cases c : f < x.length
    · obtain ⟨A, e⟩ := LnA.of (x := x) (f := f) (by omega)
      have hy := getD_sl_lt hx f (lineE x f)
      rw [lns_at c, cmL, cmI, if_pos c]
      have k1 := rfK_sh A (n := fs.length)
      have k2 := rfL_sh A (fs := fs)
      have k3 := srR_sh A hx hy (ss := ss) (fs := fs)
      rw [e] at k1 k2 k3
      rw [k1, k2, k3]
      have le := lineE_ge x f
      rw [cmI_L hx (by omega), cmI_L hx (by omega)]
    · rw [cmI_end c, lns_end (by omega), cmL]
