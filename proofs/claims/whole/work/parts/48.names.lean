/-! texts of the tables in a tree's heap; names as two longs -/
section TEXTS3
variable {S : Shp} {h : Hp} {G : Nat → Option Nat}
/-- the start's texts, verbs and the switch's map lie ahead of the objects -/
def Tg (S : Shp) (G : Nat → Option Nat) : Prop := (∃ b L xs, Ws G (sH S) b L xs) ∧ NX (sH S) ≤ sX S
theorem txt_ok : ∀ i : Fin 89, (txt i.val).length ≤ 300 ∧ ∀ j, j < (txt i.val).length → (txt i.val).getD j 0 < 128 := by decide +kernel
theorem Tg.lt (tg : Tg S G) {a : Nat} (ha : KD (sH S) a ≠ 0) : a < sX S := by
  obtain ⟨⟨b, L, xs, -, -, -, -, -, -, -, hn, -⟩, hx⟩ := tg
  have := hn a ha
  omega
theorem Tg.tx (tg : Tg S G) (ok : Ok S h) (i : Nat) (hi : i < 89) : ∃ a, G (50 + i) = some a ∧ St h a (txt i) := by
  have lt := @Tg.lt S G tg
  obtain ⟨⟨b, L, xs, ht, -⟩, hx⟩ := tg
  obtain ⟨a, v, g1, g2, g3, g4, g5, g6, g7⟩ := ht i hi
  obtain ⟨c1, c2, c3, c4, c5, c6⟩ := ok.fo.1 a (lt (by omega)) (by omega)
  obtain ⟨e1, e2, e3, e4, e5, e6⟩ := ok.fo.1 v (lt (by omega)) (by omega)
  have o := txt_ok ⟨i, hi⟩
  exact ⟨a, g1, by omega, by rw [c3 2049 (by decide)]; exact g3, v, by rw [c4 2048 (by decide)]; exact g4, by omega, by omega, fun j hj => by rw [e5]; exact g7 j hj, o.2, o.1⟩
theorem Tg.vb (tg : Tg S G) (ok : Ok S h) (t : Nat) (ht : t < 35) : ∃ a, G t = some a ∧ KD h a = 31 ∧ FI h 2179 a = (t : Nat) ∧ FI h 2178 a = (vbK.getD t 0 : Nat) ∧ FR h 2176 a = G (50 + vbW.getD t 0) ∧ FR h 2177 a = G (50 + vbF.getD t 0) := by
  have lt := @Tg.lt S G tg
  obtain ⟨⟨b, L, xs, -, hv, -⟩, hx⟩ := tg
  obtain ⟨a, g1, g2, g3, g4, g5, g6⟩ := hv t ht
  obtain ⟨c1, c2, c3, c4, c5, c6⟩ := ok.fo.1 a (lt (by omega)) (by omega)
  exact ⟨a, g1, by omega, by rw [c3 2179 (by decide)]; exact g3, by rw [c3 2178 (by decide)]; exact g4, by rw [c4 2176 (by decide)]; exact g5, by rw [c4 2177 (by decide)]; exact g6⟩
theorem Tg.sw (tg : Tg S G) (ok : Ok S h) : ∃ w, G 40 = some w ∧ KD h w = 80 ∧ LN h w = 35 ∧ ∀ j, j < 35 → AI h w j = (swB.getD j 0 : Nat) := by
  have lt := @Tg.lt S G tg
  obtain ⟨⟨b, L, xs, -, -, ⟨w, g1, g2, g3, g4⟩, -⟩, hx⟩ := tg
  obtain ⟨c1, c2, c3, c4, c5, c6⟩ := ok.fo.1 w (lt (by omega)) (by omega)
  exact ⟨w, g1, by omega, by omega, fun j hj => by rw [c5]; exact g4 j hj⟩
theorem Tg.vs (tg : Tg S G) (ok : Ok S h) {q : Nat} (hq : sK S q = 5) : ∀ v, v < 35 → AR h (sT S 513 q) v = G v := fun v hv => by
  have lt := @Tg.lt S G tg
  obtain ⟨⟨b, L, xs, -, -, -, ⟨w, g1, g2, g3, g4⟩, -⟩, hx⟩ := tg
  rw [ok.fo.2 q v w hq (lt (by omega)) g2 hv]
  exact g4 v hv
end TEXTS3
/-! names -/
theorem sh8b (v : Int64) : (v <<< (8 : Int64)).toBitVec.toNat = v.toBitVec.toNat * 256 % 2 ^ 64 := by
  rw [Int64.toBitVec_shiftLeft, show (8 : Int64).toBitVec.smod 64 = 8#64 by decide, BitVec.shiftLeft_eq', BitVec.toNat_shiftLeft, Nat.shiftLeft_eq]
  rfl
theorem pk_step {v : Int64} {c : Nat} (hc : c < 256) (hv : v.toBitVec.toNat < 72057594037927936) : ((v <<< (8 : Int64)) ||| (i32 (c : Int)).toInt64).toBitVec.toNat = v.toBitVec.toNat * 256 + c := by
  have e1 : (i32 (c : Int)).toInt64.toBitVec.toNat = c := by
    have : ∀ q : Fin 256, (i32 ((q.val : Nat) : Int)).toInt64.toBitVec.toNat = q.val := by decide +kernel
    exact this ⟨c, hc⟩
  show ((v <<< (8 : Int64)).toBitVec ||| (i32 (c : Int)).toInt64.toBitVec).toNat = _
  rw [BitVec.toNat_or, e1, sh8b, Nat.mod_eq_of_lt (by omega)]
  have := Nat.two_pow_add_eq_or_of_lt (i := 8) (b := c) (by omega) v.toBitVec.toNat
  rw [Nat.mul_comm, show (256 : Nat) = 2 ^ 8 by decide]
  exact this.symm
theorem pk8 {a b c d e f g i : Nat} (ha : a < 256) (hb : b < 256) (hc : c < 256) (hd : d < 256) (he : e < 256) (hf : f < 256) (hg : g < 256) (hi : i < 256) :
    (pk [a, b, c, d, e, f, g, i]).toBitVec.toNat = ((((((a * 256 + b) * 256 + c) * 256 + d) * 256 + e) * 256 + f) * 256 + g) * 256 + i := by
  unfold pk
  simp only [List.foldl_cons, List.foldl_nil]
  have z : (0 : Int64).toBitVec.toNat = 0 := by decide
  have s1 := pk_step (v := 0) ha (by omega)
  rw [z] at s1
  generalize (((0 : Int64) <<< (8 : Int64)) ||| (i32 (a : Int)).toInt64) = v1 at s1 ⊢
  have s2 := pk_step (v := v1) hb (by omega)
  generalize ((v1 <<< (8 : Int64)) ||| (i32 (b : Int)).toInt64) = v2 at s2 ⊢
  have s3 := pk_step (v := v2) hc (by omega)
  generalize ((v2 <<< (8 : Int64)) ||| (i32 (c : Int)).toInt64) = v3 at s3 ⊢
  have s4 := pk_step (v := v3) hd (by omega)
  generalize ((v3 <<< (8 : Int64)) ||| (i32 (d : Int)).toInt64) = v4 at s4 ⊢
  have s5 := pk_step (v := v4) he (by omega)
  generalize ((v4 <<< (8 : Int64)) ||| (i32 (e : Int)).toInt64) = v5 at s5 ⊢
  have s6 := pk_step (v := v5) hf (by omega)
  generalize ((v5 <<< (8 : Int64)) ||| (i32 (f : Int)).toInt64) = v6 at s6 ⊢
  have s7 := pk_step (v := v6) hg (by omega)
  generalize ((v6 <<< (8 : Int64)) ||| (i32 (g : Int)).toInt64) = v7 at s7 ⊢
  have s8 := pk_step (v := v7) hi (by omega)
  rw [s8, s7, s6, s5, s4, s3, s2, s1, Nat.zero_mul, Nat.zero_add]
theorem nmB_pk {a b c d e f g i : Nat} (ha : a < 256) (hb : b < 256) (hc : c < 256) (hd : d < 256) (he : e < 256) (hf : f < 256) (hg : g < 256) (hi : i < 256) :
    nmB (pk [a, b, c, d, e, f, g, i]) 8 = [a, b, c, d, e, f, g, i].filter (· != 0) := by
  have h := pk8 ha hb hc hd he hf hg hi
  unfold nmB
  have e0 : (List.range 8).map (fun i' => pcJ (pk [a, b, c, d, e, f, g, i]) (56 - 8 * i') 8) = [a, b, c, d, e, f, g, i] := by
    simp only [show List.range 8 = [0, 1, 2, 3, 4, 5, 6, 7] by decide, List.map_cons, List.map_nil, pcJ]
    show [(pk [a, b, c, d, e, f, g, i]).toBitVec.toNat / 2 ^ (56 - 8 * 0) % 2 ^ 8, (pk [a, b, c, d, e, f, g, i]).toBitVec.toNat / 2 ^ (56 - 8 * 1) % 2 ^ 8, (pk [a, b, c, d, e, f, g, i]).toBitVec.toNat / 2 ^ (56 - 8 * 2) % 2 ^ 8, (pk [a, b, c, d, e, f, g, i]).toBitVec.toNat / 2 ^ (56 - 8 * 3) % 2 ^ 8, (pk [a, b, c, d, e, f, g, i]).toBitVec.toNat / 2 ^ (56 - 8 * 4) % 2 ^ 8, (pk [a, b, c, d, e, f, g, i]).toBitVec.toNat / 2 ^ (56 - 8 * 5) % 2 ^ 8, (pk [a, b, c, d, e, f, g, i]).toBitVec.toNat / 2 ^ (56 - 8 * 6) % 2 ^ 8, (pk [a, b, c, d, e, f, g, i]).toBitVec.toNat / 2 ^ (56 - 8 * 7) % 2 ^ 8] = _
    rw [h]
    simp only [List.cons.injEq, and_true]
    refine ⟨?_, ?_, ?_, ?_, ?_, ?_, ?_, ?_⟩ <;> simp only [Nat.reduceMul, Nat.reduceSub, Nat.reducePow] <;> omega
  rw [e0]
/-- a name's, a path's signs -/
def okS (n : List Nat) (m : Nat) : Prop := n.length ≤ m ∧ ∀ c ∈ n, 0 < c ∧ c < 128
abbrev okN (n : List Nat) : Prop := okS n 8
abbrev okP (n : List Nat) : Prop := okS n 12
def hd (n : List Nat) : Int64 := nameV n 0 n.length
def tl (n : List Nat) : Int64 := nameV n 8 n.length
theorem okS.at {n : List Nat} {m : Nat} (o : okS n m) (i : Nat) : n.getD i 0 < 128 ∧ (i < n.length → n.getD i 0 ≠ 0) := by
  rcases Nat.lt_or_ge i n.length with q | q
  · have e : n.getD i 0 = n[i] := by rw [List.getD_eq_getElem?_getD, List.getElem?_eq_getElem q]; rfl
    have := o.2 n[i] (List.getElem_mem q)
    rw [e]
    exact ⟨this.2, fun _ => by omega⟩
  · have e : n.getD i 0 = 0 := by rw [List.getD_eq_getElem?_getD, List.getElem?_eq_none q]; rfl
    rw [e]
    exact ⟨by decide, fun q2 => by omega⟩
theorem pad8_eq (l : List Nat) (f e : Nat) : pad8 l f e = [if f + 0 < e then l.getD (f + 0) 0 else 0, if f + 1 < e then l.getD (f + 1) 0 else 0, if f + 2 < e then l.getD (f + 2) 0 else 0, if f + 3 < e then l.getD (f + 3) 0 else 0, if f + 4 < e then l.getD (f + 4) 0 else 0, if f + 5 < e then l.getD (f + 5) 0 else 0, if f + 6 < e then l.getD (f + 6) 0 else 0, if f + 7 < e then l.getD (f + 7) 0 else 0] := by
  unfold pad8
  rw [show List.range 8 = [0, 1, 2, 3, 4, 5, 6, 7] by decide]
  rfl
theorem nmB_name {n : List Nat} {m f : Nat} (o : okS n m) : nmB (nameV n f n.length) 8 = (pad8 n f n.length).filter (· != 0) := by
  have b : ∀ j, (if f + j < n.length then n.getD (f + j) 0 else 0) < 256 := fun j => by
    have := (o.at (f + j)).1
    split <;> omega
  unfold nameV
  rw [pad8_eq, nmB_pk (b 0) (b 1) (b 2) (b 3) (b 4) (b 5) (b 6) (b 7)]
theorem filter_pad {n : List Nat} {m : Nat} (o : okS n m) (f : Nat) : (pad8 n f n.length).filter (· != 0) = (n.drop f).take 8 := by
  have key : ∀ k, k ≤ 8 → ((List.range k).map fun j => if f + j < n.length then n.getD (f + j) 0 else 0).filter (· != 0) = (n.drop f).take k := by
    intro k
    induction k with
    | zero => intro _; simp
    | succ k ih =>
      intro hk
      rw [List.range_succ, List.map_append, List.filter_append, ih (by omega), List.map_singleton]
      by_cases q : f + k < n.length
      · rw [if_pos q]
        have := (o.at (f + k)).2 q
        have e : n.getD (f + k) 0 = n[f + k] := by rw [List.getD_eq_getElem?_getD, List.getElem?_eq_getElem q]; rfl
        have e2 : [n.getD (f + k) 0].filter (· != 0) = [n[f + k]] := by
          rw [e] at this ⊢
          simp [this]
        rw [e2, List.take_succ, List.getElem?_drop, List.getElem?_eq_getElem q]
        rfl
      · rw [if_neg q, List.take_succ, List.getElem?_drop, List.getElem?_eq_none (by omega)]
        rfl
  exact key 8 (Nat.le_refl _)
theorem nm_back {n : List Nat} (o : okP n) : nmB (hd n) 8 ++ nmB (tl n) 8 = n := by
  unfold hd tl
  rw [nmB_name o, nmB_name o, filter_pad o, filter_pad o, List.drop_zero, List.take_of_length_le (l := n.drop 8) (by have := o.1; simp; omega)]
  exact List.take_append_drop 8 n
theorem tl_z {n : List Nat} (o : n.length ≤ 8) : tl n = 0 := by
  unfold tl nameV
  rw [pad8_eq]
  simp only [if_neg (show ¬ (8 + 0 < n.length) by omega), if_neg (show ¬ (8 + 1 < n.length) by omega), if_neg (show ¬ (8 + 2 < n.length) by omega), if_neg (show ¬ (8 + 3 < n.length) by omega), if_neg (show ¬ (8 + 4 < n.length) by omega), if_neg (show ¬ (8 + 5 < n.length) by omega), if_neg (show ¬ (8 + 6 < n.length) by omega), if_neg (show ¬ (8 + 7 < n.length) by omega)]
  decide
theorem nmB_z : nmB 0 8 = [] := by decide
theorem okS.mono {n : List Nat} {a b : Nat} (o : okS n a) (hab : a ≤ b) : okS n b := ⟨Nat.le_trans o.1 hab, o.2⟩
theorem nm_hd {n : List Nat} (o : okN n) : nmB (hd n) 8 = n := by
  have := nm_back (o.mono (by decide))
  rwa [tl_z o.1, nmB_z, List.append_nil] at this
theorem hd_inj {n m : List Nat} (o : okN n) (p : okN m) : hd n = hd m ↔ n = m := ⟨fun e => by rw [← nm_hd o, ← nm_hd p, e], fun e => e ▸ rfl⟩
theorem ht_inj {n m : List Nat} (o : okP n) (p : okP m) : (hd n = hd m ∧ tl n = tl m) ↔ n = m := ⟨fun e => by rw [← nm_back o, ← nm_back p, e.1, e.2], fun e => e ▸ ⟨rfl, rfl⟩⟩
theorem hd_nil : hd [] = 0 := by decide
theorem hd_z {n : List Nat} (o : okN n) : hd n = 0 ↔ n = [] := by rw [← hd_nil]; exact hd_inj o ⟨by decide, fun c hc => by cases hc⟩
/-- a word in a row as a name -/
theorem name_sl {l : List Nat} {f e g : Nat} (he : e ≤ l.length) (hfe : f ≤ e) : nameV l (f + g) e = nameV (sl l f e) g (sl l f e).length := by
  unfold nameV
  congr 1
  unfold pad8
  refine List.map_congr_left fun j _ => ?_
  have hl := sl_len (l := l) (f := f) (e := e) ⟨hfe, he⟩
  rw [hl]
  by_cases q : f + g + j < e
  · rw [if_pos q, if_pos (by omega)]
    unfold sl
    rw [List.getD_eq_getElem?_getD, List.getD_eq_getElem?_getD, List.getElem?_take, if_pos (by omega), List.getElem?_drop]
    congr 2
    omega
  · rw [if_neg q, if_neg (by omega)]
theorem hd_sl {l : List Nat} {f e : Nat} (he : e ≤ l.length) (hfe : f ≤ e) : nameV l f e = hd (sl l f e) := name_sl (g := 0) he hfe
theorem tl_sl {l : List Nat} {f e : Nat} (he : e ≤ l.length) (hfe : f ≤ e) : nameV l (f + 8) e = tl (sl l f e) := name_sl (g := 8) he hfe
/-- the first place below n where p holds, from i on; -1 without one -/
def srF (p : Nat → Bool) (n i : Nat) : Int := if i < n then (if p i then (i : Int) else srF p n (i + 1)) else -1
termination_by n - i
theorem srF_end {p : Nat → Bool} {n i : Nat} (h : n ≤ i) : srF p n i = -1 := by rw [srF, if_neg (by omega)]
theorem srF_yes {p : Nat → Bool} {n i : Nat} (h : i < n) (hp : p i = true) : srF p n i = i := by rw [srF, if_pos h, if_pos hp]
theorem srF_no {p : Nat → Bool} {n i : Nat} (h : i < n) (hp : p i = false) : srF p n i = srF p n (i + 1) := by rw [srF, if_pos h, if_neg (by rw [hp]; decide)]
theorem srF_rg {p : Nat → Bool} {n : Nat} : ∀ {i : Nat}, srF p n i = -1 ∨ ∃ j, i ≤ j ∧ j < n ∧ srF p n i = (j : Int) ∧ p j = true := by
  intro i
  induction hm : n - i using Nat.strongRecOn generalizing i with | ind m IH => ?_
  rcases Nat.lt_or_ge i n with q | q
  · cases hp : p i with
    | true => exact Or.inr ⟨i, Nat.le_refl _, q, srF_yes q hp, hp⟩
    | false =>
      rw [srF_no q hp]
      rcases IH (n - (i + 1)) (by omega) (i := i + 1) rfl with e | ⟨j, j1, j2⟩
      · exact Or.inl e
      · exact Or.inr ⟨j, by omega, j2⟩
  · exact Or.inl (srF_end q)
theorem srF_congr {p p' : Nat → Bool} {n : Nat} (hp : ∀ i, i < n → p i = p' i) : ∀ {i : Nat}, srF p n i = srF p' n i := by
  intro i
  induction hm : n - i using Nat.strongRecOn generalizing i with | ind m IH => ?_
  rcases Nat.lt_or_ge i n with q | q
  · cases h : p i with
    | true => rw [srF_yes q h, srF_yes q (by rw [← hp i q]; exact h)]
    | false => rw [srF_no q h, srF_no q (by rw [← hp i q]; exact h)]; exact IH (n - (i + 1)) (by omega) rfl
  · rw [srF_end q, srF_end q]
theorem srF_none {p : Nat → Bool} {n : Nat} : ∀ {i : Nat}, srF p n i = -1 ↔ ∀ j, i ≤ j → j < n → p j = false := by
  intro i
  induction hm : n - i using Nat.strongRecOn generalizing i with | ind m IH => ?_
  rcases Nat.lt_or_ge i n with q | q
  · cases h : p i with
    | true => rw [srF_yes q h]; exact ⟨fun e => by omega, fun e => by have := e i (Nat.le_refl _) q; rw [h] at this; cases this⟩
    | false =>
      rw [srF_no q h, IH (n - (i + 1)) (by omega) rfl]
      exact ⟨fun e j j1 j2 => by
        rcases Nat.eq_or_lt_of_le j1 with z | z
        · rw [← z]; exact h
        · exact e j z j2, fun e j j1 j2 => e j (by omega) j2⟩
  · rw [srF_end q]; exact ⟨fun _ j j1 j2 => by omega, fun _ => rfl⟩
