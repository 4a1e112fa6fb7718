/-! the reference: any tree judged -/
/-- what is decided on a way -/
def wyV (lp lt : Nat → Int) : Nat → Nat → Int
  | 0 => fun _ => -1
  | n + 1 => up (wyV lp lt n) (lp n).toNat (lt n)
/-- trees told on the way -/
def smW (lt : Nat → Int) : Nat → Nat
  | 0 => 0
  | n + 1 => smW lt n + (lt n).toNat
theorem wyV_cg {lp lt lp' lt' : Nat → Int} : ∀ {n : Nat}, (∀ j, j < n → lp j = lp' j ∧ lt j = lt' j) → wyV lp lt n = wyV lp' lt' n
  | 0, _ => rfl
  | n + 1, h => by
    rw [wyV, wyV, wyV_cg (fun j hj => h j (by omega)), (h n (by omega)).1, (h n (by omega)).2]
theorem smW_cg {lt lt' : Nat → Int} : ∀ {n : Nat}, (∀ j, j < n → lt j = lt' j) → smW lt n = smW lt' n
  | 0, _ => rfl
  | n + 1, h => by rw [smW, smW, smW_cg (fun j hj => h j (by omega)), h n (by omega)]
theorem smW_le {lt : Nat → Int} : ∀ {n : Nat}, (∀ j, j < n → lt j ≤ 3) → smW lt n ≤ 3 * n
  | 0, _ => Nat.le_refl _
  | n + 1, h => by
    have := smW_le (lt := lt) (n := n) (fun j hj => h j (by omega))
    have := h n (by omega)
    rw [smW]
    omega
theorem up_bk {w : Nat → Int} {i : Nat} {x : Int} : up (up w i x) i (w i) = w := by
  funext j
  by_cases q : j = i
  · rw [q, up_at]
  · rw [up_ne q, up_ne q]
theorem up_up {w : Nat → Int} {i : Nat} {x y : Int} : up (up w i x) i y = up w i y := by
  funext j
  by_cases q : j = i
  · rw [q, up_at, up_at]
  · rw [up_ne q, up_ne q, up_ne q]
theorem pTr_shape {l : List Nat} {f o p e : Nat} (h : pTr l f o p = (true, e)) (ho : 0 < o) : ∃ f', (pSign l 63 p = true ∧ pDig l (p + 1) = true ∧ pTr l f' (o + 3) (p + 2) = (true, e)) ∨ (pSign l 33 p = true ∧ pDig l (p + 1) = true ∧ pDig l (p + 2) = true ∧ pTr l f' (o - 1) (p + 3) = (true, e)) := by
  cases f with
  | zero =>
    rw [pTr] at h
    injection h with h1 h2
    have := of_decide_eq_true h1
    omega
  | succ f =>
    rw [pTr, if_neg (by omega)] at h
    refine ⟨f, ?_⟩
    by_cases a : pSign l 63 p = true
    · rw [if_pos a] at h
      by_cases b : pDig l (p + 1) = true
      · rw [if_pos b] at h; exact Or.inl ⟨a, b, h⟩
      · rw [if_neg b] at h; injection h with h1 h2; exact absurd h1 (by decide)
    · rw [if_neg a] at h
      by_cases a2 : pSign l 33 p = true
      · rw [if_pos a2] at h
        by_cases b : pDig l (p + 1) = true
        · rw [if_pos b] at h
          by_cases c : pDig l (p + 2) = true
          · rw [if_pos c] at h; exact Or.inr ⟨a2, b, c, h⟩
          · rw [if_neg c] at h; injection h with h1 h2; exact absurd h1 (by decide)
        · rw [if_neg b] at h; injection h with h1 h2; exact absurd h1 (by decide)
      · rw [if_neg a2] at h; injection h with h1 h2; exact absurd h1 (by decide)
theorem pTr_room {l : List Nat} : ∀ {f o p e : Nat}, pTr l f o p = (true, e) → p + 3 * o ≤ e
  | 0, o, p, e, h => by
    rw [pTr] at h
    injection h with h1 h2
    have := of_decide_eq_true h1
    omega
  | f + 1, o, p, e, h => by
    by_cases ho : o = 0
    · rw [pTr, if_pos ho] at h
      injection h with h1 h2
      omega
    · rw [pTr, if_neg ho] at h
      by_cases a : pSign l 63 p = true
      · rw [if_pos a] at h
        by_cases b : pDig l (p + 1) = true
        · rw [if_pos b] at h
          have := pTr_room h
          omega
        · rw [if_neg b] at h; injection h with h1 h2; exact absurd h1 (by decide)
      · rw [if_neg a] at h
        by_cases a2 : pSign l 33 p = true
        · rw [if_pos a2] at h
          by_cases b : pDig l (p + 1) = true
          · rw [if_pos b] at h
            by_cases c : pDig l (p + 2) = true
            · rw [if_pos c] at h
              have := pTr_room h
              omega
            · rw [if_neg c] at h; injection h with h1 h2; exact absurd h1 (by decide)
          · rw [if_neg b] at h; injection h with h1 h2; exact absurd h1 (by decide)
        · rw [if_neg a2] at h; injection h with h1 h2; exact absurd h1 (by decide)
/-- the class's words of a tree that is judged -/
def DjI (rs : List RuV) (l : List Nat) (T : List Nat) (lp lv lt : Nat → Int) (L e n p : Nat) (b : Bool) : Prop := djT rs l n lp lv lt (wyV lp lt L) L e p = T ∧ l.length + 1 ≤ n + p ∧ (∀ j, j < L → (0 ≤ lp j ∧ lp j ≤ 4) ∧ (0 ≤ lt j ∧ lt j ≤ 3) ∧ lv j = wyV lp lt j (lp j).toNat) ∧ 9 + 2 * L + 3 * smW lt L ≤ p ∧ (b = true → ∃ f, pTr l f (1 + 3 * L - smW lt L) p = (true, l.length)) ∧ (b = false → L = 0 ∧ p = l.length)
section DJI
variable {rs : List RuV} {l T : List Nat} {lp lv lt : Nat → Int} {L e n p : Nat}
theorem at_g {l : List Nat} {p : Nat} (h : p < l.length) : atv l (p : Int) = ((l.getD p 0 : Nat) : Int) := by
  unfold atv
  rw [if_pos ⟨by omega, by omega⟩, Int.toNat_natCast]
theorem DjI.end (I : DjI rs l T lp lv lt L e n p false) : T = txt 26 := by
  obtain ⟨i1, i2, i3, i4, i5, i6⟩ := I
  rw [← i1, dj_e (by have := i6 rfl; omega)]
theorem DjI.open63 (I : DjI rs l T lp lv lt L e n p true) (h : l.getD p 0 = 63) (h1 : p + 1 < l.length) (h2 : 4 < l.getD (p + 1) 0 - 48) : T = txt 25 ++ dec e := by
  obtain ⟨i1, i2, i3, i4, i5, i6⟩ := I
  obtain ⟨n, rfl⟩ : ∃ k, n = k + 1 := ⟨n - 1, by omega⟩
  have e0 := at_g (l := l) (p := p) (by omega)
  have e1 := at_g h1
  rw [djT, if_pos (by omega), if_neg, if_neg] at i1
  · exact i1.symm
  · rintro ⟨z, -⟩
    rw [e0] at z
    omega
  · rintro ⟨-, z1, z2, -⟩
    rw [show ((p : Nat) : Int) + 1 = ((p + 1 : Nat) : Int) by omega, e1] at z2
    omega
theorem DjI.open33 (I : DjI rs l T lp lv lt L e n p true) (h : l.getD p 0 = 33) (h1 : p + 2 < l.length) (hd : 48 ≤ l.getD (p + 1) 0 ∧ 48 ≤ l.getD (p + 2) 0) (h2 : brk rs (wyV lp lt L) (10 * (l.getD (p + 1) 0 - 48) + (l.getD (p + 2) 0 - 48)) = false) : T = txt 25 ++ dec e := by
  obtain ⟨i1, i2, i3, i4, i5, i6⟩ := I
  obtain ⟨n, rfl⟩ : ∃ k, n = k + 1 := ⟨n - 1, by omega⟩
  have e0 := at_g (l := l) (p := p) (by omega)
  have e1 := at_g (l := l) (p := p + 1) (by omega)
  have e2 := at_g h1
  rw [djT, if_pos (by omega), if_neg, if_neg] at i1
  · exact i1.symm
  · rintro ⟨-, z⟩
    rw [show ((p : Nat) : Int) + 1 = ((p + 1 : Nat) : Int) by omega, show ((p : Nat) : Int) + 2 = ((p + 2 : Nat) : Int) by omega, e1, e2] at z
    rw [show (((l.getD (p + 1) 0 : Nat) : Int) - 48) * 10 + ((l.getD (p + 2) 0 : Nat) : Int) - 48 = ((10 * (l.getD (p + 1) 0 - 48) + (l.getD (p + 2) 0 - 48) : Nat) : Int) by omega] at z
    unfold brI at z
    rw [if_pos (by omega), Int.toNat_natCast, h2] at z
    exact absurd z (by decide)
  · rintro ⟨z, -⟩
    rw [e0] at z
    omega
theorem DjI.deep (I : DjI rs l T lp lv lt L e n p true) (h4 : l.length ≤ 4096) : 11 * L + 12 ≤ l.length ∧ smW lt L ≤ 3 * L := by
  obtain ⟨i1, i2, i3, i4, i5, i6⟩ := I
  obtain ⟨f, hf⟩ := i5 rfl
  have r := pTr_room hf
  have s := smW_le (lt := lt) (n := L) (fun j hj => (i3 j hj).2.1.2)
  omega
theorem DjI.down (I : DjI rs l T lp lv lt L e n p true) (h4 : l.length ≤ 4096) (h : l.getD p 0 = 63) (h1 : p + 1 < l.length) (hd : 48 ≤ l.getD (p + 1) 0) (h2 : l.getD (p + 1) 0 - 48 ≤ 4) {f : Nat} (hf : pTr l f (1 + 3 * L - smW lt L + 3) (p + 2) = (true, l.length)) : DjI rs l T (up lp L ((l.getD (p + 1) 0 - 48 : Nat) : Int)) (up lv L (wyV lp lt L (l.getD (p + 1) 0 - 48))) (up lt L 0) (L + 1) e (n - 1) (p + 2) true := by
  have dp := I.deep h4
  obtain ⟨i1, i2, i3, i4, i5, i6⟩ := I
  obtain ⟨n, rfl⟩ : ∃ k, n = k + 1 := ⟨n - 1, by omega⟩
  have e0 := at_g (l := l) (p := p) (by omega)
  have e1 := at_g h1
  have D : ((l.getD (p + 1) 0 : Nat) : Int) - 48 = ((l.getD (p + 1) 0 - 48 : Nat) : Int) := by omega
  have D2 : (((l.getD (p + 1) 0 - 48 : Nat) : Int)).toNat = l.getD (p + 1) 0 - 48 := Int.toNat_natCast _
  have cw : wyV (up lp L ((l.getD (p + 1) 0 - 48 : Nat) : Int)) (up lt L 0) L = wyV lp lt L := wyV_cg (fun j hj => ⟨up_ne (by omega), up_ne (by omega)⟩)
  have cs : smW (up lt L 0) L = smW lt L := smW_cg (fun j hj => up_ne (by omega))
  have s1 : smW (up lt L 0) (L + 1) = smW lt L := by rw [smW, cs, up_at]; rfl
  refine ⟨?_, by omega, fun j hj => ?_, by rw [s1]; omega, fun _ => ⟨f, by rw [s1, show 1 + 3 * (L + 1) - smW lt L = 1 + 3 * L - smW lt L + 3 by omega]; exact hf⟩, fun z => absurd z (by decide)⟩
  · rw [djT, if_pos (by omega), if_pos ⟨by rw [e0]; omega, by rw [show ((p : Nat) : Int) + 1 = ((p + 1 : Nat) : Int) by omega, e1]; omega, by rw [show ((p : Nat) : Int) + 1 = ((p + 1 : Nat) : Int) by omega, e1]; omega, by omega⟩, show ((p : Nat) : Int) + 1 = ((p + 1 : Nat) : Int) by omega, e1, D, D2] at i1
    rw [wyV, cw, up_at, up_at, D2]
    exact i1
  · by_cases q : j = L
    · rw [q, up_at, up_at, up_at, cw, D2]
      exact ⟨⟨by omega, by omega⟩, ⟨by decide, by decide⟩, rfl⟩
    · have hj2 : j < L := by omega
      rw [up_ne q, up_ne q, up_ne q, wyV_cg (lp' := lp) (lt' := lt) (fun i hi => ⟨up_ne (by omega), up_ne (by omega)⟩)]
      exact i3 j hj2
theorem goB_way : ∀ {L : Nat}, (∀ j, j < L → lv j = wyV lp lt j (lp j).toNat) → goB lp lv lt (wyV lp lt L) L = (wyV lp lt (goB lp lv lt (wyV lp lt L) L).2, (goB lp lv lt (wyV lp lt L) L).2)
  | 0, _ => rfl
  | L + 1, h => by
    rw [goB]
    by_cases q : lt L = 3
    · rw [if_pos q, h L (by omega), wyV, up_bk]
      exact goB_way (fun j hj => h j (by omega))
    · rw [if_neg q]
theorem goB_dn {L : Nat} (hv : lv L = wyV lp lt L (lp L).toNat) (q : lt L = 3) : goB lp lv lt (wyV lp lt (L + 1)) (L + 1) = goB lp lv lt (wyV lp lt L) L := by
  rw [goB, if_pos q, hv, wyV, up_bk]
/-- a leaf is gone over; K levels stay -/
theorem DjI.leaf (I : DjI rs l T lp lv lt L e n p true) (h : l.getD p 0 = 33) (h1 : p + 2 < l.length) (hd : 48 ≤ l.getD (p + 1) 0 ∧ 48 ≤ l.getD (p + 2) 0) (h2 : brk rs (wyV lp lt L) (10 * (l.getD (p + 1) 0 - 48) + (l.getD (p + 2) 0 - 48)) = true) : djT rs l (n - 1) lp lv (goF lp lv lt (wyV lp lt L) L).2.1 (goF lp lv lt (wyV lp lt L) L).1 (goF lp lv lt (wyV lp lt L) L).2.2 (e + 1) (p + 3) = T := by
  obtain ⟨i1, i2, i3, i4, i5, i6⟩ := I
  obtain ⟨n, rfl⟩ : ∃ k, n = k + 1 := ⟨n - 1, by omega⟩
  have e0 := at_g (l := l) (p := p) (by omega)
  have e1 := at_g (l := l) (p := p + 1) (by omega)
  have e2 := at_g h1
  rw [djT, if_pos (by omega), if_neg, if_pos] at i1
  · exact i1
  · rw [show ((p : Nat) : Int) + 1 = ((p + 1 : Nat) : Int) by omega, show ((p : Nat) : Int) + 2 = ((p + 2 : Nat) : Int) by omega, e0, e1, e2]
    rw [show (((l.getD (p + 1) 0 : Nat) : Int) - 48) * 10 + ((l.getD (p + 2) 0 : Nat) : Int) - 48 = ((10 * (l.getD (p + 1) 0 - 48) + (l.getD (p + 2) 0 - 48) : Nat) : Int) by omega]
    refine ⟨by omega, ?_⟩
    unfold brI
    rw [if_pos (by omega), Int.toNat_natCast]
    exact h2
  · rintro ⟨z, -⟩
    rw [e0] at z
    omega
theorem DjI.l0 (I : DjI rs l T lp lv lt L e n p true) (E : djT rs l (n - 1) lp lv (goF lp lv lt (wyV lp lt L) L).2.1 (goF lp lv lt (wyV lp lt L) L).1 (goF lp lv lt (wyV lp lt L) L).2.2 (e + 1) (p + 3) = T) (G : goB lp lv lt (wyV lp lt L) L = (wyV lp lt 0, 0)) (S : smW lt L = 3 * L) {f : Nat} (hf : pTr l f (1 + 3 * L - smW lt L - 1) (p + 3) = (true, l.length)) : DjI rs l T lp lv lt 0 (e + 1) (n - 1) (p + 3) false := by
  obtain ⟨i1, i2, i3, i4, i5, i6⟩ := I
  have g := goF_0 G rfl
  rw [g] at E
  rw [S, show 1 + 3 * L - 3 * L - 1 = 0 by omega, pTr_0] at hf
  injection hf with h1 h2
  exact ⟨E, by omega, fun j hj => absurd hj (Nat.not_lt_zero _), by show 9 + 2 * 0 + 3 * 0 ≤ p + 3; omega, fun z => absurd z (by decide), fun _ => ⟨rfl, h2⟩⟩
theorem DjI.ls {K : Nat} (I : DjI rs l T lp lv lt L e n p true) (h4 : l.length ≤ 4096) (E : djT rs l (n - 1) lp lv (goF lp lv lt (wyV lp lt L) L).2.1 (goF lp lv lt (wyV lp lt L) L).1 (goF lp lv lt (wyV lp lt L) L).2.2 (e + 1) (p + 3) = T) (hK : 0 < K ∧ K ≤ L) (h3 : lt (K - 1) ≠ 3) (G : goB lp lv lt (wyV lp lt L) L = (wyV lp lt K, K)) (S : smW lt L + 3 * K = smW lt K + 3 * L) {f : Nat} (hf : pTr l f (1 + 3 * L - smW lt L - 1) (p + 3) = (true, l.length)) : DjI rs l T lp lv (up lt (K - 1) (lt (K - 1) + 1)) K (e + 1) (n - 1) (p + 3) true := by
  have dp := I.deep h4
  obtain ⟨i1, i2, i3, i4, i5, i6⟩ := I
  obtain ⟨k, rfl⟩ : ∃ k, K = k + 1 := ⟨K - 1, by omega⟩
  have g := goF_s G hK.1
  rw [show k + 1 - 1 = k from rfl] at g h3 ⊢
  rw [g] at E
  have b3 := (i3 k (by omega)).2.1
  have cw : wyV lp (up lt k (lt k + 1)) k = wyV lp lt k := wyV_cg (fun j hj => ⟨rfl, up_ne (by omega)⟩)
  have cs : smW (up lt k (lt k + 1)) k = smW lt k := smW_cg (fun j hj => up_ne (by omega))
  have s1 : smW (up lt k (lt k + 1)) (k + 1) = smW lt (k + 1) + 1 := by
    rw [smW, cs, up_at, smW]
    omega
  have sk := smW_le (lt := lt) (n := k + 1) (fun j hj => (i3 j (by omega)).2.1.2)
  refine ⟨?_, by omega, fun j hj => ?_, by rw [s1]; omega, fun _ => ⟨f, ?_⟩, fun z => absurd z (by decide)⟩
  · rw [wyV, cw, up_at]
    rw [wyV, up_up] at E
    exact E
  · by_cases q : j = k
    · rw [q, up_at, cw]
      have z := i3 k (by omega)
      exact ⟨z.1, ⟨by omega, by omega⟩, z.2.2⟩
    · have z := i3 j (by omega)
      rw [up_ne q, wyV_cg (lp' := lp) (lt' := lt) (fun i hi => ⟨rfl, up_ne (by omega)⟩)]
      exact z
  · rw [s1, show 1 + 3 * (k + 1) - (smW lt (k + 1) + 1) = 1 + 3 * L - smW lt L - 1 by omega]
    exact hf
end DJI
theorem ArI.push {S : Shp} {m f n : Nat} {g : Nat → Int} {x : Int} {h h' : Hp} (D : ArI S h m f g n) (e : h' = sAI h (sT S f m) n x) : ArI S h' m f (up g n x) (n + 1) := fun i hi => by
  rw [e, sArr]
  by_cases q : i = n
  · rw [if_pos q, q, up_at]
  · rw [if_neg q, up_ne q]; exact D i (by omega)
theorem ArI.upd {S : Shp} {m f n j : Nat} {g : Nat → Int} {x : Int} {h h' : Hp} (D : ArI S h m f g n) (e : h' = sAI h (sT S f m) j x) : ArI S h' m f (up g j x) n := fun i hi => by
  rw [e, sArr]
  by_cases q : i = j
  · rw [if_pos q, q, up_at]
  · rw [if_neg q, up_ne q]; exact D i hi
theorem ArI.dn {S : Shp} {m f n k : Nat} {g : Nat → Int} {h : Hp} (D : ArI S h m f g n) (hk : k ≤ n) : ArI S h m f g k := fun i hi => D i (by omega)
theorem ChR.set2 {S : Shp} {h h1 h2 : Hp} {m p : Nat} {vl : Nat → Int} {x : Int} (D : ChR S h m vl) (hx : 0 ≤ x ∧ x ≤ 3) (e1 : h1 = sAI h (sT S 1726 m) p x) (e2 : h2 = sAI h1 (sT S 1727 m) p 1) (so : SOk S) : ChR S h2 m (up vl p x) := fun q hq => by
  have ne : sT S 1726 m ≠ sT S 1727 m := fun z => absurd ((so.inj (by decide) (by decide)).mp z).1 (by decide)
  have e6 : AI h2 (sT S 1726 m) q = if q = p then x else AI h (sT S 1726 m) q := by rw [e2, AI_sAI, if_neg (fun z => ne z.1), e1, sArr]
  have e7 : AI h2 (sT S 1727 m) q = if q = p then 1 else AI h (sT S 1727 m) q := by
    have e71 : AI h1 (sT S 1727 m) q = AI h (sT S 1727 m) q := by rw [e1, AI_sAI, if_neg (fun z => ne z.1.symm)]
    rw [e2, sArr, e71]
  rw [e7, e6]
  by_cases z : q = p
  · subst z
    rw [up_at, if_pos rfl, if_pos rfl]
    exact Or.inr ⟨hx.1, hx.2, rfl, rfl⟩
  · rw [up_ne z, if_neg z, if_neg z]
    exact D q hq
theorem d330_0 : dc 330 0 = some (.iconst 0, 1) := by decide +kernel
theorem d330_1 : dc 330 1 = some (.istore_n 2, 2) := by decide +kernel
theorem d330_2 : dc 330 2 = some (.iload_n 2, 3) := by decide +kernel
theorem d330_3 : dc 330 3 = some (.iconst 5, 4) := by decide +kernel
theorem d330_4 : dc 330 4 = some (.if_icmp .ge ((20 : Nat) : Int), 7) := by decide +kernel
theorem d330_7 : dc 330 7 = some (.aload_n 0, 8) := by decide +kernel
theorem d330_8 : dc 330 8 = some (.dload 1727, 11) := by decide +kernel
theorem d330_11 : dc 330 11 = some (.iload_n 2, 12) := by decide +kernel
theorem d330_12 : dc 330 12 = some (.iconst 0, 13) := by decide +kernel
theorem d330_13 : dc 330 13 = some (.bastore, 14) := by decide +kernel
theorem d330_14 : dc 330 14 = some (.iinc 2 1, 17) := by decide +kernel
theorem d330_17 : dc 330 17 = some (.goto ((2 : Nat) : Int), 20) := by decide +kernel
theorem d330_20 : dc 330 20 = some (.iconst 0, 21) := by decide +kernel
theorem d330_21 : dc 330 21 = some (.istore_n 2, 22) := by decide +kernel
theorem d330_22 : dc 330 22 = some (.iload_n 2, 23) := by decide +kernel
theorem d330_23 : dc 330 23 = some (.iload_n 1, 24) := by decide +kernel
theorem d330_24 : dc 330 24 = some (.if_icmp .ge ((62 : Nat) : Int), 27) := by decide +kernel
theorem d330_27 : dc 330 27 = some (.aload_n 0, 28) := by decide +kernel
theorem d330_28 : dc 330 28 = some (.dload 1726, 31) := by decide +kernel
theorem d330_31 : dc 330 31 = some (.aload_n 0, 32) := by decide +kernel
theorem d330_32 : dc 330 32 = some (.dload 1762, 35) := by decide +kernel
theorem d330_35 : dc 330 35 = some (.iload_n 2, 36) := by decide +kernel
theorem d330_36 : dc 330 36 = some (.iaload, 37) := by decide +kernel
theorem d330_37 : dc 330 37 = some (.aload_n 0, 38) := by decide +kernel
theorem d330_38 : dc 330 38 = some (.dload 1763, 41) := by decide +kernel
theorem d330_41 : dc 330 41 = some (.iload_n 2, 42) := by decide +kernel
theorem d330_42 : dc 330 42 = some (.iaload, 43) := by decide +kernel
theorem d330_43 : dc 330 43 = some (.iastore, 44) := by decide +kernel
theorem d330_44 : dc 330 44 = some (.aload_n 0, 45) := by decide +kernel
theorem d330_45 : dc 330 45 = some (.dload 1727, 48) := by decide +kernel
theorem d330_48 : dc 330 48 = some (.aload_n 0, 49) := by decide +kernel
theorem d330_49 : dc 330 49 = some (.dload 1762, 52) := by decide +kernel
theorem d330_52 : dc 330 52 = some (.iload_n 2, 53) := by decide +kernel
theorem d330_53 : dc 330 53 = some (.iaload, 54) := by decide +kernel
theorem d330_54 : dc 330 54 = some (.iconst 1, 55) := by decide +kernel
theorem d330_55 : dc 330 55 = some (.bastore, 56) := by decide +kernel
theorem d330_56 : dc 330 56 = some (.iinc 2 1, 59) := by decide +kernel
theorem d330_59 : dc 330 59 = some (.goto ((22 : Nat) : Int), 62) := by decide +kernel
theorem d330_62 : dc 330 62 = some (.return_, 63) := by decide +kernel
theorem k_M_decideWay {S : Shp} {G : Nat → Option Nat} {d : Nat} {h : Hp} {Q : Option MV → Hp → Prop} {m : Nat} {L : Nat} {lp lt : Nat → Int} (ok : Ok S h) (h1 : 0 ≤ d) (hm : sK S m = 14) (WP : ArI S h m 1762 lp L) (WC : ArI S h m 1763 lt L) (hL : L ≤ 20000) (hb : ∀ j, j < L → (0 ≤ lp j ∧ lp j ≤ 4) ∧ (0 ≤ lt j ∧ lt j ≤ 3))
    (kk : ∀ h', Fr S m [1726, 1727] h h' → ChR S h' m (wyV lp lt L) → Q none h') : Cl G d 330 [vR (some m), vI (L : Nat)] h Q := by
  show Wp G d 330 0 [some (vR (some m)), some (vI (L : Nat)), none] [] h Q
  have WP_0 := WP
  have WC_0 := WC
  refine w_iconst d330_0 (by decide) ?_
  refine w_istore2 d330_1 rfl ?_
  have L2 : ∀ (m2 : Nat) (g_ : Hp) (i : Nat), 5 - i = m2 → Fr S m [1726, 1727] h g_ → (i ≤ 5) → (∀ p, p < i → AI g_ (sT S 1727 m) p = 0) → Wp G d 330 2 [some (vR (some m)), some (vI (L : Nat)), some (vI (i : Nat))] [] g_ Q := by
    intro m2
    induction m2 using Nat.strongRecOn with | ind m2 IH2 => ?_
    intro g_ i hm2 FRg_ il hc
    have okg_ := FRg_.ok
    have WP := ArI.s2 FRg_ hm WP_0
    have WC := ArI.s2 FRg_ hm WC_0
    refine w_iload_n d330_2 rfl ?_
    refine w_iconst d330_3 (by decide) ?_
    refine w_icmpge d330_4 (fun c4 => ?_) (fun c4 => ?_)
    · have CH : ChR S g_ m (wyV lp lt 0) := ChR.zero (fun p hp => hc p (by omega))
      refine w_iconst d330_20 (by decide) ?_
      refine w_istore2 d330_21 rfl ?_
      have L22 : ∀ (m22 : Nat) (b_ : Hp) (k : Nat), L - k = m22 → Fr S m [1726, 1727] h b_ → (k ≤ L) → (ChR S b_ m (wyV lp lt k)) → Wp G d 330 22 [some (vR (some m)), some (vI (L : Nat)), some (vI (k : Nat))] [] b_ Q := by
        intro m22
        induction m22 using Nat.strongRecOn with | ind m22 IH22 => ?_
        intro b_ k hm22 FRb_ kl CH
        have okb_ := FRb_.ok
        have WP := ArI.s2 FRb_ hm WP_0
        have WC := ArI.s2 FRb_ hm WC_0
        refine w_iload_n d330_22 rfl ?_
        refine w_iload_n d330_23 rfl ?_
        refine w_icmpge d330_24 (fun c24 => ?_) (fun c24 => ?_)
        · have ek : k = L := by omega
          rw [ek] at CH
          refine w_return d330_62 ?_
          exact kk b_ FRb_ CH
        · have hk : k < L := by omega
          have bk := hb k hk
          obtain ⟨pp, hpp⟩ : ∃ pp : Nat, lp k = (pp : Int) := ⟨(lp k).toNat, by omega⟩
          have hp2 : (lp k).toNat = pp := by omega
          refine w_aload_n d330_27 rfl ?_
          refine w_dloadS d330_28 (okb_.kd hm) (fr1726 okb_ hm) ?_
          refine w_aload_n d330_31 rfl ?_
          refine w_dloadS d330_32 (okb_.kd hm) (fr1762 okb_ hm) ?_
          refine w_iload_n d330_35 rfl ?_
          refine w_ialoadV (x := ((pp : Nat) : Int)) d330_36 (gi1762 okb_ hm (by omega)) ((WP k hk).trans hpp) ?_
          refine w_aload_n d330_37 rfl ?_
          refine w_dloadS d330_38 (okb_.kd hm) (fr1763 okb_ hm) ?_
          refine w_iload_n d330_41 rfl ?_
          refine w_ialoadV (x := (lt k)) d330_42 (gi1763 okb_ hm (by omega)) (WC k hk) ?_
          refine wa1726 d330_43 okb_ hm (by omega) (by omega) (fun h43 e43 m43 => ?_)
          have e43 : h43 = sAI b_ (sT S 1726 m) pp (lt k) := e43
          have f43 : Fr S m [1726] _ _ := Fr.wB okb_ hm m43 (fun ζ e => ⟨1726, by decide, by decide, e ▸ U_refl⟩)
          have ok43 := f43.ok
          have FR43 := Fr.tr (F := [1726, 1727]) FRb_ f43 (by decide) (by decide)
          have WP := ArI.s2 f43 hm WP
          have WC := ArI.s2 f43 hm WC
          refine w_aload_n d330_44 rfl ?_
          refine w_dloadS d330_45 (ok43.kd hm) (fr1727 ok43 hm) ?_
          refine w_aload_n d330_48 rfl ?_
          refine w_dloadS d330_49 (ok43.kd hm) (fr1762 ok43 hm) ?_
          refine w_iload_n d330_52 rfl ?_
          refine w_ialoadV (x := ((pp : Nat) : Int)) d330_53 (gi1762 ok43 hm (by omega)) ((WP k hk).trans hpp) ?_
          refine w_iconst d330_54 (by decide) ?_
          refine wa1727 d330_55 ok43 hm (by omega) (by omega) (fun h55 e55 m55 => ?_)
          have e55 : h55 = sAI h43 (sT S 1727 m) pp 1 := e55
          have f55 : Fr S m [1727] _ _ := Fr.wB ok43 hm m55 (fun ζ e => ⟨1727, by decide, by decide, e ▸ U_refl⟩)
          have ok55 := f55.ok
          have FR55 := Fr.tr (F := [1726, 1727]) FR43 f55 (by decide) (by decide)
          have WP := ArI.s2 f55 hm WP
          have WC := ArI.s2 f55 hm WC
          have CH : ChR S h55 m (wyV lp lt (k + 1)) := by rw [wyV, hp2]; exact CH.set2 bk.2 e43 e55 okb_.so
          refine w_iinc2 d330_56 rfl (by constructor <;> omega) ?_
          refine w_goto d330_59 ?_
          rw [show ((k : Nat) : Int) + 1 = ((k + 1 : Nat) : Int) by omega]
          refine w_less ?_ (IH22 _ (by omega) h55 (k + 1) rfl FR55 (by omega) CH)
          exact ⟨Or.inr rfl, Or.inr rfl, Or.inr rfl, trivial⟩
      refine w_less ?_ (L22 _ g_ 0 rfl FRg_ (Nat.zero_le _) CH)
      exact ⟨Or.inr rfl, Or.inr rfl, Or.inr rfl, trivial⟩
    · have hi : i < 5 := by omega
      refine w_aload_n d330_7 rfl ?_
      refine w_dloadS d330_8 (okg_.kd hm) (fr1727 okg_ hm) ?_
      refine w_iload_n d330_11 rfl ?_
      refine w_iconst d330_12 (by decide) ?_
      refine wa1727 d330_13 okg_ hm (by omega) (by omega) (fun h13 e13 m13 => ?_)
      have e13 : h13 = sAI g_ (sT S 1727 m) i 0 := e13
      have f13 : Fr S m [1727] _ _ := Fr.wB okg_ hm m13 (fun ζ e => ⟨1727, by decide, by decide, e ▸ U_refl⟩)
      have ok13 := f13.ok
      have FR13 := Fr.tr (F := [1726, 1727]) FRg_ f13 (by decide) (by decide)
      have WP := ArI.s2 f13 hm WP
      have WC := ArI.s2 f13 hm WC
      refine w_iinc2 d330_14 rfl (by constructor <;> omega) ?_
      refine w_goto d330_17 ?_
      rw [show ((i : Nat) : Int) + 1 = ((i + 1 : Nat) : Int) by omega]
      refine w_less ?_ (IH2 _ (by omega) h13 (i + 1) rfl FR13 (by omega) (fun p hp => by rw [e13, sArr]; by_cases z : p = i; rw [if_pos z]; rw [if_neg z]; exact hc p (by omega)))
      exact ⟨Or.inr rfl, Or.inr rfl, Or.inr rfl, trivial⟩
  refine w_less ?_ (L2 _ h 0 rfl (Fr.refl ok) (by decide) (fun p hp => absurd hp (Nat.not_lt_zero _)))
  exact ⟨Or.inr rfl, Or.inr rfl, Or.inr rfl, trivial⟩
theorem d329_0 : dc 329 0 = some (.aload_n 0, 1) := by decide +kernel
theorem d329_1 : dc 329 1 = some (.getstatic 75, 4) := by decide +kernel
theorem d329_4 : dc 329 4 = some (.invokevirtual 217, 7) := by decide +kernel
theorem d329_7 : dc 329 7 = some (.aload_n 0, 8) := by decide +kernel
theorem d329_8 : dc 329 8 = some (.iload_n 1, 9) := by decide +kernel
theorem d329_9 : dc 329 9 = some (.invokevirtual 219, 12) := by decide +kernel
theorem d329_12 : dc 329 12 = some (.return_, 13) := by decide +kernel
theorem k_M_open {S : Shp} {G : Nat → Option Nat} {d : Nat} {h : Hp} {Q : Option MV → Hp → Prop} {m : Nat} {e : Nat} {la : List Nat} (ok : Ok S h) (h1 : 11 ≤ d) (hm : sK S m = 14) (TE : TeR S h m la) (tg : Tg S G) (he : e ≤ 100000)
    (kk : ∀ h', Fr S m [1732, 1733] h h' → TeR S h' m (addBs 20000 la (txt 25 ++ dec e)) → Q none h') : Cl G d 329 [vR (some m), vI (e : Nat)] h Q := by
  show Wp G d 329 0 [some (vR (some m)), some (vI (e : Nat))] [] h Q
  have TE_0 := TE
  refine w_aload_n d329_0 rfl ?_
  obtain ⟨g1, v1, s1⟩ := tg.al ok 25 (by decide)
  refine w_getstaticS d329_1 v1 ?_
  refine w_callv2 d329_4 (by omega) rfl (ok.kd hm) (by simp) (Nat.le_of_ble_eq_true rfl) ?_
  refine k_M_say ok (by omega) hm TE s1 (fun h4 m4 q4 TE => ?_)
  have f4 : Fr S m [1732, 1733] _ _ := Fr.mk ok m4 (fun ζ q => q.elim ((fun ζ e => Or.inl e) ζ) ((fun ζ e => Or.inr ⟨1732, by decide, e ▸ U_refl⟩) ζ)) q4 (by decide)
  have ok4 := f4.ok
  have FR4 := Fr.le (F := [1732, 1733]) f4 (by decide)
  refine w_aload_n d329_7 rfl ?_
  refine w_iload_n d329_8 rfl ?_
  refine w_callv2 d329_9 (by omega) rfl (ok4.kd hm) (by simp) (Nat.le_of_ble_eq_true rfl) ?_
  refine k_M_number (n := 9) ok4 (by omega) hm (by omega) TE (by omega) (by decide) (fun h9 m9 q9 TE => ?_)
  have f9 : Fr S m [1732, 1733] _ _ := Fr.mk ok4 m9 (fun ζ q => q.elim ((fun ζ e => Or.inl e) ζ) ((fun ζ e => Or.inr ⟨1732, by decide, e ▸ U_refl⟩) ζ)) q9 (by decide)
  have ok9 := f9.ok
  have FR9 := Fr.tr (F := [1732, 1733]) FR4 f9 (by decide) (by decide)
  rw [← addBs_app] at TE
  refine w_return d329_12 ?_
  exact kk h9 FR9 TE
theorem d328_0 : dc 328 0 = some (.iconst 0, 1) := by decide +kernel
theorem d328_1 : dc 328 1 = some (.istore_n 1, 2) := by decide +kernel
theorem d328_2 : dc 328 2 = some (.iconst 0, 3) := by decide +kernel
theorem d328_3 : dc 328 3 = some (.istore_n 2, 4) := by decide +kernel
theorem d328_4 : dc 328 4 = some (.aload_n 0, 5) := by decide +kernel
theorem d328_5 : dc 328 5 = some (.getfield 1761, 8) := by decide +kernel
theorem d328_8 : dc 328 8 = some (.istore_n 3, 9) := by decide +kernel
theorem d328_9 : dc 328 9 = some (.iconst 1, 10) := by decide +kernel
theorem d328_10 : dc 328 10 = some (.istore 4, 12) := by decide +kernel
theorem d328_12 : dc 328 12 = some (.iload 4, 14) := by decide +kernel
theorem d328_14 : dc 328 14 = some (.ifCond .eq ((193 : Nat) : Int), 17) := by decide +kernel
theorem d328_17 : dc 328 17 = some (.aload_n 0, 18) := by decide +kernel
theorem d328_18 : dc 328 18 = some (.dload 1730, 21) := by decide +kernel
theorem d328_21 : dc 328 21 = some (.iload_n 3, 22) := by decide +kernel
theorem d328_22 : dc 328 22 = some (.iaload, 23) := by decide +kernel
theorem d328_23 : dc 328 23 = some (.bipush 63, 25) := by decide +kernel
theorem d328_25 : dc 328 25 = some (.if_icmp .ne ((77 : Nat) : Int), 28) := by decide +kernel
theorem d328_28 : dc 328 28 = some (.aload_n 0, 29) := by decide +kernel
theorem d328_29 : dc 328 29 = some (.dload 1730, 32) := by decide +kernel
theorem d328_32 : dc 328 32 = some (.iload_n 3, 33) := by decide +kernel
theorem d328_33 : dc 328 33 = some (.iconst 1, 34) := by decide +kernel
theorem d328_34 : dc 328 34 = some (.iadd, 35) := by decide +kernel
theorem d328_35 : dc 328 35 = some (.iaload, 36) := by decide +kernel
theorem d328_36 : dc 328 36 = some (.bipush 48, 38) := by decide +kernel
theorem d328_38 : dc 328 38 = some (.isub, 39) := by decide +kernel
theorem d328_39 : dc 328 39 = some (.istore 5, 41) := by decide +kernel
theorem d328_41 : dc 328 41 = some (.iload 5, 43) := by decide +kernel
theorem d328_43 : dc 328 43 = some (.iconst 4, 44) := by decide +kernel
theorem d328_44 : dc 328 44 = some (.if_icmp .le ((53 : Nat) : Int), 47) := by decide +kernel
theorem d328_47 : dc 328 47 = some (.aload_n 0, 48) := by decide +kernel
theorem d328_48 : dc 328 48 = some (.iload_n 1, 49) := by decide +kernel
theorem d328_49 : dc 328 49 = some (.invokevirtual 329, 52) := by decide +kernel
theorem d328_52 : dc 328 52 = some (.return_, 53) := by decide +kernel
theorem d328_53 : dc 328 53 = some (.aload_n 0, 54) := by decide +kernel
theorem d328_54 : dc 328 54 = some (.dload 1762, 57) := by decide +kernel
theorem d328_57 : dc 328 57 = some (.iload_n 2, 58) := by decide +kernel
theorem d328_58 : dc 328 58 = some (.iload 5, 60) := by decide +kernel
theorem d328_60 : dc 328 60 = some (.iastore, 61) := by decide +kernel
theorem d328_61 : dc 328 61 = some (.aload_n 0, 62) := by decide +kernel
theorem d328_62 : dc 328 62 = some (.dload 1763, 65) := by decide +kernel
theorem d328_65 : dc 328 65 = some (.iload_n 2, 66) := by decide +kernel
theorem d328_66 : dc 328 66 = some (.iconst 0, 67) := by decide +kernel
theorem d328_67 : dc 328 67 = some (.iastore, 68) := by decide +kernel
theorem d328_68 : dc 328 68 = some (.iinc 2 1, 71) := by decide +kernel
theorem d328_71 : dc 328 71 = some (.iinc 3 2, 74) := by decide +kernel
theorem d328_74 : dc 328 74 = some (.goto ((12 : Nat) : Int), 77) := by decide +kernel
theorem d328_77 : dc 328 77 = some (.bipush 10, 79) := by decide +kernel
theorem d328_79 : dc 328 79 = some (.aload_n 0, 80) := by decide +kernel
theorem d328_80 : dc 328 80 = some (.dload 1730, 83) := by decide +kernel
theorem d328_83 : dc 328 83 = some (.iload_n 3, 84) := by decide +kernel
theorem d328_84 : dc 328 84 = some (.iconst 1, 85) := by decide +kernel
theorem d328_85 : dc 328 85 = some (.iadd, 86) := by decide +kernel
theorem d328_86 : dc 328 86 = some (.iaload, 87) := by decide +kernel
theorem d328_87 : dc 328 87 = some (.bipush 48, 89) := by decide +kernel
theorem d328_89 : dc 328 89 = some (.isub, 90) := by decide +kernel
theorem d328_90 : dc 328 90 = some (.imul, 91) := by decide +kernel
theorem d328_91 : dc 328 91 = some (.aload_n 0, 92) := by decide +kernel
theorem d328_92 : dc 328 92 = some (.dload 1730, 95) := by decide +kernel
theorem d328_95 : dc 328 95 = some (.iload_n 3, 96) := by decide +kernel
theorem d328_96 : dc 328 96 = some (.iconst 2, 97) := by decide +kernel
theorem d328_97 : dc 328 97 = some (.iadd, 98) := by decide +kernel
theorem d328_98 : dc 328 98 = some (.iaload, 99) := by decide +kernel
theorem d328_99 : dc 328 99 = some (.iadd, 100) := by decide +kernel
theorem d328_100 : dc 328 100 = some (.bipush 48, 102) := by decide +kernel
theorem d328_102 : dc 328 102 = some (.isub, 103) := by decide +kernel
theorem d328_103 : dc 328 103 = some (.istore 5, 105) := by decide +kernel
theorem d328_105 : dc 328 105 = some (.aload_n 0, 106) := by decide +kernel
theorem d328_106 : dc 328 106 = some (.iload_n 2, 107) := by decide +kernel
theorem d328_107 : dc 328 107 = some (.invokevirtual 330, 110) := by decide +kernel
theorem d328_110 : dc 328 110 = some (.iload 5, 112) := by decide +kernel
theorem d328_112 : dc 328 112 = some (.aload_n 0, 113) := by decide +kernel
theorem d328_113 : dc 328 113 = some (.getfield 1720, 116) := by decide +kernel
theorem d328_116 : dc 328 116 = some (.if_icmp .ge ((128 : Nat) : Int), 119) := by decide +kernel
theorem d328_119 : dc 328 119 = some (.aload_n 0, 120) := by decide +kernel
theorem d328_120 : dc 328 120 = some (.iload 5, 122) := by decide +kernel
theorem d328_122 : dc 328 122 = some (.invokevirtual 323, 125) := by decide +kernel
theorem d328_125 : dc 328 125 = some (.ifCond .ne ((134 : Nat) : Int), 128) := by decide +kernel
theorem d328_128 : dc 328 128 = some (.aload_n 0, 129) := by decide +kernel
theorem d328_129 : dc 328 129 = some (.iload_n 1, 130) := by decide +kernel
theorem d328_130 : dc 328 130 = some (.invokevirtual 329, 133) := by decide +kernel
theorem d328_133 : dc 328 133 = some (.return_, 134) := by decide +kernel
theorem d328_134 : dc 328 134 = some (.iinc 1 1, 137) := by decide +kernel
theorem d328_137 : dc 328 137 = some (.iinc 3 3, 140) := by decide +kernel
theorem d328_140 : dc 328 140 = some (.iload_n 2, 141) := by decide +kernel
theorem d328_141 : dc 328 141 = some (.ifCond .le ((162 : Nat) : Int), 144) := by decide +kernel
theorem d328_144 : dc 328 144 = some (.aload_n 0, 145) := by decide +kernel
theorem d328_145 : dc 328 145 = some (.dload 1763, 148) := by decide +kernel
theorem d328_148 : dc 328 148 = some (.iload_n 2, 149) := by decide +kernel
theorem d328_149 : dc 328 149 = some (.iconst 1, 150) := by decide +kernel
theorem d328_150 : dc 328 150 = some (.isub, 151) := by decide +kernel
theorem d328_151 : dc 328 151 = some (.iaload, 152) := by decide +kernel
theorem d328_152 : dc 328 152 = some (.iconst 3, 153) := by decide +kernel
theorem d328_153 : dc 328 153 = some (.if_icmp .ne ((162 : Nat) : Int), 156) := by decide +kernel
theorem d328_156 : dc 328 156 = some (.iinc 2 (-1), 159) := by decide +kernel
theorem d328_159 : dc 328 159 = some (.goto ((140 : Nat) : Int), 162) := by decide +kernel
theorem d328_162 : dc 328 162 = some (.iload_n 2, 163) := by decide +kernel
theorem d328_163 : dc 328 163 = some (.ifCond .le ((170 : Nat) : Int), 166) := by decide +kernel
theorem d328_166 : dc 328 166 = some (.iconst 1, 167) := by decide +kernel
theorem d328_167 : dc 328 167 = some (.goto ((171 : Nat) : Int), 170) := by decide +kernel
theorem d328_170 : dc 328 170 = some (.iconst 0, 171) := by decide +kernel
theorem d328_171 : dc 328 171 = some (.istore 4, 173) := by decide +kernel
theorem d328_173 : dc 328 173 = some (.iload 4, 175) := by decide +kernel
theorem d328_175 : dc 328 175 = some (.ifCond .eq ((190 : Nat) : Int), 178) := by decide +kernel
theorem d328_178 : dc 328 178 = some (.aload_n 0, 179) := by decide +kernel
theorem d328_179 : dc 328 179 = some (.dload 1763, 182) := by decide +kernel
theorem d328_182 : dc 328 182 = some (.iload_n 2, 183) := by decide +kernel
theorem d328_183 : dc 328 183 = some (.iconst 1, 184) := by decide +kernel
theorem d328_184 : dc 328 184 = some (.isub, 185) := by decide +kernel
theorem d328_185 : dc 328 185 = some (.dup2, 186) := by decide +kernel
theorem d328_186 : dc 328 186 = some (.iaload, 187) := by decide +kernel
theorem d328_187 : dc 328 187 = some (.iconst 1, 188) := by decide +kernel
theorem d328_188 : dc 328 188 = some (.iadd, 189) := by decide +kernel
theorem d328_189 : dc 328 189 = some (.iastore, 190) := by decide +kernel
theorem d328_190 : dc 328 190 = some (.goto ((12 : Nat) : Int), 193) := by decide +kernel
theorem d328_193 : dc 328 193 = some (.aload_n 0, 194) := by decide +kernel
theorem d328_194 : dc 328 194 = some (.getstatic 76, 197) := by decide +kernel
theorem d328_197 : dc 328 197 = some (.invokevirtual 217, 200) := by decide +kernel
theorem d328_200 : dc 328 200 = some (.return_, 201) := by decide +kernel
theorem k_M_disprove {S : Shp} {G : Nat → Option Nat} {d : Nat} {h : Hp} {Q : Option MV → Hp → Prop} {m : Nat} {rs : List RuV} {la l T : List Nat} {f0 : Nat} (ok : Ok S h) (h1 : 12 ≤ d) (hm : sK S m = 14) (RS : RsR S h m rs) (TE : TeR S h m la) (RQ : RqR S h m l) (TF1 : FI h 1761 m = ((9 : Nat) : Int)) (tg : Tg S G) (h4 : l.length ≤ 4096) (hT : djT rs l (l.length + 1) (fun _ => 0) (fun _ => 0) (fun _ => 0) (fun _ => -1) 0 0 9 = T) (htr : pTr l f0 1 9 = (true, l.length))
    (kk : ∀ h', Fr S m [1726, 1727, 1762, 1763, 1732, 1733] h h' → TeR S h' m (addBs 20000 la T) → Q none h') : Cl G d 328 [vR (some m)] h Q := by
  show Wp G d 328 0 [some (vR (some m)), none, none, none, none, none] [] h Q
  have RS_0 := RS
  have TE_0 := TE
  have RQ_0 := RQ
  have TF1_0 := TF1
  refine w_iconst d328_0 (by decide) ?_
  refine w_istore1 d328_1 rfl ?_
  refine w_iconst d328_2 (by decide) ?_
  refine w_istore2 d328_3 rfl ?_
  refine w_aload_n d328_4 rfl ?_
  refine w_getI (x := ((9 : Nat) : Int)) d328_5 (ok.kd hm) TF1 ?_
  refine w_istore3 d328_8 rfl ?_
  refine w_iconst d328_9 (by decide) ?_
  refine w_istore4 d328_10 rfl ?_
  have L12 : ∀ (m12 : Nat) (g_ : Hp) (lp lv lt : Nat → Int) (L e n p : Nat) (b : Bool), (if b = true then 1 else 0) + (l.length - p) = m12 → Fr S m [1726, 1727, 1762, 1763, 1732, 1733] h g_ → (p ≤ l.length ∧ e ≤ p) → (DjI rs l T lp lv lt L e n p b) → (ArI S g_ m 1762 lp L) → (ArI S g_ m 1763 lt L) → (TeR S g_ m la) → Wp G d 328 12 [some (vR (some m)), some (vI (e : Nat)), some (vI (L : Nat)), some (vI (p : Nat)), some (vI (b2i b)), none] [] g_ Q := by
    intro m12
    induction m12 using Nat.strongRecOn with | ind m12 IH12 => ?_
    intro g_ lp lv lt L e n p b hm12 FRg_ pe I WP WC TE
    have okg_ := FRg_.ok
    have RS := RsR.s FRg_ hm RS_0
    have RQ := RQ_0.r FRg_ hm
    have TF1 := (FRg_.i 1761).trans TF1_0
    refine w_iload d328_12 rfl ?_
    refine w_ifeq d328_14 (fun c14 => ?_) (fun c14 => ?_)
    · have bf : b = false := by
        cases b with
        | true => exact absurd c14 (by decide)
        | false => rfl
      subst bf
      refine w_aload_n d328_193 rfl ?_
      obtain ⟨g194, v194, s194⟩ := tg.al okg_ 26 (by decide)
      refine w_getstaticS d328_194 v194 ?_
      refine w_callv2 d328_197 (by omega) rfl (okg_.kd hm) (by simp) (Nat.le_of_ble_eq_true rfl) ?_
      refine k_M_say okg_ (by omega) hm TE s194 (fun h197 m197 q197 TE => ?_)
      have f197 : Fr S m [1732, 1733] _ _ := Fr.mk okg_ m197 (fun ζ q => q.elim ((fun ζ e => Or.inl e) ζ) ((fun ζ e => Or.inr ⟨1732, by decide, e ▸ U_refl⟩) ζ)) q197 (by decide)
      have ok197 := f197.ok
      have FR197 := Fr.tr (F := [1726, 1727, 1762, 1763, 1732, 1733]) FRg_ f197 (by decide) (by decide)
      have RS := RsR.s f197 hm RS
      have RQ := RQ.r f197 hm
      have TF1 := (f197.i 1761).trans TF1
      have WP := ArI.s2 f197 hm WP
      have WC := ArI.s2 f197 hm WC
      refine w_return d328_200 ?_
      exact kk h197 FR197 (by rw [I.end]; exact TE)
    · have bt : b = true := by
        cases b with
        | true => rfl
        | false => exact absurd rfl c14
      subst bt
      have dp := I.deep h4
      obtain ⟨f0, hf0⟩ := I.2.2.2.2.1 rfl
      obtain ⟨f, hsh⟩ := pTr_shape hf0 (by omega)
      have hp1 : p + 1 < l.length := by rcases hsh with z | z; exact pDig_lt z.2.1; exact pDig_lt z.2.1
      have hd1 : 48 ≤ l.getD (p + 1) 0 ∧ l.getD (p + 1) 0 ≤ 57 := by
        rcases hsh with z | z
        · exact (of_decide_eq_true (show decide (p + 1 < l.length ∧ 48 ≤ l.getD (p + 1) 0 ∧ l.getD (p + 1) 0 ≤ 57) = true from z.2.1)).2
        · exact (of_decide_eq_true (show decide (p + 1 < l.length ∧ 48 ≤ l.getD (p + 1) 0 ∧ l.getD (p + 1) 0 ≤ 57) = true from z.2.1)).2
      have ib := I.2.2.1
      refine w_aload_n d328_17 rfl ?_
      refine w_dloadS d328_18 (okg_.kd hm) (fr1730 okg_ hm) ?_
      refine w_iload_n d328_21 rfl ?_
      refine w_ialoadV (x := ((l.getD p 0 : Nat) : Int)) d328_22 (gi1730 okg_ hm (by omega)) (RQ.2.2.at0 (by omega)) ?_
      refine w_bipush d328_23 (by decide) ?_
      refine w_icmpne d328_25 (fun c25 => ?_) (fun c25 => ?_)
      · have sh := hsh.resolve_left (fun z => by have := (of_decide_eq_true (show decide (p < l.length ∧ l.getD p 0 = 63) = true from z.1)).2; omega)
        have b33 := (of_decide_eq_true (show decide (p < l.length ∧ l.getD p 0 = 33) = true from sh.1)).2
        have hp2 := pDig_lt sh.2.2.1
        have hd2 := (of_decide_eq_true (show decide (p + 2 < l.length ∧ 48 ≤ l.getD (p + 2) 0 ∧ l.getD (p + 2) 0 ≤ 57) = true from sh.2.2.1)).2
        refine w_bipush d328_77 (by decide) ?_
        refine w_aload_n d328_79 rfl ?_
        refine w_dloadS d328_80 (okg_.kd hm) (fr1730 okg_ hm) ?_
        refine w_iload_n d328_83 rfl ?_
        refine w_iconst d328_84 (by decide) ?_
        refine w_iadd d328_85 (by constructor <;> omega) ?_
        rw [show ((p : Nat) : Int) + 1 = ((p + 1 : Nat) : Int) by omega]
        refine w_ialoadV (x := ((l.getD (p + 1) 0 : Nat) : Int)) d328_86 (gi1730 okg_ hm (by omega)) (RQ.2.2.at0 hp1) ?_
        refine w_bipush d328_87 (by decide) ?_
        refine w_isub d328_89 (by constructor <;> omega) ?_
        rw [show ((l.getD (p + 1) 0 : Nat) : Int) - 48 = (((l.getD (p + 1) 0 - 48) : Nat) : Int) by omega]
        refine w_imul d328_90 (by constructor <;> omega) ?_
        rw [show (10 : Int) * (((l.getD (p + 1) 0 - 48) : Nat) : Int) = ((10 * (l.getD (p + 1) 0 - 48) : Nat) : Int) by omega]
        refine w_aload_n d328_91 rfl ?_
        refine w_dloadS d328_92 (okg_.kd hm) (fr1730 okg_ hm) ?_
        refine w_iload_n d328_95 rfl ?_
        refine w_iconst d328_96 (by decide) ?_
        refine w_iadd d328_97 (by constructor <;> omega) ?_
        rw [show ((p : Nat) : Int) + 2 = ((p + 2 : Nat) : Int) by omega]
        refine w_ialoadV (x := ((l.getD (p + 2) 0 : Nat) : Int)) d328_98 (gi1730 okg_ hm (by omega)) (RQ.2.2.at0 hp2) ?_
        refine w_iadd d328_99 (by constructor <;> omega) ?_
        refine w_bipush d328_100 (by decide) ?_
        refine w_isub d328_102 (by constructor <;> omega) ?_
        rw [show ((10 * (l.getD (p + 1) 0 - 48) : Nat) : Int) + ((l.getD (p + 2) 0 : Nat) : Int) - 48 = (((10 * (l.getD (p + 1) 0 - 48) + (l.getD (p + 2) 0 - 48)) : Nat) : Int) by omega]
        refine w_istore5 d328_103 rfl ?_
        refine w_aload_n d328_105 rfl ?_
        refine w_iload_n d328_106 rfl ?_
        refine w_callv2 d328_107 (by omega) rfl (okg_.kd hm) (by simp) (Nat.le_of_ble_eq_true rfl) ?_
        refine k_M_decideWay okg_ (by omega) hm WP WC (by omega) (fun j hj => ⟨(ib j hj).1, (ib j hj).2.1⟩) (fun h107 f107 CH => ?_)
        have ok107 := f107.ok
        have FR107 := Fr.tr (F := [1726, 1727, 1762, 1763, 1732, 1733]) FRg_ f107 (by decide) (by decide)
        have TE := TE.r f107 hm
        have RS := RsR.s f107 hm RS
        have RQ := RQ.r f107 hm
        have TF1 := (f107.i 1761).trans TF1
        have WP := ArI.s2 f107 hm WP
        have WC := ArI.s2 f107 hm WC
        refine w_iload d328_110 rfl ?_
        refine w_aload_n d328_112 rfl ?_
        refine w_getI (x := ((rs.length : Nat) : Int)) d328_113 (ok107.kd hm) RS.1 ?_
        refine w_icmpge d328_116 (fun c116 => ?_) (fun c116 => ?_)
        · have bf : brk rs (wyV lp lt L) (10 * (l.getD (p + 1) 0 - 48) + (l.getD (p + 2) 0 - 48)) = false := decide_eq_false (fun z => by have := z.1; omega)
          refine w_aload_n d328_128 rfl ?_
          refine w_iload_n d328_129 rfl ?_
          refine w_callv2 d328_130 (by omega) rfl (ok107.kd hm) (by simp) (Nat.le_of_ble_eq_true rfl) ?_
          refine k_M_open ok107 (by omega) hm TE tg (by omega) (fun h130 f130 TE => ?_)
          have ok130 := f130.ok
          have FR130 := Fr.tr (F := [1726, 1727, 1762, 1763, 1732, 1733]) FR107 f130 (by decide) (by decide)
          have RS := RsR.s f130 hm RS
          have RQ := RQ.r f130 hm
          have TF1 := (f130.i 1761).trans TF1
          have WP := ArI.s2 f130 hm WP
          have WC := ArI.s2 f130 hm WC
          have CH := ChR.s f130 hm CH
          refine w_return d328_133 ?_
          exact kk _ FR130 (by rw [I.open33 b33 hp2 ⟨hd1.1, hd2.1⟩ bf]; exact TE)
        · have hr : (10 * (l.getD (p + 1) 0 - 48) + (l.getD (p + 2) 0 - 48)) < rs.length := by omega
          refine w_aload_n d328_119 rfl ?_
          refine w_iload d328_120 rfl ?_
          refine w_callv2 d328_122 (by omega) rfl (ok107.kd hm) (by simp) (Nat.le_of_ble_eq_true rfl) ?_
          refine k_M_isBroken ok107 (by omega) hm RS CH hr ?_
          refine w_ifne d328_125 (fun c125 => ?_) (fun c125 => ?_)
          · have bt : (brk rs (wyV lp lt L) (10 * (l.getD (p + 1) 0 - 48) + (l.getD (p + 2) 0 - 48))) = true := by
              cases hz : (brk rs (wyV lp lt L) (10 * (l.getD (p + 1) 0 - 48) + (l.getD (p + 2) 0 - 48))) with
              | true => rfl
              | false => rw [hz] at c125; exact absurd rfl c125
            have E := I.leaf b33 hp2 ⟨hd1.1, hd2.1⟩ bt
            have iv : ∀ j, j < L → lv j = wyV lp lt j (lp j).toNat := fun j hj => (ib j hj).2.2
            refine w_iinc1 d328_134 rfl (by constructor <;> omega) ?_
            refine w_iinc3 d328_137 rfl (by constructor <;> omega) ?_
            have L140 : ∀ (m140 : Nat) (K : Nat), K = m140 → (K ≤ L) → (goB lp lv lt (wyV lp lt L) L = goB lp lv lt (wyV lp lt K) K) → (smW lt L + 3 * K = smW lt K + 3 * L) → Wp G d 328 140 [some (vR (some m)), some (vI ((e : Nat) + 1)), some (vI (K : Nat)), some (vI ((p : Nat) + 3)), some (vI (b2i true)), some (vI ((10 * (l.getD (p + 1) 0 - 48) + (l.getD (p + 2) 0 - 48)) : Nat))] [] h107 Q := by
              intro m140
              induction m140 using Nat.strongRecOn with | ind m140 IH140 => ?_
              intro K hm140 kl GB SM
              refine w_iload_n d328_140 rfl ?_
              refine w_ifle d328_141 (fun c141 => ?_) (fun c141 => ?_)
              · have K0 : K = 0 := by omega
                rw [K0] at GB SM
                have I2 := I.l0 E (by rw [GB]; rfl) (by have := SM; rw [smW] at this; omega) sh.2.2.2
                refine w_iload_n d328_162 rfl ?_
                refine w_ifle d328_163 (fun c163 => ?_) (fun c163 => ?_)
                · refine w_iconst d328_170 (by decide) ?_
                  refine w_istore4 d328_171 rfl ?_
                  refine w_iload d328_173 rfl ?_
                  refine w_ifeq d328_175 (fun c175 => ?_) (fun c175 => ?_)
                  · refine w_goto d328_190 ?_
                    rw [show ((p : Nat) : Int) + 3 = ((p + 3 : Nat) : Int) by omega]
                    rw [show ((e : Nat) : Int) + 1 = ((e + 1 : Nat) : Int) by omega]
                    rw [K0]
                    refine w_less ?_ (IH12 _ (by rw [if_pos rfl] at hm12; rw [if_neg (by decide)]; omega) h107 lp lv lt 0 (e + 1) (n - 1) (p + 3) false rfl FR107 ⟨by omega, by omega⟩ I2 (ArI.dn WP (Nat.zero_le _)) (ArI.dn WC (Nat.zero_le _)) TE)
                    exact ⟨Or.inr rfl, Or.inr rfl, Or.inr rfl, Or.inr rfl, Or.inr rfl, Or.inl rfl, trivial⟩
                  · exact absurd rfl c175
                · omega
              · have K1 : 0 < K := by omega
                refine w_aload_n d328_144 rfl ?_
                refine w_dloadS d328_145 (ok107.kd hm) (fr1763 ok107 hm) ?_
                refine w_iload_n d328_148 rfl ?_
                refine w_iconst d328_149 (by decide) ?_
                refine w_isub d328_150 (by constructor <;> omega) ?_
                rw [show ((K : Nat) : Int) - 1 = ((K - 1 : Nat) : Int) by omega]
                refine w_ialoadV (x := (lt (K - 1))) d328_151 (gi1763 ok107 hm (by omega)) (WC (K - 1) (by omega)) ?_
                refine w_iconst d328_152 (by decide) ?_
                refine w_icmpne d328_153 (fun c153 => ?_) (fun c153 => ?_)
                · have I2 := I.ls h4 E ⟨K1, kl⟩ c153 (by rw [GB]; exact goB_end (Or.inr c153)) SM sh.2.2.2
                  have l3 := (ib (K - 1) (by omega)).2.1
                  refine w_iload_n d328_162 rfl ?_
                  refine w_ifle d328_163 (fun c163 => ?_) (fun c163 => ?_)
                  · omega
                  · refine w_iconst d328_166 (by decide) ?_
                    refine w_goto d328_167 ?_
                    refine w_istore4 d328_171 rfl ?_
                    refine w_iload d328_173 rfl ?_
                    refine w_ifeq d328_175 (fun c175 => ?_) (fun c175 => ?_)
                    · exact absurd c175 (by decide)
                    · refine w_aload_n d328_178 rfl ?_
                      refine w_dloadS d328_179 (ok107.kd hm) (fr1763 ok107 hm) ?_
                      refine w_iload_n d328_182 rfl ?_
                      refine w_iconst d328_183 (by decide) ?_
                      refine w_isub d328_184 (by constructor <;> omega) ?_
                      rw [show ((K : Nat) : Int) - 1 = ((K - 1 : Nat) : Int) by omega]
                      refine w_dup2 d328_185 ?_
                      refine w_ialoadV (x := (lt (K - 1))) d328_186 (gi1763 ok107 hm (by omega)) (WC (K - 1) (by omega)) ?_
                      refine w_iconst d328_187 (by decide) ?_
                      refine w_iadd d328_188 (by constructor <;> omega) ?_
                      refine wa1763 d328_189 ok107 hm (by omega) (by omega) (fun h189 e189 m189 => ?_)
                      have e189 : h189 = sAI h107 (sT S 1763 m) (K - 1) ((lt (K - 1)) + 1) := e189
                      have f189 : Fr S m [1763] _ _ := Fr.wB ok107 hm m189 (fun ζ e => ⟨1763, by decide, by decide, e ▸ U_refl⟩)
                      have ok189 := f189.ok
                      have FR189 := Fr.tr (F := [1726, 1727, 1762, 1763, 1732, 1733]) FR107 f189 (by decide) (by decide)
                      have TE := TE.r f189 hm
                      have RS := RsR.s f189 hm RS
                      have RQ := RQ.r f189 hm
                      have TF1 := (f189.i 1761).trans TF1
                      have WP := ArI.s2 f189 hm WP
                      have CH := ChR.s f189 hm CH
                      have WC := (ArI.dn WC kl).upd e189
                      have WP := ArI.dn WP kl
                      refine w_goto d328_190 ?_
                      rw [show ((p : Nat) : Int) + 3 = ((p + 3 : Nat) : Int) by omega]
                      rw [show ((e : Nat) : Int) + 1 = ((e + 1 : Nat) : Int) by omega]
                      refine w_less ?_ (IH12 _ (by rw [if_pos rfl] at hm12; rw [if_pos rfl]; omega) h189 lp lv (up lt (K - 1) (lt (K - 1) + 1)) K (e + 1) (n - 1) (p + 3) true rfl FR189 ⟨by omega, by omega⟩ I2 WP WC TE)
                      exact ⟨Or.inr rfl, Or.inr rfl, Or.inr rfl, Or.inr rfl, Or.inr rfl, Or.inl rfl, trivial⟩
                · obtain ⟨k, rfl⟩ : ∃ k, K = k + 1 := ⟨K - 1, by omega⟩
                  have c3 : lt k = 3 := c153
                  have G2 := GB.trans (goB_dn (iv k (by omega)) c3)
                  have S2 : smW lt L + 3 * k = smW lt k + 3 * L := by rw [smW] at SM; omega
                  refine w_iinc2 d328_156 rfl (by constructor <;> omega) ?_
                  refine w_goto d328_159 ?_
                  rw [show (((k + 1 : Nat) : Int)) + (-1) = ((k : Nat) : Int) by omega]
                  refine w_less ?_ (IH140 _ (by omega) k rfl (by omega) G2 S2)
                  exact ⟨Or.inr rfl, Or.inr rfl, Or.inr rfl, Or.inr rfl, Or.inr rfl, Or.inr rfl, trivial⟩
            refine w_less ?_ (L140 _ L rfl (Nat.le_refl _) rfl rfl)
            exact ⟨Or.inr rfl, Or.inr rfl, Or.inr rfl, Or.inr rfl, Or.inr rfl, Or.inr rfl, trivial⟩
          · have bf : (brk rs (wyV lp lt L) (10 * (l.getD (p + 1) 0 - 48) + (l.getD (p + 2) 0 - 48))) = false := by
              cases hz : (brk rs (wyV lp lt L) (10 * (l.getD (p + 1) 0 - 48) + (l.getD (p + 2) 0 - 48))) with
              | true => rw [hz] at c125; exact absurd c125 (by decide)
              | false => rfl
            refine w_aload_n d328_128 rfl ?_
            refine w_iload_n d328_129 rfl ?_
            refine w_callv2 d328_130 (by omega) rfl (ok107.kd hm) (by simp) (Nat.le_of_ble_eq_true rfl) ?_
            refine k_M_open ok107 (by omega) hm TE tg (by omega) (fun h130 f130 TE => ?_)
            have ok130 := f130.ok
            have FR130 := Fr.tr (F := [1726, 1727, 1762, 1763, 1732, 1733]) FR107 f130 (by decide) (by decide)
            have RS := RsR.s f130 hm RS
            have RQ := RQ.r f130 hm
            have TF1 := (f130.i 1761).trans TF1
            have WP := ArI.s2 f130 hm WP
            have WC := ArI.s2 f130 hm WC
            have CH := ChR.s f130 hm CH
            refine w_return d328_133 ?_
            exact kk _ FR130 (by rw [I.open33 b33 hp2 ⟨hd1.1, hd2.1⟩ bf]; exact TE)
      · have b63 : l.getD p 0 = 63 := by omega
        have sh := hsh.resolve_right (fun z => by have := (of_decide_eq_true (show decide (p < l.length ∧ l.getD p 0 = 33) = true from z.1)).2; omega)
        refine w_aload_n d328_28 rfl ?_
        refine w_dloadS d328_29 (okg_.kd hm) (fr1730 okg_ hm) ?_
        refine w_iload_n d328_32 rfl ?_
        refine w_iconst d328_33 (by decide) ?_
        refine w_iadd d328_34 (by constructor <;> omega) ?_
        rw [show ((p : Nat) : Int) + 1 = ((p + 1 : Nat) : Int) by omega]
        refine w_ialoadV (x := ((l.getD (p + 1) 0 : Nat) : Int)) d328_35 (gi1730 okg_ hm (by omega)) (RQ.2.2.at0 hp1) ?_
        refine w_bipush d328_36 (by decide) ?_
        refine w_isub d328_38 (by constructor <;> omega) ?_
        rw [show ((l.getD (p + 1) 0 : Nat) : Int) - 48 = (((l.getD (p + 1) 0 - 48) : Nat) : Int) by omega]
        refine w_istore5 d328_39 rfl ?_
        refine w_iload d328_41 rfl ?_
        refine w_iconst d328_43 (by decide) ?_
        refine w_icmple d328_44 (fun c44 => ?_) (fun c44 => ?_)
        · refine w_aload_n d328_53 rfl ?_
          refine w_dloadS d328_54 (okg_.kd hm) (fr1762 okg_ hm) ?_
          refine w_iload_n d328_57 rfl ?_
          refine w_iload d328_58 rfl ?_
          refine wa1762 d328_60 okg_ hm (by omega) (by omega) (fun h60 e60 m60 => ?_)
          have e60 : h60 = sAI g_ (sT S 1762 m) L (((l.getD (p + 1) 0 - 48) : Nat) : Int) := e60
          have f60 : Fr S m [1762] _ _ := Fr.wB okg_ hm m60 (fun ζ e => ⟨1762, by decide, by decide, e ▸ U_refl⟩)
          have ok60 := f60.ok
          have FR60 := Fr.tr (F := [1726, 1727, 1762, 1763, 1732, 1733]) FRg_ f60 (by decide) (by decide)
          have TE := TE.r f60 hm
          have RS := RsR.s f60 hm RS
          have RQ := RQ.r f60 hm
          have TF1 := (f60.i 1761).trans TF1
          have WC := ArI.s2 f60 hm WC
          have WP := WP.push e60
          refine w_aload_n d328_61 rfl ?_
          refine w_dloadS d328_62 (ok60.kd hm) (fr1763 ok60 hm) ?_
          refine w_iload_n d328_65 rfl ?_
          refine w_iconst d328_66 (by decide) ?_
          refine wa1763 d328_67 ok60 hm (by omega) (by omega) (fun h67 e67 m67 => ?_)
          have e67 : h67 = sAI h60 (sT S 1763 m) L 0 := e67
          have f67 : Fr S m [1763] _ _ := Fr.wB ok60 hm m67 (fun ζ e => ⟨1763, by decide, by decide, e ▸ U_refl⟩)
          have ok67 := f67.ok
          have FR67 := Fr.tr (F := [1726, 1727, 1762, 1763, 1732, 1733]) FR60 f67 (by decide) (by decide)
          have TE := TE.r f67 hm
          have RS := RsR.s f67 hm RS
          have RQ := RQ.r f67 hm
          have TF1 := (f67.i 1761).trans TF1
          have WP := ArI.s2 f67 hm WP
          have WC := WC.push e67
          have I2 := I.down h4 b63 hp1 hd1.1 (by omega) sh.2.2
          refine w_iinc2 d328_68 rfl (by constructor <;> omega) ?_
          refine w_iinc3 d328_71 rfl (by constructor <;> omega) ?_
          refine w_goto d328_74 ?_
          rw [show ((L : Nat) : Int) + 1 = ((L + 1 : Nat) : Int) by omega]
          rw [show ((p : Nat) : Int) + 2 = ((p + 2 : Nat) : Int) by omega]
          refine w_less ?_ (IH12 _ (by rw [if_pos rfl] at hm12; rw [if_pos rfl]; omega) h67 (up lp L (((l.getD (p + 1) 0 - 48) : Nat) : Int)) (up lv L (wyV lp lt L (l.getD (p + 1) 0 - 48))) (up lt L 0) (L + 1) e (n - 1) (p + 2) true rfl FR67 ⟨by omega, by omega⟩ I2 WP WC TE)
          exact ⟨Or.inr rfl, Or.inr rfl, Or.inr rfl, Or.inr rfl, Or.inr rfl, Or.inl rfl, trivial⟩
        · refine w_aload_n d328_47 rfl ?_
          refine w_iload_n d328_48 rfl ?_
          refine w_callv2 d328_49 (by omega) rfl (okg_.kd hm) (by simp) (Nat.le_of_ble_eq_true rfl) ?_
          refine k_M_open okg_ (by omega) hm TE tg (by omega) (fun h49 f49 TE => ?_)
          have ok49 := f49.ok
          have FR49 := Fr.tr (F := [1726, 1727, 1762, 1763, 1732, 1733]) FRg_ f49 (by decide) (by decide)
          have RS := RsR.s f49 hm RS
          have RQ := RQ.r f49 hm
          have TF1 := (f49.i 1761).trans TF1
          have WP := ArI.s2 f49 hm WP
          have WC := ArI.s2 f49 hm WC
          refine w_return d328_52 ?_
          exact kk _ FR49 (by rw [I.open63 b63 hp1 (by omega)]; exact TE)
  refine w_less ?_ (L12 _ h (fun _ => 0) (fun _ => 0) (fun _ => 0) 0 0 (l.length + 1) 9 true rfl (Fr.refl ok) ⟨by have := pTr_room htr; omega, by decide⟩ ⟨hT, by omega, fun j hj => absurd hj (Nat.not_lt_zero _), by decide, fun _ => ⟨f0, htr⟩, fun z => absurd z (by decide)⟩ (fun j hj => absurd hj (Nat.not_lt_zero _)) (fun j hj => absurd hj (Nat.not_lt_zero _)) TE)
  exact ⟨Or.inr rfl, Or.inr rfl, Or.inr rfl, Or.inr rfl, Or.inr rfl, Or.inl rfl, trivial⟩
