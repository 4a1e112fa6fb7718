/-! the reference: solutions, trees told -/
/-- what a number of four-fold digits decides -/
def dgV (n : Nat) (p : Nat) : Int := ((n / 4 ^ (4 - p) % 4 : Nat) : Int)
def cnV (vl : Nat → Int) : Nat → Nat
  | 0 => 0
  | p + 1 => cnV vl p + (if 0 < vl p then 1 else 0)
theorem cnV_le {vl : Nat → Int} : ∀ {p : Nat}, cnV vl p ≤ p
  | 0 => Nat.le_refl _
  | p + 1 => by
    have := @cnV_le vl p
    rw [cnV]
    split <;> omega
/-- the solution: from row n - 1 down; the best so far, its parts -/
def slS (rs : List RuV) : Nat → Int × Nat → Int × Nat
  | 0, s => s
  | n + 1, s => slS rs n (if lwb rs (dgV n) < 0 ∧ cnV (dgV n) 5 < s.2 then ((n : Int), cnV (dgV n) 5) else s)
def solR (rs : List RuV) : Int := (slS rs 1024 (-1, 6)).1
theorem dgV_rg (n p : Nat) : 0 ≤ dgV n p ∧ dgV n p ≤ 3 := by
  unfold dgV
  have := Nat.mod_lt (n / 4 ^ (4 - p)) (show 0 < 4 by decide)
  omega
theorem slS_rg {rs : List RuV} : ∀ {n : Nat} {s : Int × Nat}, -1 ≤ s.1 ∧ s.1 < 1024 → n ≤ 1024 → -1 ≤ (slS rs n s).1 ∧ (slS rs n s).1 < 1024
  | 0, s, h, _ => h
  | n + 1, s, h, hn => by
    rw [slS]
    refine slS_rg ?_ (by omega)
    split
    · exact ⟨by show (-1 : Int) ≤ (n : Int); omega, by show (n : Int) < 1024; omega⟩
    · exact h
theorem div4 {n p : Nat} (hp : p < 5) : n / 4 ^ (5 - (p + 1)) / 4 = n / 4 ^ (5 - p) := by
  rw [Nat.div_div_eq_div_mul, ← Nat.pow_succ, Nat.succ_eq_add_one, show 5 - (p + 1) + 1 = 5 - p by omega]
/-- a leaf of a tree -/
def lfT (r : Nat) : List Nat := [33, 48 + r / 10, 48 + r % 10]
/-- the tree told, n parts are not decided yet -/
def tmT (rs : List RuV) : Nat → (Nat → Int) → List Nat
  | 0, vl => lfT (lwb rs vl).toNat
  | n + 1, vl => if 0 ≤ lwb rs vl then lfT (lwb rs vl).toNat else [63, 48 + (4 - n)] ++ (tmT rs n (up vl (4 - n) 0) ++ (tmT rs n (up vl (4 - n) 1) ++ (tmT rs n (up vl (4 - n) 2) ++ tmT rs n (up vl (4 - n) 3))))
/-- the first of its four trees -/
def tmC (rs : List RuV) (n : Nat) (vl : Nat → Int) : Nat → List Nat
  | 0 => []
  | v + 1 => tmC rs n vl v ++ tmT rs n (up vl (4 - n) (v : Int))
theorem tmT_q {rs : List RuV} {n : Nat} {vl : Nat → Int} (h : ¬ 0 ≤ lwb rs vl) : tmT rs (n + 1) vl = [63, 48 + (4 - n)] ++ tmC rs n vl 4 := by
  rw [tmT, if_neg h, tmC, tmC, tmC, tmC, tmC]
  simp
theorem tmT_l {rs : List RuV} {n : Nat} {vl : Nat → Int} (h : 0 ≤ lwb rs vl) : tmT rs n vl = lfT (lwb rs vl).toNat := by
  cases n with
  | zero => rfl
  | succ n => rw [tmT, if_pos h]
/-- the first 5 - n parts are decided -/
def vlN (n : Nat) (vl : Nat → Int) : Prop := (∀ p, p < 5 - n → 0 ≤ vl p ∧ vl p ≤ 3) ∧ ∀ p, 5 - n ≤ p → vl p = -1
theorem vlN.up {n : Nat} {vl : Nat → Int} {v : Int} (h : vlN (n + 1) vl) (hn : n < 5) (hv : 0 ≤ v ∧ v ≤ 3) : vlN n (up vl (4 - n) v) := by
  refine ⟨fun p hp => ?_, fun p hp => ?_⟩
  · unfold Jvm.Pilot.CBuildHouseLaw_law_r5340_1e11a5.up
    split
    · exact hv
    · exact h.1 p (by omega)
  · unfold Jvm.Pilot.CBuildHouseLaw_law_r5340_1e11a5.up
    rw [if_neg (by omega)]
    exact h.2 p (by omega)
theorem ChR.put {S : Shp} {h h' : Hp} {m p : Nat} {vl : Nat → Int} {x v : Int} (D : ChR S h m (up vl p x)) (hp : p < 5) (hx : 0 ≤ x ∧ x ≤ 3) (hv : 0 ≤ v ∧ v ≤ 3) (e : h' = sAI h (sT S 1726 m) p v) (so : SOk S) : ChR S h' m (up vl p v) := fun q hq => by
  have ne : sT S 1727 m ≠ sT S 1726 m := fun z => absurd ((so.inj (by decide) (by decide)).mp z).1 (by decide)
  have e7 : AI h' (sT S 1727 m) q = AI h (sT S 1727 m) q := by rw [e, AI_sAI, if_neg (fun z => ne z.1)]
  have e6 : AI h' (sT S 1726 m) q = if q = p then v else AI h (sT S 1726 m) q := by rw [e, sArr]
  have d := D q hq
  rw [e7, e6]
  by_cases z : q = p
  · subst z
    rw [up_at] at d
    rw [up_at, if_pos rfl]
    exact Or.inr ⟨hv.1, hv.2, by omega, rfl⟩
  · rw [up_ne z] at d
    rw [up_ne z, if_neg z]
    exact d
theorem ChR.on {S : Shp} {h h' : Hp} {m p : Nat} {vl : Nat → Int} (D : ChR S h m vl) (hp : p < 5) (e : h' = sAI h (sT S 1727 m) p 1) (so : SOk S) (rg : 0 ≤ AI h (sT S 1726 m) p ∧ AI h (sT S 1726 m) p ≤ 3) : ChR S h' m (up vl p (AI h (sT S 1726 m) p)) := fun q hq => by
  have ne : sT S 1726 m ≠ sT S 1727 m := fun z => absurd ((so.inj (by decide) (by decide)).mp z).1 (by decide)
  have e6 : AI h' (sT S 1726 m) q = AI h (sT S 1726 m) q := by rw [e, AI_sAI, if_neg (fun z => ne z.1)]
  have e7 : AI h' (sT S 1727 m) q = if q = p then 1 else AI h (sT S 1727 m) q := by rw [e, sArr]
  rw [e7, e6]
  by_cases z : q = p
  · subst z
    rw [up_at, if_pos rfl]
    exact Or.inr ⟨rg.1, rg.2, rfl, rfl⟩
  · rw [up_ne z, if_neg z]
    exact D q hq
theorem ChR.off {S : Shp} {h h' : Hp} {m p : Nat} {vl : Nat → Int} {x : Int} (D : ChR S h m (up vl p x)) (hp : vl p = -1) (e : h' = sAI h (sT S 1727 m) p 0) (so : SOk S) : ChR S h' m vl := fun q hq => by
  have ne : sT S 1726 m ≠ sT S 1727 m := fun z => absurd ((so.inj (by decide) (by decide)).mp z).1 (by decide)
  have e6 : AI h' (sT S 1726 m) q = AI h (sT S 1726 m) q := by rw [e, AI_sAI, if_neg (fun z => ne z.1)]
  have e7 : AI h' (sT S 1727 m) q = if q = p then 0 else AI h (sT S 1727 m) q := by rw [e, sArr]
  rw [e7, e6]
  by_cases z : q = p
  · subst z
    rw [if_pos rfl]
    exact Or.inl ⟨hp, rfl⟩
  · have d := D q hq
    rw [up_ne z] at d
    rw [if_neg z]
    exact d
theorem d321_0 : dc 321 0 = some (.iload_n 1, 1) := by decide +kernel
theorem d321_1 : dc 321 1 = some (.istore_n 2, 2) := by decide +kernel
theorem d321_2 : dc 321 2 = some (.iconst 4, 3) := by decide +kernel
theorem d321_3 : dc 321 3 = some (.istore_n 3, 4) := by decide +kernel
theorem d321_4 : dc 321 4 = some (.iload_n 3, 5) := by decide +kernel
theorem d321_5 : dc 321 5 = some (.ifCond .lt ((34 : Nat) : Int), 8) := by decide +kernel
theorem d321_8 : dc 321 8 = some (.aload_n 0, 9) := by decide +kernel
theorem d321_9 : dc 321 9 = some (.dload 1726, 12) := by decide +kernel
theorem d321_12 : dc 321 12 = some (.iload_n 3, 13) := by decide +kernel
theorem d321_13 : dc 321 13 = some (.iload_n 2, 14) := by decide +kernel
theorem d321_14 : dc 321 14 = some (.iconst 4, 15) := by decide +kernel
theorem d321_15 : dc 321 15 = some (.irem, 16) := by decide +kernel
theorem d321_16 : dc 321 16 = some (.iastore, 17) := by decide +kernel
theorem d321_17 : dc 321 17 = some (.iload_n 2, 18) := by decide +kernel
theorem d321_18 : dc 321 18 = some (.iconst 4, 19) := by decide +kernel
theorem d321_19 : dc 321 19 = some (.idiv, 20) := by decide +kernel
theorem d321_20 : dc 321 20 = some (.istore_n 2, 21) := by decide +kernel
theorem d321_21 : dc 321 21 = some (.aload_n 0, 22) := by decide +kernel
theorem d321_22 : dc 321 22 = some (.dload 1727, 25) := by decide +kernel
theorem d321_25 : dc 321 25 = some (.iload_n 3, 26) := by decide +kernel
theorem d321_26 : dc 321 26 = some (.iconst 1, 27) := by decide +kernel
theorem d321_27 : dc 321 27 = some (.bastore, 28) := by decide +kernel
theorem d321_28 : dc 321 28 = some (.iinc 3 (-1), 31) := by decide +kernel
theorem d321_31 : dc 321 31 = some (.goto ((4 : Nat) : Int), 34) := by decide +kernel
theorem d321_34 : dc 321 34 = some (.return_, 35) := by decide +kernel
theorem k_M_decideAll {S : Shp} {G : Nat → Option Nat} {d : Nat} {h : Hp} {Q : Option MV → Hp → Prop} {m : Nat} {n : Nat}  (ok : Ok S h) (h1 : 0 ≤ d) (hm : sK S m = 14)  (hn : n < 1024)
    (kk : ∀ h', Fr S m [1726, 1727] h h' → ChR S h' m (dgV n) → Q none h') : Cl G d 321 [vR (some m), vI (n : Nat)] h Q := by
  show Wp G d 321 0 [some (vR (some m)), some (vI (n : Nat)), none, none] [] h Q
  refine w_iload_n d321_0 rfl ?_
  refine w_istore2 d321_1 rfl ?_
  refine w_iconst d321_2 (by decide) ?_
  refine w_istore3 d321_3 rfl ?_
  have L4 : ∀ (m4 : Nat) (g_ : Hp) (q : Nat), q = m4 → Fr S m [1726, 1727] h g_ → (q ≤ 5) → (∀ p, q ≤ p → p < 5 → AI g_ (sT S 1726 m) p = dgV n p ∧ AI g_ (sT S 1727 m) p = 1) → Wp G d 321 4 [some (vR (some m)), some (vI (n : Nat)), some (vI (n / 4 ^ (5 - q) : Nat)), some (vI ((q : Nat) - 1))] [] g_ Q := by
    intro m4
    induction m4 using Nat.strongRecOn with | ind m4 IH4 => ?_
    intro g_ q hm4 FRg_ ql hc
    have okg_ := FRg_.ok
    refine w_iload_n d321_4 rfl ?_
    refine w_iflt d321_5 (fun c5 => ?_) (fun c5 => ?_)
    · have q0 : q = 0 := by omega
      refine w_return d321_34 ?_
      exact kk g_ FRg_ (fun p hp => by obtain ⟨a, b⟩ := hc p (by omega) hp; have := dgV_rg n p; exact Or.inr ⟨this.1, this.2, b, a⟩)
    · obtain ⟨p, rfl⟩ : ∃ p, q = p + 1 := ⟨q - 1, by omega⟩
      rw [show ((p + 1 : Nat) : Int) - 1 = ((p : Nat) : Int) by omega]
      have dle : n / 4 ^ (5 - (p + 1)) ≤ n := Nat.div_le_self _ _
      refine w_aload_n d321_8 rfl ?_
      refine w_dloadS d321_9 (okg_.kd hm) (fr1726 okg_ hm) ?_
      refine w_iload_n d321_12 rfl ?_
      refine w_iload_n d321_13 rfl ?_
      refine w_iconst d321_14 (by decide) ?_
      refine w_irem d321_15 (by decide) ?_
      rw [show (((n / 4 ^ (5 - (p + 1))) : Nat) : Int).tmod 4 = ((n / 4 ^ (4 - p) % 4 : Nat) : Int) by rw [Int.tmod_eq_emod_of_nonneg (Int.natCast_nonneg _), show 5 - (p + 1) = 4 - p by omega]; generalize n / 4 ^ (4 - p) = W; omega]
      have dr := Nat.mod_lt (n / 4 ^ (4 - p)) (show 0 < 4 by decide)
      refine wa1726 d321_16 okg_ hm (by omega) (by omega) (fun h16 e16 m16 => ?_)
      have e16 : h16 = sAI g_ (sT S 1726 m) p ((n / 4 ^ (4 - p) % 4 : Nat) : Int) := e16
      have f16 : Fr S m [1726] _ _ := Fr.wB okg_ hm m16 (fun ζ e => ⟨1726, by decide, by decide, e ▸ U_refl⟩)
      have ok16 := f16.ok
      have FR16 := Fr.tr (F := [1726, 1727]) FRg_ f16 (by decide) (by decide)
      refine w_iload_n d321_17 rfl ?_
      refine w_iconst d321_18 (by decide) ?_
      refine w_idiv d321_19 (by decide) ?_
      rw [show (((n / 4 ^ (5 - (p + 1))) : Nat) : Int).tdiv 4 = ((n / 4 ^ (5 - p) : Nat) : Int) by rw [Int.tdiv_eq_ediv_of_nonneg (Int.natCast_nonneg _), ← div4 (n := n) (p := p) (by omega)]; generalize n / 4 ^ (5 - (p + 1)) = W; omega]
      refine w_istore2 d321_20 rfl ?_
      refine w_aload_n d321_21 rfl ?_
      refine w_dloadS d321_22 (ok16.kd hm) (fr1727 ok16 hm) ?_
      refine w_iload_n d321_25 rfl ?_
      refine w_iconst d321_26 (by decide) ?_
      refine wa1727 d321_27 ok16 hm (by omega) (by omega) (fun h27 e27 m27 => ?_)
      have e27 : h27 = sAI h16 (sT S 1727 m) p 1 := e27
      have f27 : Fr S m [1727] _ _ := Fr.wB ok16 hm m27 (fun ζ e => ⟨1727, by decide, by decide, e ▸ U_refl⟩)
      have ok27 := f27.ok
      have FR27 := Fr.tr (F := [1726, 1727]) FR16 f27 (by decide) (by decide)
      refine w_iinc3 d321_28 rfl (by constructor <;> omega) ?_
      refine w_goto d321_31 ?_
      rw [show ((p : Nat) : Int) + (-1) = ((p : Nat) : Int) - 1 by omega]
      refine w_less ?_ (IH4 _ (by omega) h27 p rfl FR27 (by omega) (fun j h1 h2 => by
          rw [f27.ai (g := 1726) (by have := kT1726 ok hm; omega) (by decide) (by decide) (by decide), e16, sArr, e27, sArr, f16.ai (g := 1727) (by have := kT1727 ok hm; omega) (by decide) (by decide) (by decide)]
          by_cases z : j = p
          · rw [if_pos z, if_pos z, z]; exact ⟨rfl, rfl⟩
          · rw [if_neg z, if_neg z]; exact hc j (by omega) h2))
      exact ⟨Or.inr rfl, Or.inr rfl, Or.inr rfl, Or.inr rfl, trivial⟩
  refine w_less ?_ (L4 _ h 5 rfl (Fr.refl ok) (Nat.le_refl _) (fun p h1 h2 => by omega))
  exact ⟨Or.inr rfl, Or.inr rfl, Or.inr (by rw [Nat.sub_self, Nat.pow_zero, Nat.div_one]), Or.inr rfl, trivial⟩
theorem slS_pos {rs : List RuV} : ∀ {q : Nat} {s : Int × Nat}, (s.2 = 6 ∨ 0 ≤ s.1) → ((∃ n, n < q ∧ lwb rs (dgV n) < 0) ∨ 0 ≤ s.1) → 0 ≤ (slS rs q s).1
  | 0, s, _, h => h.resolve_left (fun ⟨n, h, _⟩ => absurd h (Nat.not_lt_zero _))
  | q + 1, s, h6, h => by
    rw [slS]
    have c := @cnV_le (dgV q) 5
    by_cases z : lwb rs (dgV q) < 0 ∧ cnV (dgV q) 5 < s.2
    · rw [if_pos z]
      exact slS_pos (Or.inr (by show (0 : Int) ≤ (q : Int); omega)) (Or.inr (by show (0 : Int) ≤ (q : Int); omega))
    · rw [if_neg z]
      refine slS_pos h6 ?_
      rcases h with ⟨n, h1, h2⟩ | h
      · rcases Nat.lt_or_ge n q with y | y
        · exact Or.inl ⟨n, y, h2⟩
        · rw [show n = q by omega] at h2
          rcases h6 with x | x
          · exact absurd ⟨h2, by omega⟩ z
          · exact Or.inr x
      · exact Or.inr h
/-- the number of what is decided -/
def rwN (vl : Nat → Int) : Nat := (vl 0).toNat * 256 + (vl 1).toNat * 64 + (vl 2).toNat * 16 + (vl 3).toNat * 4 + (vl 4).toNat
theorem rwN_dg {vl : Nat → Int} (h : ∀ p, p < 5 → 0 ≤ vl p ∧ vl p ≤ 3) : rwN vl < 1024 ∧ ∀ p, p < 5 → dgV (rwN vl) p = vl p := by
  have h0 := h 0 (by decide)
  have h1 := h 1 (by decide)
  have h2 := h 2 (by decide)
  have h3 := h 3 (by decide)
  have h4 := h 4 (by decide)
  unfold rwN
  refine ⟨by omega, fun p hp => ?_⟩
  unfold dgV
  rcases p with _ | _ | _ | _ | _ | p
  · show (((_ / 256 % 4 : Nat)) : Int) = vl 0; omega
  · show (((_ / 64 % 4 : Nat)) : Int) = vl 1; omega
  · show (((_ / 16 % 4 : Nat)) : Int) = vl 2; omega
  · show (((_ / 4 % 4 : Nat)) : Int) = vl 3; omega
  · show (((_ / 1 % 4 : Nat)) : Int) = vl 4; omega
  · omega
theorem sol_none {rs : List RuV} (hr : ∀ k, k < rs.length → rOf rs k ≤ 4 ∧ rPa rs k ≤ 4) (h : solR rs < 0) {vl : Nat → Int} (hv : ∀ p, p < 5 → 0 ≤ vl p ∧ vl p ≤ 3) : 0 ≤ lwb rs vl := by
  obtain ⟨a, b⟩ := rwN_dg hv
  have e : lwb rs (dgV (rwN vl)) = lwb rs vl := lwb_cg hr b
  rcases Int.lt_or_le (lwb rs vl) 0 with z | z
  · exfalso
    have := slS_pos (rs := rs) (q := 1024) (s := (-1, 6)) (Or.inl rfl) (Or.inl ⟨rwN vl, a, by rw [e]; exact z⟩)
    unfold solR at h
    omega
  · exact z
theorem d320_0 : dc 320 0 = some (.iconst (-1), 1) := by decide +kernel
theorem d320_1 : dc 320 1 = some (.istore_n 1, 2) := by decide +kernel
theorem d320_2 : dc 320 2 = some (.bipush 6, 4) := by decide +kernel
theorem d320_4 : dc 320 4 = some (.istore_n 2, 5) := by decide +kernel
theorem d320_5 : dc 320 5 = some (.sipush 1023, 8) := by decide +kernel
theorem d320_8 : dc 320 8 = some (.istore_n 3, 9) := by decide +kernel
theorem d320_9 : dc 320 9 = some (.iload_n 3, 10) := by decide +kernel
theorem d320_10 : dc 320 10 = some (.ifCond .lt ((86 : Nat) : Int), 13) := by decide +kernel
theorem d320_13 : dc 320 13 = some (.aload_n 0, 14) := by decide +kernel
theorem d320_14 : dc 320 14 = some (.iload_n 3, 15) := by decide +kernel
theorem d320_15 : dc 320 15 = some (.invokevirtual 321, 18) := by decide +kernel
theorem d320_18 : dc 320 18 = some (.aload_n 0, 19) := by decide +kernel
theorem d320_19 : dc 320 19 = some (.invokevirtual 322, 22) := by decide +kernel
theorem d320_22 : dc 320 22 = some (.ifCond .lt ((28 : Nat) : Int), 25) := by decide +kernel
theorem d320_25 : dc 320 25 = some (.goto ((80 : Nat) : Int), 28) := by decide +kernel
theorem d320_28 : dc 320 28 = some (.iconst 0, 29) := by decide +kernel
theorem d320_29 : dc 320 29 = some (.istore 4, 31) := by decide +kernel
theorem d320_31 : dc 320 31 = some (.iconst 0, 32) := by decide +kernel
theorem d320_32 : dc 320 32 = some (.istore 5, 34) := by decide +kernel
theorem d320_34 : dc 320 34 = some (.iload 5, 36) := by decide +kernel
theorem d320_36 : dc 320 36 = some (.iconst 5, 37) := by decide +kernel
theorem d320_37 : dc 320 37 = some (.if_icmp .ge ((66 : Nat) : Int), 40) := by decide +kernel
theorem d320_40 : dc 320 40 = some (.iload 4, 42) := by decide +kernel
theorem d320_42 : dc 320 42 = some (.aload_n 0, 43) := by decide +kernel
theorem d320_43 : dc 320 43 = some (.dload 1726, 46) := by decide +kernel
theorem d320_46 : dc 320 46 = some (.iload 5, 48) := by decide +kernel
theorem d320_48 : dc 320 48 = some (.iaload, 49) := by decide +kernel
theorem d320_49 : dc 320 49 = some (.ifCond .le ((56 : Nat) : Int), 52) := by decide +kernel
theorem d320_52 : dc 320 52 = some (.iconst 1, 53) := by decide +kernel
theorem d320_53 : dc 320 53 = some (.goto ((57 : Nat) : Int), 56) := by decide +kernel
theorem d320_56 : dc 320 56 = some (.iconst 0, 57) := by decide +kernel
theorem d320_57 : dc 320 57 = some (.iadd, 58) := by decide +kernel
theorem d320_58 : dc 320 58 = some (.istore 4, 60) := by decide +kernel
theorem d320_60 : dc 320 60 = some (.iinc 5 1, 63) := by decide +kernel
theorem d320_63 : dc 320 63 = some (.goto ((34 : Nat) : Int), 66) := by decide +kernel
theorem d320_66 : dc 320 66 = some (.iload 4, 68) := by decide +kernel
theorem d320_68 : dc 320 68 = some (.iload_n 2, 69) := by decide +kernel
theorem d320_69 : dc 320 69 = some (.if_icmp .lt ((75 : Nat) : Int), 72) := by decide +kernel
theorem d320_72 : dc 320 72 = some (.goto ((80 : Nat) : Int), 75) := by decide +kernel
theorem d320_75 : dc 320 75 = some (.iload 4, 77) := by decide +kernel
theorem d320_77 : dc 320 77 = some (.istore_n 2, 78) := by decide +kernel
theorem d320_78 : dc 320 78 = some (.iload_n 3, 79) := by decide +kernel
theorem d320_79 : dc 320 79 = some (.istore_n 1, 80) := by decide +kernel
theorem d320_80 : dc 320 80 = some (.iinc 3 (-1), 83) := by decide +kernel
theorem d320_83 : dc 320 83 = some (.goto ((9 : Nat) : Int), 86) := by decide +kernel
theorem d320_86 : dc 320 86 = some (.iload_n 1, 87) := by decide +kernel
theorem d320_87 : dc 320 87 = some (.ireturn, 88) := by decide +kernel
theorem k_M_solution {S : Shp} {G : Nat → Option Nat} {d : Nat} {h : Hp} {Q : Option MV → Hp → Prop} {m : Nat} {rs : List RuV} (ok : Ok S h) (h1 : 4 ≤ d) (hm : sK S m = 14) (RS : RsR S h m rs) 
    (kk : ∀ h', Fr S m [1726, 1727] h h' → Q (some (vI (solR rs))) h') : Cl G d 320 [vR (some m)] h Q := by
  show Wp G d 320 0 [some (vR (some m)), none, none, none, none, none] [] h Q
  have RS_0 := RS
  refine w_iconst d320_0 (by decide) ?_
  refine w_istore1 d320_1 rfl ?_
  refine w_bipush d320_2 (by decide) ?_
  refine w_istore2 d320_4 rfl ?_
  refine w_sipush d320_5 (by decide) ?_
  refine w_istore3 d320_8 rfl ?_
  have L9 : ∀ (m9 : Nat) (g_ : Hp) (q : Nat) (b : Int) (w : Nat), q = m9 → Fr S m [1726, 1727] h g_ → (q ≤ 1024 ∧ w ≤ 6) → (slS rs q (b, w) = slS rs 1024 (-1, 6)) → Wp G d 320 9 [some (vR (some m)), some (vI b), some (vI (w : Nat)), some (vI ((q : Nat) - 1)), none, none] [] g_ Q := by
    intro m9
    induction m9 using Nat.strongRecOn with | ind m9 IH9 => ?_
    intro g_ q b w hm9 FRg_ ql E1
    have okg_ := FRg_.ok
    have RS := RsR.s FRg_ hm RS_0
    refine w_iload_n d320_9 rfl ?_
    refine w_iflt d320_10 (fun c10 => ?_) (fun c10 => ?_)
    · have q0 : q = 0 := by omega
      rw [q0] at E1
      have es : solR rs = b := by unfold solR; rw [← E1]; rfl
      refine w_iload_n d320_86 rfl ?_
      refine w_ireturn d320_87 ?_
      rw [← es]
      exact kk g_ FRg_
    · obtain ⟨n, rfl⟩ : ∃ n, q = n + 1 := ⟨q - 1, by omega⟩
      rw [show ((n + 1 : Nat) : Int) - 1 = ((n : Nat) : Int) by omega]
      have E2 := E1
      rw [slS] at E2
      have cl := @cnV_le (dgV n) 5
      refine w_aload_n d320_13 rfl ?_
      refine w_iload_n d320_14 rfl ?_
      refine w_callv2 d320_15 (by omega) rfl (okg_.kd hm) (by simp) (Nat.le_of_ble_eq_true rfl) ?_
      refine k_M_decideAll okg_ (by omega) hm (by omega) (fun h15 f15 CH => ?_)
      have ok15 := f15.ok
      have FR15 := Fr.tr (F := [1726, 1727]) FRg_ f15 (by decide) (by decide)
      have RS := RsR.s f15 hm RS
      refine w_aload_n d320_18 rfl ?_
      refine w_callv1 d320_19 (by omega) rfl (ok15.kd hm) (by simp) (Nat.le_of_ble_eq_true rfl) ?_
      refine k_M_firstBroken ok15 (by omega) hm RS CH ?_
      refine w_iflt d320_22 (fun c22 => ?_) (fun c22 => ?_)
      · refine w_iconst d320_28 (by decide) ?_
        refine w_istore4 d320_29 rfl ?_
        refine w_iconst d320_31 (by decide) ?_
        refine w_istore5 d320_32 rfl ?_
        have L34 : ∀ (m34 : Nat) (p : Nat), 5 - p = m34 → (p ≤ 5) → Wp G d 320 34 [some (vR (some m)), some (vI b), some (vI (w : Nat)), some (vI (n : Nat)), some (vI (cnV (dgV n) p : Nat)), some (vI (p : Nat))] [] h15 Q := by
          intro m34
          induction m34 using Nat.strongRecOn with | ind m34 IH34 => ?_
          intro p hm34 pl
          refine w_iload d320_34 rfl ?_
          refine w_iconst d320_36 (by decide) ?_
          refine w_icmpge d320_37 (fun c37 => ?_) (fun c37 => ?_)
          · have ep : p = 5 := by omega
            rw [ep]
            refine w_iload d320_66 rfl ?_
            refine w_iload_n d320_68 rfl ?_
            refine w_icmplt d320_69 (fun c69 => ?_) (fun c69 => ?_)
            · rw [if_pos ⟨by omega, by show cnV (dgV n) 5 < w; omega⟩] at E2
              refine w_iload d320_75 rfl ?_
              refine w_istore2 d320_77 rfl ?_
              refine w_iload_n d320_78 rfl ?_
              refine w_istore1 d320_79 rfl ?_
              refine w_iinc3 d320_80 rfl (by constructor <;> omega) ?_
              refine w_goto d320_83 ?_
              rw [show ((n : Nat) : Int) + (-1) = ((n : Nat) : Int) - 1 by omega]
              refine w_less ?_ (IH9 _ (by omega) h15 n _ _ rfl FR15 ⟨by omega, by omega⟩ E2)
              exact ⟨Or.inr rfl, Or.inr rfl, Or.inr rfl, Or.inr rfl, Or.inl rfl, Or.inl rfl, trivial⟩
            · rw [if_neg (fun z => by have := z.2; have : cnV (dgV n) 5 < w := this; omega)] at E2
              refine w_goto d320_72 ?_
              refine w_iinc3 d320_80 rfl (by constructor <;> omega) ?_
              refine w_goto d320_83 ?_
              rw [show ((n : Nat) : Int) + (-1) = ((n : Nat) : Int) - 1 by omega]
              refine w_less ?_ (IH9 _ (by omega) h15 n _ _ rfl FR15 ⟨by omega, by omega⟩ E2)
              exact ⟨Or.inr rfl, Or.inr rfl, Or.inr rfl, Or.inr rfl, Or.inl rfl, Or.inl rfl, trivial⟩
          · have hp : p < 5 := by omega
            have cp := @cnV_le (dgV n) p
            have dr := dgV_rg n p
            have cv := ((CH p hp).resolve_left (fun z => by omega)).2.2.2
            refine w_iload d320_40 rfl ?_
            refine w_aload_n d320_42 rfl ?_
            refine w_dloadS d320_43 (ok15.kd hm) (fr1726 ok15 hm) ?_
            refine w_iload d320_46 rfl ?_
            refine w_ialoadV (x := (dgV n p)) d320_48 (gi1726 ok15 hm (by omega)) cv ?_
            refine w_ifle d320_49 (fun c49 => ?_) (fun c49 => ?_)
            · have ec : ((cnV (dgV n) p : Nat) : Int) + 0 = ((cnV (dgV n) (p + 1) : Nat) : Int) := by rw [cnV, if_neg (by omega)]; rfl
              refine w_iconst d320_56 (by decide) ?_
              refine w_iadd d320_57 (by constructor <;> omega) ?_
              rw [ec]
              refine w_istore4 d320_58 rfl ?_
              refine w_iinc5 d320_60 rfl (by constructor <;> omega) ?_
              refine w_goto d320_63 ?_
              rw [show ((p : Nat) : Int) + 1 = ((p + 1 : Nat) : Int) by omega]
              refine w_less ?_ (IH34 _ (by omega) (p + 1) rfl (by omega))
              exact ⟨Or.inr rfl, Or.inr rfl, Or.inr rfl, Or.inr rfl, Or.inr rfl, Or.inr rfl, trivial⟩
            · have ec : ((cnV (dgV n) p : Nat) : Int) + 1 = ((cnV (dgV n) (p + 1) : Nat) : Int) := by rw [cnV, if_pos (by omega)]; rfl
              refine w_iconst d320_52 (by decide) ?_
              refine w_goto d320_53 ?_
              refine w_iadd d320_57 (by constructor <;> omega) ?_
              rw [ec]
              refine w_istore4 d320_58 rfl ?_
              refine w_iinc5 d320_60 rfl (by constructor <;> omega) ?_
              refine w_goto d320_63 ?_
              rw [show ((p : Nat) : Int) + 1 = ((p + 1 : Nat) : Int) by omega]
              refine w_less ?_ (IH34 _ (by omega) (p + 1) rfl (by omega))
              exact ⟨Or.inr rfl, Or.inr rfl, Or.inr rfl, Or.inr rfl, Or.inr rfl, Or.inr rfl, trivial⟩
        refine w_less ?_ (L34 _ 0 rfl (by decide))
        exact ⟨Or.inr rfl, Or.inr rfl, Or.inr rfl, Or.inr rfl, Or.inr rfl, Or.inr rfl, trivial⟩
      · rw [if_neg (fun z => by omega)] at E2
        refine w_goto d320_25 ?_
        refine w_iinc3 d320_80 rfl (by constructor <;> omega) ?_
        refine w_goto d320_83 ?_
        rw [show ((n : Nat) : Int) + (-1) = ((n : Nat) : Int) - 1 by omega]
        refine w_less ?_ (IH9 _ (by omega) h15 n _ _ rfl FR15 ⟨by omega, by omega⟩ E2)
        exact ⟨Or.inr rfl, Or.inr rfl, Or.inr rfl, Or.inr rfl, Or.inl rfl, Or.inl rfl, trivial⟩
  refine w_less ?_ (L9 _ h 1024 (-1) 6 rfl (Fr.refl ok) ⟨Nat.le_refl _, Nat.le_refl _⟩ rfl)
  exact ⟨Or.inr rfl, Or.inr rfl, Or.inr rfl, Or.inr rfl, Or.inl rfl, Or.inl rfl, trivial⟩
theorem d319_0 : dc 319 0 = some (.aload_n 0, 1) := by decide +kernel
theorem d319_1 : dc 319 1 = some (.invokevirtual 320, 4) := by decide +kernel
theorem d319_4 : dc 319 4 = some (.istore_n 1, 5) := by decide +kernel
theorem d319_5 : dc 319 5 = some (.iload_n 1, 6) := by decide +kernel
theorem d319_6 : dc 319 6 = some (.ifCond .ge ((17 : Nat) : Int), 9) := by decide +kernel
theorem d319_9 : dc 319 9 = some (.aload_n 0, 10) := by decide +kernel
theorem d319_10 : dc 319 10 = some (.getstatic 54, 13) := by decide +kernel
theorem d319_13 : dc 319 13 = some (.invokevirtual 217, 16) := by decide +kernel
theorem d319_16 : dc 319 16 = some (.return_, 17) := by decide +kernel
theorem d319_17 : dc 319 17 = some (.aload_n 0, 18) := by decide +kernel
theorem d319_18 : dc 319 18 = some (.iload_n 1, 19) := by decide +kernel
theorem d319_19 : dc 319 19 = some (.invokevirtual 321, 22) := by decide +kernel
theorem d319_22 : dc 319 22 = some (.iconst 0, 23) := by decide +kernel
theorem d319_23 : dc 319 23 = some (.istore_n 2, 24) := by decide +kernel
theorem d319_24 : dc 319 24 = some (.iload_n 2, 25) := by decide +kernel
theorem d319_25 : dc 319 25 = some (.iconst 5, 26) := by decide +kernel
theorem d319_26 : dc 319 26 = some (.if_icmp .ge ((72 : Nat) : Int), 29) := by decide +kernel
theorem d319_29 : dc 319 29 = some (.iload_n 2, 30) := by decide +kernel
theorem d319_30 : dc 319 30 = some (.ifCond .le ((39 : Nat) : Int), 33) := by decide +kernel
theorem d319_33 : dc 319 33 = some (.aload_n 0, 34) := by decide +kernel
theorem d319_34 : dc 319 34 = some (.bipush 32, 36) := by decide +kernel
theorem d319_36 : dc 319 36 = some (.invokevirtual 218, 39) := by decide +kernel
theorem d319_39 : dc 319 39 = some (.aload_n 0, 40) := by decide +kernel
theorem d319_40 : dc 319 40 = some (.aload_n 0, 41) := by decide +kernel
theorem d319_41 : dc 319 41 = some (.dload 1726, 44) := by decide +kernel
theorem d319_44 : dc 319 44 = some (.iload_n 2, 45) := by decide +kernel
theorem d319_45 : dc 319 45 = some (.iaload, 46) := by decide +kernel
theorem d319_46 : dc 319 46 = some (.ifCond .ne ((54 : Nat) : Int), 49) := by decide +kernel
theorem d319_49 : dc 319 49 = some (.bipush 45, 51) := by decide +kernel
theorem d319_51 : dc 319 51 = some (.goto ((63 : Nat) : Int), 54) := by decide +kernel
theorem d319_54 : dc 319 54 = some (.bipush 48, 56) := by decide +kernel
theorem d319_56 : dc 319 56 = some (.aload_n 0, 57) := by decide +kernel
theorem d319_57 : dc 319 57 = some (.dload 1726, 60) := by decide +kernel
theorem d319_60 : dc 319 60 = some (.iload_n 2, 61) := by decide +kernel
theorem d319_61 : dc 319 61 = some (.iaload, 62) := by decide +kernel
theorem d319_62 : dc 319 62 = some (.iadd, 63) := by decide +kernel
theorem d319_63 : dc 319 63 = some (.invokevirtual 218, 66) := by decide +kernel
theorem d319_66 : dc 319 66 = some (.iinc 2 1, 69) := by decide +kernel
theorem d319_69 : dc 319 69 = some (.goto ((24 : Nat) : Int), 72) := by decide +kernel
theorem d319_72 : dc 319 72 = some (.return_, 73) := by decide +kernel
theorem k_M_tellSolution {S : Shp} {G : Nat → Option Nat} {d : Nat} {h : Hp} {Q : Option MV → Hp → Prop} {m : Nat} {rs : List RuV} {la : List Nat} (ok : Ok S h) (h1 : 6 ≤ d) (hm : sK S m = 14) (RS : RsR S h m rs) (TE : TeR S h m la) (tg : Tg S G)
    (kk : ∀ h', Fr S m [1726, 1727, 1732, 1733] h h' → TeR S h' m (addBs 20000 la (if solR rs < 0 then txt 4 else slTxt (dgV (solR rs).toNat) 5)) → Q none h') : Cl G d 319 [vR (some m)] h Q := by
  show Wp G d 319 0 [some (vR (some m)), none, none] [] h Q
  have RS_0 := RS
  have TE_0 := TE
  have sg := slS_rg (rs := rs) (n := 1024) (s := (-1, 6)) ⟨by decide, by decide⟩ (Nat.le_refl _)
  change -1 ≤ solR rs ∧ solR rs < 1024 at sg
  refine w_aload_n d319_0 rfl ?_
  refine w_callv1 d319_1 (by omega) rfl (ok.kd hm) (by simp) (Nat.le_of_ble_eq_true rfl) ?_
  refine k_M_solution ok (by omega) hm RS (fun h1 f1 => ?_)
  have ok1 := f1.ok
  have FR1 := Fr.le (F := [1726, 1727, 1732, 1733]) f1 (by decide)
  have RS := RsR.s f1 hm RS
  have TE := TE.r f1 hm
  refine w_istore1 d319_4 rfl ?_
  refine w_iload_n d319_5 rfl ?_
  refine w_ifge d319_6 (fun c6 => ?_) (fun c6 => ?_)
  · obtain ⟨q, hq⟩ : ∃ q : Nat, solR rs = (q : Int) := ⟨(solR rs).toNat, by omega⟩
    rw [hq]
    rw [if_neg (by omega), hq, Int.toNat_natCast] at kk
    refine w_aload_n d319_17 rfl ?_
    refine w_iload_n d319_18 rfl ?_
    refine w_callv2 d319_19 (by omega) rfl (ok1.kd hm) (by simp) (Nat.le_of_ble_eq_true rfl) ?_
    refine k_M_decideAll ok1 (by omega) hm (n := q) (by omega) (fun h19 f19 CH => ?_)
    have ok19 := f19.ok
    have FR19 := Fr.tr (F := [1726, 1727, 1732, 1733]) FR1 f19 (by decide) (by decide)
    have RS := RsR.s f19 hm RS
    have TE := TE.r f19 hm
    refine w_iconst d319_22 (by decide) ?_
    refine w_istore2 d319_23 rfl ?_
    have L24 : ∀ (m24 : Nat) (g_ : Hp) (p : Nat), 5 - p = m24 → Fr S m [1726, 1727, 1732, 1733] h g_ → (p ≤ 5) → (TeR S g_ m (addBs 20000 la (slTxt (dgV q) p))) → (ChR S g_ m (dgV q)) → Wp G d 319 24 [some (vR (some m)), some (vI (q : Nat)), some (vI (p : Nat))] [] g_ Q := by
      intro m24
      induction m24 using Nat.strongRecOn with | ind m24 IH24 => ?_
      intro g_ p hm24 FRg_ pl TE CH
      have okg_ := FRg_.ok
      have RS := RsR.s FRg_ hm RS_0
      refine w_iload_n d319_24 rfl ?_
      refine w_iconst d319_25 (by decide) ?_
      refine w_icmpge d319_26 (fun c26 => ?_) (fun c26 => ?_)
      · have ep : p = 5 := by omega
        rw [ep] at TE
        refine w_return d319_72 ?_
        exact kk g_ FRg_ TE
      · have hp : p < 5 := by omega
        have dr := dgV_rg q p
        refine w_iload_n d319_29 rfl ?_
        refine w_ifle d319_30 (fun c30 => ?_) (fun c30 => ?_)
        · have TE : TeR S g_ m (addBs 20000 (addBs 20000 la (slTxt (dgV q) p)) (if 0 < p then [32] else [])) := by rw [if_neg (by omega), addBs_nil]; exact TE
          have cv := ((CH p hp).resolve_left (fun z => by omega)).2.2.2
          refine w_aload_n d319_39 rfl ?_
          refine w_aload_n d319_40 rfl ?_
          refine w_dloadS d319_41 (okg_.kd hm) (fr1726 okg_ hm) ?_
          refine w_iload_n d319_44 rfl ?_
          refine w_ialoadV (x := (dgV q p)) d319_45 (gi1726 okg_ hm (by omega)) cv ?_
          refine w_ifne d319_46 (fun c46 => ?_) (fun c46 => ?_)
          · have ch : [if dgV q p = 0 then 45 else ((48 + dgV q p) % 256).toNat] = [(48 + dgV q p).toNat] := by rw [if_neg (by omega), Int.emod_eq_of_lt (by omega) (by omega)]
            refine w_bipush d319_54 (by decide) ?_
            refine w_aload_n d319_56 rfl ?_
            refine w_dloadS d319_57 (okg_.kd hm) (fr1726 okg_ hm) ?_
            refine w_iload_n d319_60 rfl ?_
            refine w_ialoadV (x := (dgV q p)) d319_61 (gi1726 okg_ hm (by omega)) cv ?_
            refine w_iadd d319_62 (by constructor <;> omega) ?_
            rw [show (48 : Int) + dgV q p = (((48 + dgV q p).toNat : Nat) : Int) by omega]
            refine w_callv2 d319_63 (by omega) rfl (okg_.kd hm) (by simp) (Nat.le_of_ble_eq_true rfl) ?_
            refine k_M_put (c := ((48 + dgV q p).toNat)) okg_ (by omega) hm TE (by omega) (fun h63 m63 q63 TE => ?_)
            have f63 : Fr S m [1732, 1733] _ _ := Fr.mk okg_ m63 (fun ζ q => q.elim ((fun ζ e => Or.inl e) ζ) ((fun ζ e => Or.inr ⟨1732, by decide, e ▸ U_refl⟩) ζ)) q63 (by decide)
            have ok63 := f63.ok
            have FR63 := Fr.tr (F := [1726, 1727, 1732, 1733]) FRg_ f63 (by decide) (by decide)
            have CH := ChR.s f63 hm CH
            have RS := RsR.s f63 hm RS
            have TE : TeR S h63 m (addBs 20000 la (slTxt (dgV q) (p + 1))) := by rw [slTxt, ch, addBs_app, addBs_app]; exact TE
            refine w_iinc2 d319_66 rfl (by constructor <;> omega) ?_
            refine w_goto d319_69 ?_
            rw [show ((p : Nat) : Int) + 1 = ((p + 1 : Nat) : Int) by omega]
            refine w_less ?_ (IH24 _ (by omega) h63 (p + 1) rfl FR63 (by omega) TE CH)
            exact ⟨Or.inr rfl, Or.inr rfl, Or.inr rfl, trivial⟩
          · have ch : [if dgV q p = 0 then 45 else ((48 + dgV q p) % 256).toNat] = [45] := by rw [if_pos (by omega)]
            refine w_bipush d319_49 (by decide) ?_
            refine w_goto d319_51 ?_
            refine w_callv2 d319_63 (by omega) rfl (okg_.kd hm) (by simp) (Nat.le_of_ble_eq_true rfl) ?_
            refine k_M_put (c := 45) okg_ (by omega) hm TE (by omega) (fun h63 m63 q63 TE => ?_)
            have f63 : Fr S m [1732, 1733] _ _ := Fr.mk okg_ m63 (fun ζ q => q.elim ((fun ζ e => Or.inl e) ζ) ((fun ζ e => Or.inr ⟨1732, by decide, e ▸ U_refl⟩) ζ)) q63 (by decide)
            have ok63 := f63.ok
            have FR63 := Fr.tr (F := [1726, 1727, 1732, 1733]) FRg_ f63 (by decide) (by decide)
            have CH := ChR.s f63 hm CH
            have RS := RsR.s f63 hm RS
            have TE : TeR S h63 m (addBs 20000 la (slTxt (dgV q) (p + 1))) := by rw [slTxt, ch, addBs_app, addBs_app]; exact TE
            refine w_iinc2 d319_66 rfl (by constructor <;> omega) ?_
            refine w_goto d319_69 ?_
            rw [show ((p : Nat) : Int) + 1 = ((p + 1 : Nat) : Int) by omega]
            refine w_less ?_ (IH24 _ (by omega) h63 (p + 1) rfl FR63 (by omega) TE CH)
            exact ⟨Or.inr rfl, Or.inr rfl, Or.inr rfl, trivial⟩
        · refine w_aload_n d319_33 rfl ?_
          refine w_bipush d319_34 (by decide) ?_
          refine w_callv2 d319_36 (by omega) rfl (okg_.kd hm) (by simp) (Nat.le_of_ble_eq_true rfl) ?_
          refine k_M_put (c := 32) okg_ (by omega) hm TE (by omega) (fun h36 m36 q36 TE => ?_)
          have f36 : Fr S m [1732, 1733] _ _ := Fr.mk okg_ m36 (fun ζ q => q.elim ((fun ζ e => Or.inl e) ζ) ((fun ζ e => Or.inr ⟨1732, by decide, e ▸ U_refl⟩) ζ)) q36 (by decide)
          have ok36 := f36.ok
          have FR36 := Fr.tr (F := [1726, 1727, 1732, 1733]) FRg_ f36 (by decide) (by decide)
          have CH := ChR.s f36 hm CH
          have RS := RsR.s f36 hm RS
          have TE : TeR S h36 m (addBs 20000 (addBs 20000 la (slTxt (dgV q) p)) (if 0 < p then [32] else [])) := by rw [if_pos (by omega)]; exact TE
          have cv := ((CH p hp).resolve_left (fun z => by omega)).2.2.2
          refine w_aload_n d319_39 rfl ?_
          refine w_aload_n d319_40 rfl ?_
          refine w_dloadS d319_41 (ok36.kd hm) (fr1726 ok36 hm) ?_
          refine w_iload_n d319_44 rfl ?_
          refine w_ialoadV (x := (dgV q p)) d319_45 (gi1726 ok36 hm (by omega)) cv ?_
          refine w_ifne d319_46 (fun c46 => ?_) (fun c46 => ?_)
          · have ch : [if dgV q p = 0 then 45 else ((48 + dgV q p) % 256).toNat] = [(48 + dgV q p).toNat] := by rw [if_neg (by omega), Int.emod_eq_of_lt (by omega) (by omega)]
            refine w_bipush d319_54 (by decide) ?_
            refine w_aload_n d319_56 rfl ?_
            refine w_dloadS d319_57 (ok36.kd hm) (fr1726 ok36 hm) ?_
            refine w_iload_n d319_60 rfl ?_
            refine w_ialoadV (x := (dgV q p)) d319_61 (gi1726 ok36 hm (by omega)) cv ?_
            refine w_iadd d319_62 (by constructor <;> omega) ?_
            rw [show (48 : Int) + dgV q p = (((48 + dgV q p).toNat : Nat) : Int) by omega]
            refine w_callv2 d319_63 (by omega) rfl (ok36.kd hm) (by simp) (Nat.le_of_ble_eq_true rfl) ?_
            refine k_M_put (c := ((48 + dgV q p).toNat)) ok36 (by omega) hm TE (by omega) (fun h63 m63 q63 TE => ?_)
            have f63 : Fr S m [1732, 1733] _ _ := Fr.mk ok36 m63 (fun ζ q => q.elim ((fun ζ e => Or.inl e) ζ) ((fun ζ e => Or.inr ⟨1732, by decide, e ▸ U_refl⟩) ζ)) q63 (by decide)
            have ok63 := f63.ok
            have FR63 := Fr.tr (F := [1726, 1727, 1732, 1733]) FR36 f63 (by decide) (by decide)
            have CH := ChR.s f63 hm CH
            have RS := RsR.s f63 hm RS
            have TE : TeR S h63 m (addBs 20000 la (slTxt (dgV q) (p + 1))) := by rw [slTxt, ch, addBs_app, addBs_app]; exact TE
            refine w_iinc2 d319_66 rfl (by constructor <;> omega) ?_
            refine w_goto d319_69 ?_
            rw [show ((p : Nat) : Int) + 1 = ((p + 1 : Nat) : Int) by omega]
            refine w_less ?_ (IH24 _ (by omega) h63 (p + 1) rfl FR63 (by omega) TE CH)
            exact ⟨Or.inr rfl, Or.inr rfl, Or.inr rfl, trivial⟩
          · have ch : [if dgV q p = 0 then 45 else ((48 + dgV q p) % 256).toNat] = [45] := by rw [if_pos (by omega)]
            refine w_bipush d319_49 (by decide) ?_
            refine w_goto d319_51 ?_
            refine w_callv2 d319_63 (by omega) rfl (ok36.kd hm) (by simp) (Nat.le_of_ble_eq_true rfl) ?_
            refine k_M_put (c := 45) ok36 (by omega) hm TE (by omega) (fun h63 m63 q63 TE => ?_)
            have f63 : Fr S m [1732, 1733] _ _ := Fr.mk ok36 m63 (fun ζ q => q.elim ((fun ζ e => Or.inl e) ζ) ((fun ζ e => Or.inr ⟨1732, by decide, e ▸ U_refl⟩) ζ)) q63 (by decide)
            have ok63 := f63.ok
            have FR63 := Fr.tr (F := [1726, 1727, 1732, 1733]) FR36 f63 (by decide) (by decide)
            have CH := ChR.s f63 hm CH
            have RS := RsR.s f63 hm RS
            have TE : TeR S h63 m (addBs 20000 la (slTxt (dgV q) (p + 1))) := by rw [slTxt, ch, addBs_app, addBs_app]; exact TE
            refine w_iinc2 d319_66 rfl (by constructor <;> omega) ?_
            refine w_goto d319_69 ?_
            rw [show ((p : Nat) : Int) + 1 = ((p + 1 : Nat) : Int) by omega]
            refine w_less ?_ (IH24 _ (by omega) h63 (p + 1) rfl FR63 (by omega) TE CH)
            exact ⟨Or.inr rfl, Or.inr rfl, Or.inr rfl, trivial⟩
    refine w_less ?_ (L24 _ h19 0 rfl FR19 (by decide) (by rw [slTxt, addBs_nil]; exact TE) CH)
    exact ⟨Or.inr rfl, Or.inr rfl, Or.inr rfl, trivial⟩
  · refine w_aload_n d319_9 rfl ?_
    obtain ⟨g10, v10, s10⟩ := tg.al ok1 4 (by decide)
    refine w_getstaticS d319_10 v10 ?_
    refine w_callv2 d319_13 (by omega) rfl (ok1.kd hm) (by simp) (Nat.le_of_ble_eq_true rfl) ?_
    refine k_M_say ok1 (by omega) hm TE s10 (fun h13 m13 q13 TE => ?_)
    have f13 : Fr S m [1732, 1733] _ _ := Fr.mk ok1 m13 (fun ζ q => q.elim ((fun ζ e => Or.inl e) ζ) ((fun ζ e => Or.inr ⟨1732, by decide, e ▸ U_refl⟩) ζ)) q13 (by decide)
    have ok13 := f13.ok
    have FR13 := Fr.tr (F := [1726, 1727, 1732, 1733]) FR1 f13 (by decide) (by decide)
    have RS := RsR.s f13 hm RS
    refine w_return d319_16 ?_
    exact kk h13 FR13 (by rw [if_pos (by omega)]; exact TE)
