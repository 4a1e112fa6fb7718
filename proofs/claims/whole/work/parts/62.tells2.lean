/-! users told, needs told -/
/-- a file that a target that is needed names -/
def nmd (ts : List (Bool × TgV)) (t : Nat) (n : List Nat) : Prop := ∃ u, u < ts.length ∧ Rc ts t u ∧ ∃ i, i < (tgI (tD ts u)).length ∧ inB (tgI (tD ts u)) i = false ∧ inN (tgI (tD ts u)) i = n
def ltJ (a b c d : Int64) : Prop := a < c ∨ a = c ∧ b < d
theorem ltJ_iff {a b c d : Int64} : ltJ a b c d ↔ a.toInt < c.toInt ∨ a.toInt = c.toInt ∧ b.toInt < d.toInt := by
  unfold ltJ
  rw [Int64.lt_iff_toInt_lt, Int64.lt_iff_toInt_lt, Int64.toInt_inj]
def ltP (n m : List Nat) : Prop := ltJ (hd n) (tl n) (hd m) (tl m)
theorem hd_max {n : List Nat} (o : okP n) : ltJ (hd n) (tl n) 9223372036854775807 0 := by
  refine Or.inl ?_
  have hb : ∀ j, (if 0 + j < n.length then n.getD (0 + j) 0 else 0) < 128 := fun j => by
    have := (o.at (0 + j)).1
    split <;> omega
  have e : (hd n).toBitVec.toNat < 9223372036854775807 := by
    unfold hd nameV
    rw [pad8_eq, pk8 (by have := hb 0; omega) (by have := hb 1; omega) (by have := hb 2; omega) (by have := hb 3; omega) (by have := hb 4; omega) (by have := hb 5; omega) (by have := hb 6; omega) (by have := hb 7; omega)]
    have := hb 0
    have := hb 1
    have := hb 2
    have := hb 3
    have := hb 4
    have := hb 5
    have := hb 6
    have := hb 7
    omega
  rw [Int64.lt_iff_toInt_lt]
  show (hd n).toBitVec.toInt < 9223372036854775807
  rw [BitVec.toInt_eq_toNat_of_lt (by omega)]
  omega
theorem hd_pos {n : List Nat} (o : okP n) (hn : n ≠ []) : ltJ 0 0 (hd n) (tl n) := by
  refine Or.inl ?_
  have hb : ∀ j, (if 0 + j < n.length then n.getD (0 + j) 0 else 0) < 128 := fun j => by
    have := (o.at (0 + j)).1
    split <;> omega
  have h0 : 0 < (if 0 + 0 < n.length then n.getD (0 + 0) 0 else 0) := by
    have hl : 0 < n.length := List.length_pos_iff.mpr hn
    rw [if_pos (by omega)]
    have := (o.at 0).2 hl
    simp at this ⊢
    omega
  have e : 0 < (hd n).toBitVec.toNat ∧ (hd n).toBitVec.toNat < 9223372036854775807 := by
    unfold hd nameV
    rw [pad8_eq, pk8 (by have := hb 0; omega) (by have := hb 1; omega) (by have := hb 2; omega) (by have := hb 3; omega) (by have := hb 4; omega) (by have := hb 5; omega) (by have := hb 6; omega) (by have := hb 7; omega)]
    have := hb 0
    have := hb 1
    have := hb 2
    have := hb 3
    have := hb 4
    have := hb 5
    have := hb 6
    have := hb 7
    constructor <;> omega
  rw [Int64.lt_iff_toInt_lt]
  show 0 < (hd n).toBitVec.toInt
  rw [BitVec.toInt_eq_toNat_of_lt (by omega)]
  omega
theorem tl_nn {n : List Nat} (o : okP n) : 0 ≤ (tl n).toInt := by
  have hb : ∀ j, (if 8 + j < n.length then n.getD (8 + j) 0 else 0) < 128 := fun j => by
    have := (o.at (8 + j)).1
    split <;> omega
  have e : (tl n).toBitVec.toNat < 9223372036854775808 := by
    unfold tl nameV
    rw [pad8_eq, pk8 (by have := hb 0; omega) (by have := hb 1; omega) (by have := hb 2; omega) (by have := hb 3; omega) (by have := hb 4; omega) (by have := hb 5; omega) (by have := hb 6; omega) (by have := hb 7; omega)]
    have := hb 0
    have := hb 1
    have := hb 2
    have := hb 3
    have := hb 4
    have := hb 5
    have := hb 6
    have := hb 7
    omega
  show 0 ≤ (tl n).toBitVec.toInt
  rw [BitVec.toInt_eq_toNat_of_lt (by omega)]
  omega
def psTxt (ps : List (List Nat)) : List Nat := (ps.map fun n => n ++ [44]).flatten
theorem psTxt_snoc (ps : List (List Nat)) (n : List Nat) : psTxt (ps ++ [n]) = psTxt ps ++ (n ++ [44]) := by unfold psTxt; rw [List.map_append, List.flatten_append]; simp
/-- different things out of a list are not more than it has -/
theorem nodup_len {α : Type} : ∀ (ps L : List α), ps.Nodup → (∀ x ∈ ps, x ∈ L) → ps.length ≤ L.length
  | [], L, _, _ => Nat.zero_le _
  | x :: ps, L, hn, hs => by
    obtain ⟨s, t, e⟩ := List.append_of_mem (hs x List.mem_cons_self)
    have hn' := List.nodup_cons.mp hn
    have := nodup_len ps (s ++ t) hn'.2 (fun y hy => by
      have := hs y (List.mem_cons_of_mem _ hy)
      rw [e] at this
      rcases List.mem_append.mp this with q | q
      · exact List.mem_append_left _ q
      · rcases List.mem_cons.mp q with z | z
        · subst z; exact absurd hy hn'.1
        · exact List.mem_append_right _ z)
    rw [e]
    simp at this ⊢
    omega
/-- all inputs' names of the first n targets -/
def allN (ts : List (Bool × TgV)) : Nat → List (List Nat)
  | 0 => []
  | n + 1 => allN ts n ++ (List.range 6).map fun i => inN (tgI (tD ts n)) i
theorem allN_len (ts : List (Bool × TgV)) : ∀ n, (allN ts n).length = 6 * n
  | 0 => rfl
  | n + 1 => by unfold allN; rw [List.length_append, allN_len ts n]; simp; omega
theorem allN_mem {ts : List (Bool × TgV)} {u i : Nat} (hi : i < 6) : ∀ n, u < n → inN (tgI (tD ts u)) i ∈ allN ts n
  | 0, h => by omega
  | n + 1, h => by
    unfold allN
    by_cases q : u = n
    · subst q
      exact List.mem_append_right _ (List.mem_map.mpr ⟨i, List.mem_range.mpr hi, rfl⟩)
    · exact List.mem_append_left _ (allN_mem hi n (by omega))
theorem lngmax : lngV 3 = 9223372036854775807 := by decide
theorem lcmpL {x y : Int64} : (if x > y then (1 : Int) else if x = y then 0 else -1) < 0 ↔ x < y := by
  by_cases q : x > y
  · rw [if_pos q]
    exact ⟨fun z => by omega, fun z => by rw [gt_iff_lt, Int64.lt_iff_toInt_lt] at q; rw [Int64.lt_iff_toInt_lt] at z; omega⟩
  · rw [if_neg q]
    by_cases e : x = y
    · rw [if_pos e]
      exact ⟨fun z => by omega, fun z => by subst e; exact absurd z Int64.lt_irrefl⟩
    · rw [if_neg e]
      refine ⟨fun _ => ?_, fun _ => by decide⟩
      rw [gt_iff_lt, Int64.lt_iff_toInt_lt] at q
      rw [← Int64.toInt_inj] at e
      rw [Int64.lt_iff_toInt_lt]
      omega
theorem d151_0 : dc 151 0 = some (.lload_n 1, 1) := by decide +kernel
theorem d151_1 : dc 151 1 = some (.lload 5, 3) := by decide +kernel
theorem d151_3 : dc 151 3 = some (.lcmp, 4) := by decide +kernel
theorem d151_4 : dc 151 4 = some (.ifCond .lt ((21 : Nat) : Int), 7) := by decide +kernel
theorem d151_7 : dc 151 7 = some (.lload_n 1, 8) := by decide +kernel
theorem d151_8 : dc 151 8 = some (.lload 5, 10) := by decide +kernel
theorem d151_10 : dc 151 10 = some (.lcmp, 11) := by decide +kernel
theorem d151_11 : dc 151 11 = some (.ifCond .ne ((25 : Nat) : Int), 14) := by decide +kernel
theorem d151_14 : dc 151 14 = some (.lload_n 3, 15) := by decide +kernel
theorem d151_15 : dc 151 15 = some (.lload 7, 17) := by decide +kernel
theorem d151_17 : dc 151 17 = some (.lcmp, 18) := by decide +kernel
theorem d151_18 : dc 151 18 = some (.ifCond .ge ((25 : Nat) : Int), 21) := by decide +kernel
theorem d151_21 : dc 151 21 = some (.iconst 1, 22) := by decide +kernel
theorem d151_22 : dc 151 22 = some (.goto ((26 : Nat) : Int), 25) := by decide +kernel
theorem d151_25 : dc 151 25 = some (.iconst 0, 26) := by decide +kernel
theorem d151_26 : dc 151 26 = some (.freturn, 27) := by decide +kernel
theorem k_Plan_isAhead {S : Shp} {G : Nat → Option Nat} {d : Nat} {h : Hp} {Q : Option MV → Hp → Prop} {p : Nat} {a : Int64} {b : Int64} {c : Int64} {e : Int64}  (ok : Ok S h) (h1 : 0 ≤ d) (hp : sK S p = 4) 
    (kk : ∀ v : Bool, (v = true ↔ ltJ a b c e) → Q (some (vI (b2i v))) h) : Cl G d 151 [vR (some p), vJ a, vJ b, vJ c, vJ e] h Q := by
  show Wp G d 151 0 [some (vR (some p)), some (vJ a), none, some (vJ b), none, some (vJ c), none, some (vJ e), none] [] h Q
  refine w_lload_n d151_0 rfl ?_
  refine w_lload d151_1 rfl ?_
  refine w_lcmp d151_3 ?_
  refine w_iflt d151_4 (fun c4 => ?_) (fun c4 => ?_)
  · have z1 : a < c := lcmpL.mp c4
    refine w_iconst d151_21 (by decide) ?_
    refine w_goto d151_22 ?_
    refine w_zreturn d151_26 (by decide) ?_
    first | (refine kk true ⟨fun _ => ?_, fun _ => rfl⟩; first | exact Or.inl z1 | exact Or.inr ⟨z2, z3⟩) | (refine kk false ⟨(fun q => by cases q), (fun q => ?_)⟩; rcases q with q | q; exact absurd q z1; first | exact absurd q.1 z2 | exact absurd q.2 z3)
  · have z1 : ¬ a < c := fun q => absurd (lcmpL.mpr q) (Int.not_lt.mpr c4)
    refine w_lload_n d151_7 rfl ?_
    refine w_lload d151_8 rfl ?_
    refine w_lcmp d151_10 ?_
    refine w_ifne d151_11 (fun c11 => ?_) (fun c11 => ?_)
    · have z2 : a ≠ c := fun q => c11 (lcmp0.mpr q)
      refine w_iconst d151_25 (by decide) ?_
      refine w_zreturn d151_26 (by decide) ?_
      first | (refine kk true ⟨fun _ => ?_, fun _ => rfl⟩; first | exact Or.inl z1 | exact Or.inr ⟨z2, z3⟩) | (refine kk false ⟨(fun q => by cases q), (fun q => ?_)⟩; rcases q with q | q; exact absurd q z1; first | exact absurd q.1 z2 | exact absurd q.2 z3)
    · have z2 : a = c := lcmp0.mp c11
      refine w_lload_n d151_14 rfl ?_
      refine w_lload d151_15 rfl ?_
      refine w_lcmp d151_17 ?_
      refine w_ifge d151_18 (fun c18 => ?_) (fun c18 => ?_)
      · have z3 : ¬ b < e := fun q => absurd (lcmpL.mpr q) (Int.not_lt.mpr c18)
        refine w_iconst d151_25 (by decide) ?_
        refine w_zreturn d151_26 (by decide) ?_
        first | (refine kk true ⟨fun _ => ?_, fun _ => rfl⟩; first | exact Or.inl z1 | exact Or.inr ⟨z2, z3⟩) | (refine kk false ⟨(fun q => by cases q), (fun q => ?_)⟩; rcases q with q | q; exact absurd q z1; first | exact absurd q.1 z2 | exact absurd q.2 z3)
      · have z3 : b < e := lcmpL.mp c18
        refine w_iconst d151_21 (by decide) ?_
        refine w_goto d151_22 ?_
        refine w_zreturn d151_26 (by decide) ?_
        first | (refine kk true ⟨fun _ => ?_, fun _ => rfl⟩; first | exact Or.inl z1 | exact Or.inr ⟨z2, z3⟩) | (refine kk false ⟨(fun q => by cases q), (fun q => ?_)⟩; rcases q with q | q; exact absurd q z1; first | exact absurd q.1 z2 | exact absurd q.2 z3)
theorem d176_0 : dc 176 0 = some (.iconst 0, 1) := by decide +kernel
theorem d176_1 : dc 176 1 = some (.istore 6, 3) := by decide +kernel
theorem d176_3 : dc 176 3 = some (.iload 6, 5) := by decide +kernel
theorem d176_5 : dc 176 5 = some (.aload_n 0, 6) := by decide +kernel
theorem d176_6 : dc 176 6 = some (.getfield 391, 9) := by decide +kernel
theorem d176_9 : dc 176 9 = some (.if_icmp .ge ((58 : Nat) : Int), 12) := by decide +kernel
theorem d176_12 : dc 176 12 = some (.aload_n 0, 13) := by decide +kernel
theorem d176_13 : dc 176 13 = some (.dload 393, 16) := by decide +kernel
theorem d176_16 : dc 176 16 = some (.iload 6, 18) := by decide +kernel
theorem d176_18 : dc 176 18 = some (.aload_n 0, 19) := by decide +kernel
theorem d176_19 : dc 176 19 = some (.dload 392, 22) := by decide +kernel
theorem d176_22 : dc 176 22 = some (.iload 6, 24) := by decide +kernel
theorem d176_24 : dc 176 24 = some (.aaload, 25) := by decide +kernel
theorem d176_25 : dc 176 25 = some (.getfield 128, 28) := by decide +kernel
theorem d176_28 : dc 176 28 = some (.ifCond .eq ((50 : Nat) : Int), 31) := by decide +kernel
theorem d176_31 : dc 176 31 = some (.aload_n 0, 32) := by decide +kernel
theorem d176_32 : dc 176 32 = some (.dload 392, 35) := by decide +kernel
theorem d176_35 : dc 176 35 = some (.iload 6, 37) := by decide +kernel
theorem d176_37 : dc 176 37 = some (.aaload, 38) := by decide +kernel
theorem d176_38 : dc 176 38 = some (.lload_n 1, 39) := by decide +kernel
theorem d176_39 : dc 176 39 = some (.lload_n 3, 40) := by decide +kernel
theorem d176_40 : dc 176 40 = some (.invokevirtual 177, 43) := by decide +kernel
theorem d176_43 : dc 176 43 = some (.ifCond .eq ((50 : Nat) : Int), 46) := by decide +kernel
theorem d176_46 : dc 176 46 = some (.iconst 1, 47) := by decide +kernel
theorem d176_47 : dc 176 47 = some (.goto ((51 : Nat) : Int), 50) := by decide +kernel
theorem d176_50 : dc 176 50 = some (.iconst 0, 51) := by decide +kernel
theorem d176_51 : dc 176 51 = some (.iastore, 52) := by decide +kernel
theorem d176_52 : dc 176 52 = some (.iinc 6 1, 55) := by decide +kernel
theorem d176_55 : dc 176 55 = some (.goto ((3 : Nat) : Int), 58) := by decide +kernel
theorem d176_58 : dc 176 58 = some (.aload_n 0, 59) := by decide +kernel
theorem d176_59 : dc 176 59 = some (.invokevirtual 77, 62) := by decide +kernel
theorem d176_62 : dc 176 62 = some (.aload_n 0, 63) := by decide +kernel
theorem d176_63 : dc 176 63 = some (.iconst (-1), 64) := by decide +kernel
theorem d176_64 : dc 176 64 = some (.aload 5, 66) := by decide +kernel
theorem d176_66 : dc 176 66 = some (.invokevirtual 150, 69) := by decide +kernel
theorem d176_69 : dc 176 69 = some (.return_, 70) := by decide +kernel
theorem k_Plan_tellUsers {S : Shp} {G : Nat → Option Nat} {d : Nat} {h : Hp} {Q : Option MV → Hp → Prop} {p : Nat} {x : Int64} {y : Int64} {r : Nat}  (ok : Ok S h) (h1 : 3 ≤ d) (hp : sK S p = 4) (hr : sK S r = 6) {ts : List (Bool × TgV)} {n : List Nat} (tc : TsC S h p ts) (hn : okP n) (hx : x = hd n) (hy : y = tl n) (hpr : ¬ U S p r)
    (kk : ∀ h' sel, Mo S (fun x => x = sT S 393 p ∨ x = r) h h' → (∀ u, u < ts.length → (sel u = true ↔ ∃ z, z < ts.length ∧ (tH ts z = true ∧ namesF (tgI (tD ts z)) n = true) ∧ Rc ts u z)) → rl h' r = addBs (cap h r) (rl h r) (mkTxt ts sel ts.length) → cap h' r = cap h r → Q none h') : Cl G d 176 [vR (some p), vJ x, vJ y, vR (some r)] h Q := by
  show Wp G d 176 0 [some (vR (some p)), some (vJ x), none, some (vJ y), none, some (vR (some r)), none] [] h Q
  have tc0 := tc
  have hl14 := tc.2.1
  have nA : ∀ y, U S p y → ¬ y = r := fun y u q => hpr (q ▸ u)
  have kM := kT393 ok hp
  have hne : p ≠ sT S 393 p := fun q => ok.so.pT (by decide) q.symm
  have hnE : ∀ i y, i < ts.length → U S (sE S (sT S 392 p) i) y → ¬ y = sT S 393 p := fun i y hi u q => by
    subst q
    exact (ok.so.defN (f := 393) (by omega) (by decide) (by decide)).2.1 u
  have rM : ¬ sT S 393 p = r := nA _ (ok.so.uT (by decide) U_refl)
  have nAA : ∀ i q, i < ts.length → U S (sE S (sT S 392 p) i) q → ¬ (q = sT S 393 p ∨ q = r) := fun i q hi u z => z.elim (hnE i q hi u) (nA q (U_trans (ok.so.uE (by omega) (ok.so.uT (by decide) U_refl)) u))
  have nP : ¬ (p = sT S 393 p ∨ p = r) := fun z => z.elim hne (nA p U_refl)
  refine w_iconst d176_0 (by decide) ?_
  refine w_istore6 d176_1 rfl ?_
  have L3 : ∀ (m3 : Nat) (g : Hp) (u : Nat), ts.length - u = m3 → Mo S (fun x => x = (sT S 393 p) ∨ x = r) h g → (u ≤ ts.length) → (∀ w, w < u → AI g (sT S 393 p) w = b2i (tH ts w && namesF (tgI (tD ts w)) n)) → (rl g r = rl h r) → (cap g r = cap h r) → Wp G d 176 3 [some (vR (some p)), some (vJ x), none, some (vJ y), none, some (vR (some r)), some (vI (u : Nat))] [] g Q := by
    intro m3
    induction m3 using Nat.strongRecOn with | ind m3 IH3 => ?_
    intro g u hm3 Mg i1 i2 i3 i4
    have okg := Mg.ok
    have tcg := tc0.fr ok Mg hp (Or.inl nP) nAA
    refine w_iload d176_3 rfl ?_
    refine w_aload_n d176_5 rfl ?_
    refine w_getI (x := (ts.length : Int)) d176_6 (okg.kd hp) tcg.1 ?_
    refine w_icmpge d176_9 (fun c9 => ?_) (fun c9 => ?_)
    · refine w_aload_n d176_58 rfl ?_
      refine w_callv1 d176_59 (by omega) rfl (okg.kd hp) (by simp) (Nat.le_of_ble_eq_true rfl) ?_
      refine k_Plan_markUsers (m0 := (fun z => b2i (tH ts z && namesF (tgI (tD ts z)) n))) okg (by omega) hp tcg (fun u hu => ⟨i2 u (by omega), b2i_01 _⟩) (fun h59 m59 e59_1 => ?_)
      have ok59 := m59.ok
      have M59 := Mo.tr ok Mg m59 (fun x e => (Or.inl e))
      have tcm := tc0.fr ok M59 hp (Or.inl nP) nAA
      refine w_aload_n d176_62 rfl ?_
      refine w_iconst d176_63 (by decide) ?_
      refine w_aload d176_64 rfl ?_
      refine w_callv3 d176_66 (by omega) rfl (ok59.kd hp) (by simp) (Nat.le_of_ble_eq_true rfl) ?_
      refine k_Plan_tellMarked (sel := fun u => decide (AI h59 (sT S 393 p) u = 1)) ok59 (by omega) hp hr tcm (fun u hu => ⟨fun q => decide_eq_true q.1, fun q => ⟨of_decide_eq_true q, by omega⟩⟩) hpr (fun h66 m66 e66_1 e66_2 => ?_)
      have ok66 := m66.ok
      have M66 := Mo.tr ok M59 m66 (fun x e => (Or.inr e))
      refine w_return d176_69 ?_
      refine kk h66 (fun u => decide (AI h59 (sT S 393 p) u = 1)) M66 (fun u hu => ?_) ?_ ?_
      rotate_left
      · rw [e66_1, m59.rb okg hr (fun q => rM q.symm), (m59.cp okg hr).2 (fun q => rM q.symm), i3, i4]
      · rw [e66_2, (m59.cp okg hr).2 (fun q => rM q.symm), i4]
      · have e := e59_1 u hu
        constructor
        · intro q
          obtain ⟨z, z1, z2, z3⟩ := (e.resolve_right (fun w => by have := of_decide_eq_true q; omega)).2
          have z2 : b2i (tH ts z && namesF (tgI (tD ts z)) n) = 1 := z2
          rw [b2i_t, Bool.and_eq_true] at z2
          exact ⟨z, z1, z2, z3⟩
        · rintro ⟨z, z1, z2, z3⟩
          rcases e with e | e
          · exact decide_eq_true e.1
          · exact absurd ⟨z, z1, by show b2i (tH ts z && namesF (tgI (tD ts z)) n) = 1; rw [z2.1, z2.2]; rfl, z3⟩ e.2
    · have hu : u < ts.length := by omega
      obtain ⟨a1, a2, a3⟩ := tcg.2.2 u hu
      refine w_aload_n d176_12 rfl ?_
      refine w_dloadS d176_13 (okg.kd hp) (fr393 okg hp) ?_
      refine w_iload d176_16 rfl ?_
      refine w_aload_n d176_18 rfl ?_
      refine w_dloadS d176_19 (okg.kd hp) (fr392 okg hp) ?_
      refine w_iload d176_22 rfl ?_
      have k24 := kE392 okg hp (j := u) (by omega)
      refine w_aaloadSN d176_24 (gi392 okg hp (by omega)) (er392 okg hp (by omega)) ?_
      refine w_getI (x := (b2i (tH ts u))) d176_25 (okg.kd k24) a1 ?_
      refine w_ifeq d176_28 (fun c28 => ?_) (fun c28 => ?_)
      · have zz : 0 = b2i (tH ts u && namesF (tgI (tD ts u)) n) := by rw [b2i_f.mp c28]; rfl
        refine w_iconst d176_50 (by decide) ?_
        refine wa393 d176_51 okg hp (by omega) (by omega) (fun h51 e51 m51 => ?_)
        have e51 : h51 = sAI g (sT S 393 p) u 0 := e51
        have ok51 := m51.ok
        have M51 := Mo.tr ok Mg m51 (fun x e => (Or.inl e))
        refine w_iinc6 d176_52 rfl (by constructor <;> omega) ?_
        refine w_goto d176_55 ?_
        refine w_less ?_ (IH3 _ (by omega) h51 (u + 1) rfl M51 (by omega) (fun w hw => by
          rw [e51, sArr]
          split
          · rename_i z; subst z; exact zz
          · exact i2 w (by omega)) (by rw [m51.rb okg hr (fun q => rM q.symm)]; exact i3) (by rw [(m51.cp okg hr).2 (fun q => rM q.symm)]; exact i4))
        exact ⟨Or.inr rfl, Or.inr rfl, Or.inl rfl, Or.inr rfl, Or.inl rfl, Or.inr rfl, Or.inr rfl, trivial⟩
      · have b1 : tH ts u = true := by cases q : tH ts u <;> simp_all [b2i]
        refine w_aload_n d176_31 rfl ?_
        refine w_dloadS d176_32 (okg.kd hp) (fr392 okg hp) ?_
        refine w_iload d176_35 rfl ?_
        have k37 := kE392 okg hp (j := u) (by omega)
        refine w_aaloadSN d176_37 (gi392 okg hp (by omega)) (er392 okg hp (by omega)) ?_
        refine w_lload_n d176_38 rfl ?_
        refine w_lload_n d176_39 rfl ?_
        refine w_callv3 d176_40 (by omega) rfl (okg.kd k37) (by simp) (Nat.le_of_ble_eq_true rfl) ?_
        refine k_Def_namesFile okg (by omega) k37 a2 hn hx hy ?_
        refine w_ifeq d176_43 (fun c43 => ?_) (fun c43 => ?_)
        · have zz : 0 = b2i (tH ts u && namesF (tgI (tD ts u)) n) := by rw [b2i_f.mp c43, Bool.and_false]; rfl
          refine w_iconst d176_50 (by decide) ?_
          refine wa393 d176_51 okg hp (by omega) (by omega) (fun h51 e51 m51 => ?_)
          have e51 : h51 = sAI g (sT S 393 p) u 0 := e51
          have ok51 := m51.ok
          have M51 := Mo.tr ok Mg m51 (fun x e => (Or.inl e))
          refine w_iinc6 d176_52 rfl (by constructor <;> omega) ?_
          refine w_goto d176_55 ?_
          refine w_less ?_ (IH3 _ (by omega) h51 (u + 1) rfl M51 (by omega) (fun w hw => by
            rw [e51, sArr]
            split
            · rename_i z; subst z; exact zz
            · exact i2 w (by omega)) (by rw [m51.rb okg hr (fun q => rM q.symm)]; exact i3) (by rw [(m51.cp okg hr).2 (fun q => rM q.symm)]; exact i4))
          exact ⟨Or.inr rfl, Or.inr rfl, Or.inl rfl, Or.inr rfl, Or.inl rfl, Or.inr rfl, Or.inr rfl, trivial⟩
        · have zz : 1 = b2i (tH ts u && namesF (tgI (tD ts u)) n) := by cases q : namesF (tgI (tD ts u)) n <;> simp_all [b2i]
          refine w_iconst d176_46 (by decide) ?_
          refine w_goto d176_47 ?_
          refine wa393 d176_51 okg hp (by omega) (by omega) (fun h51 e51 m51 => ?_)
          have e51 : h51 = sAI g (sT S 393 p) u 1 := e51
          have ok51 := m51.ok
          have M51 := Mo.tr ok Mg m51 (fun x e => (Or.inl e))
          refine w_iinc6 d176_52 rfl (by constructor <;> omega) ?_
          refine w_goto d176_55 ?_
          refine w_less ?_ (IH3 _ (by omega) h51 (u + 1) rfl M51 (by omega) (fun w hw => by
            rw [e51, sArr]
            split
            · rename_i z; subst z; exact zz
            · exact i2 w (by omega)) (by rw [m51.rb okg hr (fun q => rM q.symm)]; exact i3) (by rw [(m51.cp okg hr).2 (fun q => rM q.symm)]; exact i4))
          exact ⟨Or.inr rfl, Or.inr rfl, Or.inl rfl, Or.inr rfl, Or.inl rfl, Or.inr rfl, Or.inr rfl, trivial⟩
  have M0_ := Mo.refl (A := (fun x => x = (sT S 393 p) ∨ x = r)) ok
  refine w_less ?_ (L3 _ h 0 rfl M0_ (by omega) (fun w hw => by omega) rfl rfl)
  exact ⟨Or.inr rfl, Or.inr rfl, Or.inl rfl, Or.inr rfl, Or.inl rfl, Or.inr rfl, Or.inr rfl, trivial⟩
theorem d149_0 : dc 149 0 = some (.aload_n 0, 1) := by decide +kernel
theorem d149_1 : dc 149 1 = some (.iload_n 1, 2) := by decide +kernel
theorem d149_2 : dc 149 2 = some (.aload_n 0, 3) := by decide +kernel
theorem d149_3 : dc 149 3 = some (.dload 393, 6) := by decide +kernel
theorem d149_6 : dc 149 6 = some (.invokevirtual 98, 9) := by decide +kernel
theorem d149_9 : dc 149 9 = some (.aload_n 0, 10) := by decide +kernel
theorem d149_10 : dc 149 10 = some (.iload_n 1, 11) := by decide +kernel
theorem d149_11 : dc 149 11 = some (.aload_n 2, 12) := by decide +kernel
theorem d149_12 : dc 149 12 = some (.invokevirtual 150, 15) := by decide +kernel
theorem d149_15 : dc 149 15 = some (.lconst 0, 16) := by decide +kernel
theorem d149_16 : dc 149 16 = some (.lstore_n 3, 17) := by decide +kernel
theorem d149_17 : dc 149 17 = some (.lconst 0, 18) := by decide +kernel
theorem d149_18 : dc 149 18 = some (.lstore 5, 20) := by decide +kernel
theorem d149_20 : dc 149 20 = some (.iconst 0, 21) := by decide +kernel
theorem d149_21 : dc 149 21 = some (.istore 7, 23) := by decide +kernel
theorem d149_23 : dc 149 23 = some (.iload 7, 25) := by decide +kernel
theorem d149_25 : dc 149 25 = some (.bipush 84, 27) := by decide +kernel
theorem d149_27 : dc 149 27 = some (.if_icmp .ge ((219 : Nat) : Int), 30) := by decide +kernel
theorem d149_30 : dc 149 30 = some (.ldc2_w 3, 33) := by decide +kernel
theorem d149_33 : dc 149 33 = some (.lstore 8, 35) := by decide +kernel
theorem d149_35 : dc 149 35 = some (.lconst 0, 36) := by decide +kernel
theorem d149_36 : dc 149 36 = some (.lstore 10, 38) := by decide +kernel
theorem d149_38 : dc 149 38 = some (.iconst 0, 39) := by decide +kernel
theorem d149_39 : dc 149 39 = some (.istore 12, 41) := by decide +kernel
theorem d149_41 : dc 149 41 = some (.iload 12, 43) := by decide +kernel
theorem d149_43 : dc 149 43 = some (.aload_n 0, 44) := by decide +kernel
theorem d149_44 : dc 149 44 = some (.getfield 391, 47) := by decide +kernel
theorem d149_47 : dc 149 47 = some (.if_icmp .ge ((179 : Nat) : Int), 50) := by decide +kernel
theorem d149_50 : dc 149 50 = some (.aload_n 0, 51) := by decide +kernel
theorem d149_51 : dc 149 51 = some (.dload 392, 54) := by decide +kernel
theorem d149_54 : dc 149 54 = some (.iload 12, 56) := by decide +kernel
theorem d149_56 : dc 149 56 = some (.aaload, 57) := by decide +kernel
theorem d149_57 : dc 149 57 = some (.astore 13, 59) := by decide +kernel
theorem d149_59 : dc 149 59 = some (.iconst 0, 60) := by decide +kernel
theorem d149_60 : dc 149 60 = some (.istore 14, 62) := by decide +kernel
theorem d149_62 : dc 149 62 = some (.aload_n 0, 63) := by decide +kernel
theorem d149_63 : dc 149 63 = some (.dload 393, 66) := by decide +kernel
theorem d149_66 : dc 149 66 = some (.iload 12, 68) := by decide +kernel
theorem d149_68 : dc 149 68 = some (.iaload, 69) := by decide +kernel
theorem d149_69 : dc 149 69 = some (.iconst 1, 70) := by decide +kernel
theorem d149_70 : dc 149 70 = some (.if_icmp .ne ((173 : Nat) : Int), 73) := by decide +kernel
theorem d149_73 : dc 149 73 = some (.iload 14, 75) := by decide +kernel
theorem d149_75 : dc 149 75 = some (.aload 13, 77) := by decide +kernel
theorem d149_77 : dc 149 77 = some (.getfield 133, 80) := by decide +kernel
theorem d149_80 : dc 149 80 = some (.if_icmp .ge ((173 : Nat) : Int), 83) := by decide +kernel
theorem d149_83 : dc 149 83 = some (.aload 13, 85) := by decide +kernel
theorem d149_85 : dc 149 85 = some (.dload 134, 88) := by decide +kernel
theorem d149_88 : dc 149 88 = some (.iload 14, 90) := by decide +kernel
theorem d149_90 : dc 149 90 = some (.baload, 91) := by decide +kernel
theorem d149_91 : dc 149 91 = some (.ifCond .ne ((167 : Nat) : Int), 94) := by decide +kernel
theorem d149_94 : dc 149 94 = some (.aload_n 0, 95) := by decide +kernel
theorem d149_95 : dc 149 95 = some (.lload_n 3, 96) := by decide +kernel
theorem d149_96 : dc 149 96 = some (.lload 5, 98) := by decide +kernel
theorem d149_98 : dc 149 98 = some (.aload 13, 100) := by decide +kernel
theorem d149_100 : dc 149 100 = some (.dload 135, 103) := by decide +kernel
theorem d149_103 : dc 149 103 = some (.iload 14, 105) := by decide +kernel
theorem d149_105 : dc 149 105 = some (.laload, 106) := by decide +kernel
theorem d149_106 : dc 149 106 = some (.aload 13, 108) := by decide +kernel
theorem d149_108 : dc 149 108 = some (.dload 136, 111) := by decide +kernel
theorem d149_111 : dc 149 111 = some (.iload 14, 113) := by decide +kernel
theorem d149_113 : dc 149 113 = some (.laload, 114) := by decide +kernel
theorem d149_114 : dc 149 114 = some (.invokevirtual 151, 117) := by decide +kernel
theorem d149_117 : dc 149 117 = some (.ifCond .eq ((167 : Nat) : Int), 120) := by decide +kernel
theorem d149_120 : dc 149 120 = some (.aload_n 0, 121) := by decide +kernel
theorem d149_121 : dc 149 121 = some (.aload 13, 123) := by decide +kernel
theorem d149_123 : dc 149 123 = some (.dload 135, 126) := by decide +kernel
theorem d149_126 : dc 149 126 = some (.iload 14, 128) := by decide +kernel
theorem d149_128 : dc 149 128 = some (.laload, 129) := by decide +kernel
theorem d149_129 : dc 149 129 = some (.aload 13, 131) := by decide +kernel
theorem d149_131 : dc 149 131 = some (.dload 136, 134) := by decide +kernel
theorem d149_134 : dc 149 134 = some (.iload 14, 136) := by decide +kernel
theorem d149_136 : dc 149 136 = some (.laload, 137) := by decide +kernel
theorem d149_137 : dc 149 137 = some (.lload 8, 139) := by decide +kernel
theorem d149_139 : dc 149 139 = some (.lload 10, 141) := by decide +kernel
theorem d149_141 : dc 149 141 = some (.invokevirtual 151, 144) := by decide +kernel
theorem d149_144 : dc 149 144 = some (.ifCond .eq ((167 : Nat) : Int), 147) := by decide +kernel
theorem d149_147 : dc 149 147 = some (.aload 13, 149) := by decide +kernel
theorem d149_149 : dc 149 149 = some (.dload 135, 152) := by decide +kernel
theorem d149_152 : dc 149 152 = some (.iload 14, 154) := by decide +kernel
theorem d149_154 : dc 149 154 = some (.laload, 155) := by decide +kernel
theorem d149_155 : dc 149 155 = some (.lstore 8, 157) := by decide +kernel
theorem d149_157 : dc 149 157 = some (.aload 13, 159) := by decide +kernel
theorem d149_159 : dc 149 159 = some (.dload 136, 162) := by decide +kernel
theorem d149_162 : dc 149 162 = some (.iload 14, 164) := by decide +kernel
theorem d149_164 : dc 149 164 = some (.laload, 165) := by decide +kernel
theorem d149_165 : dc 149 165 = some (.lstore 10, 167) := by decide +kernel
theorem d149_167 : dc 149 167 = some (.iinc 14 1, 170) := by decide +kernel
theorem d149_170 : dc 149 170 = some (.goto ((62 : Nat) : Int), 173) := by decide +kernel
theorem d149_173 : dc 149 173 = some (.iinc 12 1, 176) := by decide +kernel
theorem d149_176 : dc 149 176 = some (.goto ((41 : Nat) : Int), 179) := by decide +kernel
theorem d149_179 : dc 149 179 = some (.lload 8, 181) := by decide +kernel
theorem d149_181 : dc 149 181 = some (.ldc2_w 3, 184) := by decide +kernel
theorem d149_184 : dc 149 184 = some (.lcmp, 185) := by decide +kernel
theorem d149_185 : dc 149 185 = some (.ifCond .ne ((189 : Nat) : Int), 188) := by decide +kernel
theorem d149_188 : dc 149 188 = some (.return_, 189) := by decide +kernel
theorem d149_189 : dc 149 189 = some (.lload 8, 191) := by decide +kernel
theorem d149_191 : dc 149 191 = some (.lstore_n 3, 192) := by decide +kernel
theorem d149_192 : dc 149 192 = some (.lload 10, 194) := by decide +kernel
theorem d149_194 : dc 149 194 = some (.lstore 5, 196) := by decide +kernel
theorem d149_196 : dc 149 196 = some (.aload_n 2, 197) := by decide +kernel
theorem d149_197 : dc 149 197 = some (.lload_n 3, 198) := by decide +kernel
theorem d149_198 : dc 149 198 = some (.invokevirtual 104, 201) := by decide +kernel
theorem d149_201 : dc 149 201 = some (.aload_n 2, 202) := by decide +kernel
theorem d149_202 : dc 149 202 = some (.lload 5, 204) := by decide +kernel
theorem d149_204 : dc 149 204 = some (.invokevirtual 104, 207) := by decide +kernel
theorem d149_207 : dc 149 207 = some (.aload_n 2, 208) := by decide +kernel
theorem d149_208 : dc 149 208 = some (.bipush 44, 210) := by decide +kernel
theorem d149_210 : dc 149 210 = some (.invokevirtual 15, 213) := by decide +kernel
theorem d149_213 : dc 149 213 = some (.iinc 7 1, 216) := by decide +kernel
theorem d149_216 : dc 149 216 = some (.goto ((23 : Nat) : Int), 219) := by decide +kernel
theorem d149_219 : dc 149 219 = some (.return_, 220) := by decide +kernel
theorem k_Plan_tellNeeds {S : Shp} {G : Nat → Option Nat} {d : Nat} {h : Hp} {Q : Option MV → Hp → Prop} {p : Nat} {t : Nat} {r : Nat}  (ok : Ok S h) (h1 : 3 ≤ d) (hp : sK S p = 4) (hr : sK S r = 6) {ts : List (Bool × TgV)} (tc : TsC S h p ts) (ht : t < ts.length) (hpr : ¬ U S p r) (hnz : ∀ n, nmd ts t n → n ≠ [])
    (kk : ∀ h' sel ps, Mo S (fun x => x = sT S 393 p ∨ x = r) h h' → (∀ u, u < ts.length → (sel u = true ↔ Rc ts t u ∧ u ≠ t)) → List.Pairwise ltP ps → (∀ n, n ∈ ps ↔ nmd ts t n) → rl h' r = addBs (cap h r) (rl h r) (mkTxt ts sel ts.length ++ psTxt ps) → cap h' r = cap h r → Q none h') : Cl G d 149 [vR (some p), vI (t : Nat), vR (some r)] h Q := by
  show Wp G d 149 0 [some (vR (some p)), some (vI (t : Nat)), some (vR (some r)), none, none, none, none, none, none, none, none, none, none, none, none] [] h Q
  have tc0 := tc
  have hl14 := tc.2.1
  have nA : ∀ y, U S p y → ¬ y = r := fun y u q => hpr (q ▸ u)
  have kM := kT393 ok hp
  have hne : p ≠ sT S 393 p := fun q => ok.so.pT (by decide) q.symm
  have hnE : ∀ i y, i < ts.length → U S (sE S (sT S 392 p) i) y → ¬ y = sT S 393 p := fun i y hi u q => by
    subst q
    exact (ok.so.defN (f := 393) (by omega) (by decide) (by decide)).2.1 u
  have rM : ¬ sT S 393 p = r := nA _ (ok.so.uT (by decide) U_refl)
  have nAA : ∀ i q, i < ts.length → U S (sE S (sT S 392 p) i) q → ¬ (q = sT S 393 p ∨ q = r) := fun i q hi u z => z.elim (hnE i q hi u) (nA q (U_trans (ok.so.uE (by omega) (ok.so.uT (by decide) U_refl)) u))
  have nP : ¬ (p = sT S 393 p ∨ p = r) := fun z => z.elim hne (nA p U_refl)
  refine w_aload_n d149_0 rfl ?_
  refine w_iload_n d149_1 rfl ?_
  refine w_aload_n d149_2 rfl ?_
  refine w_dloadS d149_3 (ok.kd hp) (fr393 ok hp) ?_
  refine w_callv3 d149_6 (by omega) rfl (ok.kd hp) (by simp) (Nat.le_of_ble_eq_true rfl) ?_
  refine k_Plan_markNeeds (f := 393) ok (by omega) hp tc0 ht hp rfl rfl ⟨by decide, by decide⟩ hne hnE (fun h6 m6 e6_1 => ?_)
  have ok6 := m6.ok
  have M6 := Mo.tr ok (Mo.refl (A := (fun x => x = (sT S 393 p) ∨ x = r)) ok) m6 (fun x e => (Or.inl e))
  have tcm := tc0.fr ok M6 hp (Or.inl nP) nAA
  refine w_aload_n d149_9 rfl ?_
  refine w_iload_n d149_10 rfl ?_
  refine w_aload_n d149_11 rfl ?_
  refine w_callv3 d149_12 (by omega) rfl (ok6.kd hp) (by simp) (Nat.le_of_ble_eq_true rfl) ?_
  refine k_Plan_tellMarked (sel := fun u => decide (AI h6 (sT S 393 p) u = 1 ∧ u ≠ t)) ok6 (by omega) hp hr tcm (fun u hu => ⟨fun q => decide_eq_true ⟨q.1, by omega⟩, fun q => ⟨(of_decide_eq_true q).1, by have := (of_decide_eq_true q).2; omega⟩⟩) hpr (fun h12 m12 e12_1 e12_2 => ?_)
  have ok12 := m12.ok
  have M12 := Mo.tr ok M6 m12 (fun x e => (Or.inr e))
  have hsel : ∀ u, u < ts.length → (decide (AI h6 (sT S 393 p) u = 1 ∧ u ≠ t) = true ↔ Rc ts t u ∧ u ≠ t) := fun u hu => by
    have e := e6_1 u (by omega)
    constructor
    · intro q
      have q := of_decide_eq_true q
      exact ⟨(e.resolve_right (fun w => by omega)).2, q.2⟩
    · rintro ⟨q1, q2⟩
      exact decide_eq_true ⟨(e.resolve_right (fun w => w.2 q1)).1, q2⟩
  have hmk : ∀ u, u < ts.length → (AI h6 (sT S 393 p) u = 1 ↔ Rc ts t u) := fun u hu => by
    have e := e6_1 u (by omega)
    exact ⟨fun q => (e.resolve_right (fun w => by omega)).2, fun q => (e.resolve_right (fun w => w.2 q)).1⟩
  have okn : ∀ n, nmd ts t n → okP n := fun n ⟨u, u1, u2, i, i1, i2, i3⟩ => by
    have o := ((tc0.2.2 u u1).2.1.2.2.2.2.2.2.2.2.2.2.2.2.1).2 i i1
    rw [i3] at o
    exact o.1
  have base : rl h12 r = addBs (cap h r) (rl h r) (mkTxt ts (fun u => decide (AI h6 (sT S 393 p) u = 1 ∧ u ≠ t)) ts.length) ∧ cap h12 r = cap h r := ⟨by rw [e12_1, m6.rb ok hr (fun q => rM q.symm), (m6.cp ok hr).2 (fun q => rM q.symm)], by rw [e12_2, (m6.cp ok hr).2 (fun q => rM q.symm)]⟩
  generalize hselD : (fun u => decide (AI h6 (sT S 393 p) u = 1 ∧ u ≠ t)) = sel at base
  have hsel2 : ∀ u, u < ts.length → (sel u = true ↔ Rc ts t u ∧ u ≠ t) := by rw [← hselD]; exact hsel
  have hlast0 : ∀ n, nmd ts t n → ltJ 0 0 (hd n) (tl n) := fun n hn => hd_pos (okn n hn) (hnz n hn)
  refine w_lconst d149_15 ?_
  refine w_lstore3 d149_16 rfl ?_
  refine w_lconst d149_17 ?_
  refine w_lstore5 d149_18 rfl ?_
  refine w_iconst d149_20 (by decide) ?_
  refine w_istore7 d149_21 rfl ?_
  have L23 : ∀ (m23 : Nat) (g : Hp) (k : Nat) (hx hy : Int64) (ps : List (List Nat)), 84 - k = m23 → Mo S (fun x => x = (sT S 393 p) ∨ x = r) h g → (k ≤ 84) → (ps.length = k) → (List.Pairwise ltP ps) → (∀ n ∈ ps, nmd ts t n) → (∀ n ∈ ps, ¬ ltJ hx hy (hd n) (tl n)) → (∀ n, nmd ts t n → ltJ hx hy (hd n) (tl n) ∨ n ∈ ps) → (rl g r = addBs (cap h r) (rl h r) (mkTxt ts sel ts.length ++ psTxt ps)) → (cap g r = cap h r) → (Mo S (fun x => x = r) h6 g) → Wp G d 149 23 [some (vR (some p)), some (vI (t : Nat)), some (vR (some r)), some (vJ hx), none, some (vJ hy), none, some (vI (k : Nat)), none, none, none, none, none, none, none] [] g Q := by
    intro m23
    induction m23 using Nat.strongRecOn with | ind m23 IH23 => ?_
    intro g k hx hy ps hm23 Mg i1 i2 i3 i4 i5 i6 i7 i8 N
    have okg := Mg.ok
    have tcg := tc0.fr ok Mg hp (Or.inl nP) nAA
    have emk : AI g (sT S 393 p) = AI h6 (sT S 393 p) := N.ai ok6 (by omega) rM
    have nodup : ps.Nodup := List.Pairwise.imp (fun {a b} hab e => by subst e; unfold ltP at hab; rw [ltJ_iff] at hab; omega) i3
    have stop : (∀ n, nmd ts t n → n ∈ ps) → Q none g := fun hall => kk g sel ps Mg hsel2 i3 (fun n => ⟨i4 n, hall n⟩) i7 i8
    refine w_iload d149_23 rfl ?_
    refine w_bipush d149_25 (by decide) ?_
    refine w_icmpge d149_27 (fun c27 => ?_) (fun c27 => ?_)
    · refine w_return d149_219 ?_
      refine stop (fun n hn => ?_)
      rcases i6 n hn with q | q
      · exfalso
        have nm : n ∉ ps := fun z => i5 n z q
        have hle := nodup_len (n :: ps) (allN ts ts.length) (List.nodup_cons.mpr ⟨nm, nodup⟩) (fun m hm => by
          have key : ∀ m, nmd ts t m → m ∈ allN ts ts.length := fun m ⟨u, u1, u2, i, j1, j2, j3⟩ => j3 ▸ allN_mem (by have := ((tc0.2.2 u u1).2.1.2.2.2.2.2.2.2.2.2.2.2.2.1).1; omega) _ u1
          rcases List.mem_cons.mp hm with z | z
          · subst z; exact key _ hn
          · exact key _ (i4 m z))
        rw [allN_len] at hle
        simp at hle
        omega
      · exact q
    · refine w_ldc2_w d149_30 ?_
      rw [lngmax]
      refine w_lstore8 d149_33 rfl ?_
      refine w_lconst d149_35 ?_
      refine w_lstore10 d149_36 rfl ?_
      refine w_iconst d149_38 (by decide) ?_
      refine w_istore12 d149_39 rfl ?_
      have L41 : ∀ (m41 : Nat) (u : Nat) (nx ny : Int64), ts.length - u = m41 → (u ≤ ts.length) → ((nx = 9223372036854775807 ∧ ny = 0) ∨ ∃ n, nmd ts t n ∧ okP n ∧ nx = hd n ∧ ny = tl n ∧ ltJ hx hy (hd n) (tl n)) → (∀ w, w < u → Rc ts t w → ∀ i, i < (tgI (tD ts w)).length → inB (tgI (tD ts w)) i = false → ltJ hx hy (hd (inN (tgI (tD ts w)) i)) (tl (inN (tgI (tD ts w)) i)) → ¬ ltJ (hd (inN (tgI (tD ts w)) i)) (tl (inN (tgI (tD ts w)) i)) nx ny) → Wp G d 149 41 [some (vR (some p)), some (vI (t : Nat)), some (vR (some r)), some (vJ hx), none, some (vJ hy), none, some (vI (k : Nat)), some (vJ nx), none, some (vJ ny), none, some (vI (u : Nat)), none, none] [] g Q := by
        intro m41
        induction m41 using Nat.strongRecOn with | ind m41 IH41 => ?_
        intro u nx ny hm41 q1 q2 q3
        refine w_iload d149_41 rfl ?_
        refine w_aload_n d149_43 rfl ?_
        refine w_getI (x := (ts.length : Int)) d149_44 (okg.kd hp) tcg.1 ?_
        refine w_icmpge d149_47 (fun c47 => ?_) (fun c47 => ?_)
        · have uu : u = ts.length := by omega
          refine w_lload d149_179 rfl ?_
          refine w_ldc2_w d149_181 ?_
          rw [lngmax]
          refine w_lcmp d149_184 ?_
          refine w_ifne d149_185 (fun c185 => ?_) (fun c185 => ?_)
          · obtain ⟨n, w1, w2, w3, w4, w5⟩ := q2.resolve_left (fun w => c185 (lcmp0.mpr w.1))
            refine w_lload d149_189 rfl ?_
            refine w_lstore3 d149_191 rfl ?_
            refine w_lload d149_192 rfl ?_
            refine w_lstore5 d149_194 rfl ?_
            refine w_aload_n d149_196 rfl ?_
            refine w_lload_n d149_197 rfl ?_
            rw [w3]
            refine w_callv2 d149_198 (by omega) rfl (okg.kd hr) (by simp) (Nat.le_of_ble_eq_true rfl) ?_
            refine r_Row_addName (by omega) okg hr (fun h198 m198 e198_1 e198_2 => ?_)
            have ok198 := m198.ok
            have M198 := Mo.tr ok Mg m198 (fun x e => (Or.inr e))
            refine w_aload_n d149_201 rfl ?_
            refine w_lload d149_202 rfl ?_
            rw [w4]
            refine w_callv2 d149_204 (by omega) rfl (ok198.kd hr) (by simp) (Nat.le_of_ble_eq_true rfl) ?_
            refine r_Row_addName (by omega) ok198 hr (fun h204 m204 e204_1 e204_2 => ?_)
            have ok204 := m204.ok
            have M204 := Mo.tr ok M198 m204 (fun x e => (Or.inr e))
            refine w_aload_n d149_207 rfl ?_
            refine w_bipush d149_208 (by decide) ?_
            refine w_callv2 d149_210 (by omega) rfl (ok204.kd hr) (by simp) (Nat.le_of_ble_eq_true rfl) ?_
            refine r_Row_add ok204 hr (fun h210 m210 e210_1 e210_2 => ?_)
            have ok210 := m210.ok
            have M210 := Mo.tr ok M204 m210 (fun x e => (Or.inr e))
            refine w_iinc7 d149_213 rfl (by constructor <;> omega) ?_
            refine w_goto d149_216 ?_
            refine w_less ?_ (IH23 _ (by omega) h210 (k + 1) nx ny (ps ++ [n]) rfl M210 (by omega) (by simp [i2]) (List.pairwise_append.mpr ⟨i3, List.pairwise_singleton _ _, fun a ha b hb => by
              rw [List.mem_singleton] at hb
              subst hb
              have h1 := i5 a ha
              unfold ltP
              rw [ltJ_iff] at h1 w5 ⊢
              omega⟩) (fun m hm => by
              rcases List.mem_append.mp hm with z | z
              · exact i4 m z
              · rw [List.mem_singleton] at z; subst z; exact w1) (fun m hm => by
              rcases List.mem_append.mp hm with z | z
              · have h1 := i5 m z
                rw [w3, w4]
                rw [ltJ_iff] at h1 w5 ⊢
                omega
              · rw [List.mem_singleton] at z; subst z; rw [w3, w4, ltJ_iff]; omega) (fun m hm => by
              rcases i6 m hm with z | z
              · by_cases e : ltJ nx ny (hd m) (tl m)
                · exact Or.inl e
                · obtain ⟨u, u1, u2, i, j1, j2, j3⟩ := hm
                  have lt := q3 u (by omega) u2 i j1 j2
                  rw [j3] at lt
                  have lt := lt z
                  refine Or.inr (List.mem_append_right _ (List.mem_singleton.mpr ?_))
                  refine (ht_inj (okn m ⟨u, u1, u2, i, j1, j2, j3⟩) w2).mp ?_
                  rw [← w3, ← w4, ← Int64.toInt_inj, ← Int64.toInt_inj]
                  rw [ltJ_iff] at e lt
                  omega
              · exact Or.inr (List.mem_append_left _ z)) (by rw [e210_1, e204_1, e204_2, e198_1, e198_2, i8, i7, addBs3, addBs3, addBs3, ← List.append_assoc (nmB (hd n) 8), nm_back w2, psTxt_snoc]; simp [List.append_assoc]) (by rw [e210_2, e204_2, e198_2, i8]) (((N.tr ok6 m198 (fun x e => e)).tr ok6 m204 (fun x e => e)).tr ok6 m210 (fun x e => e)))
            exact ⟨Or.inr rfl, Or.inr rfl, Or.inr rfl, Or.inr (by rw [w3]), Or.inl rfl, Or.inr (by rw [w4]), Or.inl rfl, Or.inr rfl, Or.inl rfl, Or.inl rfl, Or.inl rfl, Or.inl rfl, Or.inl rfl, Or.inl rfl, Or.inl rfl, trivial⟩
          · have z := lcmp0.mp c185
            refine w_return d149_188 ?_
            refine stop (fun n hn => ?_)
            rcases i6 n hn with q | q
            · exfalso
              obtain ⟨u, u1, u2, i, j1, j2, j3⟩ := hn
              have lt := q3 u (by omega) u2 i j1 j2
              rw [j3] at lt
              have mx := hd_max (okn n ⟨u, u1, u2, i, j1, j2, j3⟩)
              have lt := lt q
              rcases q2 with ⟨w1, w2⟩ | ⟨m, w1, w2, w3, w4, w5⟩
              · rw [w1, w2] at lt; exact lt mx
              · have mm := hd_max w2
                rw [w3] at z
                rw [z] at mm
                unfold ltJ at mm
                rcases mm with mm | mm
                · exact Int64.lt_irrefl mm
                · have tz : (tl m).toInt < 0 := by have := mm.2; rw [Int64.lt_iff_toInt_lt] at this; exact this
                  have := tl_nn w2
                  omega
            · exact q
        · have hu : u < ts.length := by omega
          obtain ⟨a1, a2, a3⟩ := tcg.2.2 u hu
          have a6 := a2.2.2.2.2.2.2.2.2.2.2.2.2.1.1
          refine w_aload_n d149_50 rfl ?_
          refine w_dloadS d149_51 (okg.kd hp) (fr392 okg hp) ?_
          refine w_iload d149_54 rfl ?_
          have k56 := kE392 okg hp (j := u) (by omega)
          refine w_aaloadSN d149_56 (gi392 okg hp (by omega)) (er392 okg hp (by omega)) ?_
          refine w_astore13 d149_57 rfl ?_
          refine w_iconst d149_59 (by decide) ?_
          refine w_istore14 d149_60 rfl ?_
          have L62 : ∀ (m62 : Nat) (i : Nat) (mx my : Int64), 6 - i = m62 → (i ≤ 6) → ((mx = 9223372036854775807 ∧ my = 0) ∨ ∃ n, nmd ts t n ∧ okP n ∧ mx = hd n ∧ my = tl n ∧ ltJ hx hy (hd n) (tl n)) → (∀ w, w < u → Rc ts t w → ∀ i, i < (tgI (tD ts w)).length → inB (tgI (tD ts w)) i = false → ltJ hx hy (hd (inN (tgI (tD ts w)) i)) (tl (inN (tgI (tD ts w)) i)) → ¬ ltJ (hd (inN (tgI (tD ts w)) i)) (tl (inN (tgI (tD ts w)) i)) mx my) → (∀ j, j < i → Rc ts t u → j < (tgI (tD ts u)).length → inB (tgI (tD ts u)) j = false → ltJ hx hy (hd (inN (tgI (tD ts u)) j)) (tl (inN (tgI (tD ts u)) j)) → ¬ ltJ (hd (inN (tgI (tD ts u)) j)) (tl (inN (tgI (tD ts u)) j)) mx my) → Wp G d 149 62 [some (vR (some p)), some (vI (t : Nat)), some (vR (some r)), some (vJ hx), none, some (vJ hy), none, some (vI (k : Nat)), some (vJ mx), none, some (vJ my), none, some (vI (u : Nat)), some (vR (some (sE S (sT S 392 p) u))), some (vI (i : Nat))] [] g Q := by
            intro m62
            induction m62 using Nat.strongRecOn with | ind m62 IH62 => ?_
            intro i mx my hm62 b1 b2 b3 b5
            refine w_aload_n d149_62 rfl ?_
            refine w_dloadS d149_63 (okg.kd hp) (fr393 okg hp) ?_
            refine w_iload d149_66 rfl ?_
            refine w_ialoadV (x := (AI h6 (sT S 393 p) u)) d149_68 (gi393 okg hp (by omega)) (congrFun emk u) ?_
            refine w_iconst d149_69 (by decide) ?_
            refine w_icmpne d149_70 (fun c70 => ?_) (fun c70 => ?_)
            · have b4 : Rc ts t u → ∀ j, j < (tgI (tD ts u)).length → inB (tgI (tD ts u)) j = false → ltJ hx hy (hd (inN (tgI (tD ts u)) j)) (tl (inN (tgI (tD ts u)) j)) → ¬ ltJ (hd (inN (tgI (tD ts u)) j)) (tl (inN (tgI (tD ts u)) j)) mx my := fun q => absurd ((hmk u hu).mpr q) c70
              refine w_iinc12 d149_173 rfl (by constructor <;> omega) ?_
              refine w_goto d149_176 ?_
              refine w_less ?_ (IH41 _ (by omega) (u + 1) mx my rfl (by omega) b2 (fun w hw rw i hi hb => by
                by_cases z : w = u
                · subst z; exact b4 rw i hi hb
                · exact b3 w (by omega) rw i hi hb))
              exact ⟨Or.inr rfl, Or.inr rfl, Or.inr rfl, Or.inr rfl, Or.inl rfl, Or.inr rfl, Or.inl rfl, Or.inr rfl, Or.inr rfl, Or.inl rfl, Or.inr rfl, Or.inl rfl, Or.inr rfl, Or.inl rfl, Or.inl rfl, trivial⟩
            · have hrc : Rc ts t u := (hmk u hu).mp c70
              refine w_iload d149_73 rfl ?_
              refine w_aload d149_75 rfl ?_
              refine w_getI (x := ((tgI (tD ts u)).length : Int)) d149_77 (okg.kd (kE392 ok hp (j := u) (by omega))) a2.2.2.2.2.1 ?_
              refine w_icmpge d149_80 (fun c80 => ?_) (fun c80 => ?_)
              · have b4 : Rc ts t u → ∀ j, j < (tgI (tD ts u)).length → inB (tgI (tD ts u)) j = false → ltJ hx hy (hd (inN (tgI (tD ts u)) j)) (tl (inN (tgI (tD ts u)) j)) → ¬ ltJ (hd (inN (tgI (tD ts u)) j)) (tl (inN (tgI (tD ts u)) j)) mx my := fun q j hj => b5 j (by omega) q hj
                refine w_iinc12 d149_173 rfl (by constructor <;> omega) ?_
                refine w_goto d149_176 ?_
                refine w_less ?_ (IH41 _ (by omega) (u + 1) mx my rfl (by omega) b2 (fun w hw rw i hi hb => by
                  by_cases z : w = u
                  · subst z; exact b4 rw i hi hb
                  · exact b3 w (by omega) rw i hi hb))
                exact ⟨Or.inr rfl, Or.inr rfl, Or.inr rfl, Or.inr rfl, Or.inl rfl, Or.inr rfl, Or.inl rfl, Or.inr rfl, Or.inr rfl, Or.inl rfl, Or.inr rfl, Or.inl rfl, Or.inr rfl, Or.inl rfl, Or.inl rfl, trivial⟩
              · have hi : i < (tgI (tD ts u)).length := by omega
                obtain ⟨f1, f2, f3⟩ := a2.2.2.2.2.2.1 i hi
                refine w_aload d149_83 rfl ?_
                refine w_dloadS d149_85 (okg.kd (kE392 ok hp (j := u) (by omega))) (fr134 okg (kE392 ok hp (j := u) (by omega))) ?_
                refine w_iload d149_88 rfl ?_
                refine w_baloadV (x := (b2i (inB (tgI (tD ts u)) i))) d149_90 (gi134 okg (kE392 ok hp (j := u) (by omega)) (by omega)) f1 ?_
                refine w_ifne d149_91 (fun c91 => ?_) (fun c91 => ?_)
                · have hb : inB (tgI (tD ts u)) i = true := by cases q : inB (tgI (tD ts u)) i <;> simp_all [b2i]
                  have nb : inB (tgI (tD ts u)) i = false → ltJ hx hy (hd (inN (tgI (tD ts u)) i)) (tl (inN (tgI (tD ts u)) i)) → ¬ ltJ (hd (inN (tgI (tD ts u)) i)) (tl (inN (tgI (tD ts u)) i)) mx my := fun q => by rw [hb] at q; cases q
                  refine w_iinc14 d149_167 rfl (by constructor <;> omega) ?_
                  refine w_goto d149_170 ?_
                  refine w_less ?_ (IH62 _ (by omega) (i + 1) mx my rfl (by omega) b2 b3 (fun j hj a b => by
                    by_cases z : j = i
                    · subst z; exact nb
                    · exact b5 j (by omega) a b))
                  exact ⟨Or.inr rfl, Or.inr rfl, Or.inr rfl, Or.inr rfl, Or.inl rfl, Or.inr rfl, Or.inl rfl, Or.inr rfl, Or.inr rfl, Or.inl rfl, Or.inr rfl, Or.inl rfl, Or.inr rfl, Or.inr rfl, Or.inr rfl, trivial⟩
                · have hb : inB (tgI (tD ts u)) i = false := by cases q : inB (tgI (tD ts u)) i <;> simp_all [b2i]
                  refine w_aload_n d149_94 rfl ?_
                  refine w_lload_n d149_95 rfl ?_
                  refine w_lload d149_96 rfl ?_
                  refine w_aload d149_98 rfl ?_
                  refine w_dloadS d149_100 (okg.kd (kE392 ok hp (j := u) (by omega))) (fr135 okg (kE392 ok hp (j := u) (by omega))) ?_
                  refine w_iload d149_103 rfl ?_
                  refine w_laloadV (x := (hd (inN (tgI (tD ts u)) i))) d149_105 (gi135 okg (kE392 ok hp (j := u) (by omega)) (by omega)) f2 ?_
                  refine w_aload d149_106 rfl ?_
                  refine w_dloadS d149_108 (okg.kd (kE392 ok hp (j := u) (by omega))) (fr136 okg (kE392 ok hp (j := u) (by omega))) ?_
                  refine w_iload d149_111 rfl ?_
                  refine w_laloadV (x := (tl (inN (tgI (tD ts u)) i))) d149_113 (gi136 okg (kE392 ok hp (j := u) (by omega)) (by omega)) f3 ?_
                  refine w_callv5 d149_114 (by omega) rfl (okg.kd hp) (by simp) (Nat.le_of_ble_eq_true rfl) ?_
                  refine k_Plan_isAhead okg (by omega) hp (fun v1 hv1 => ?_)
                  refine w_ifeq d149_117 (fun c117 => ?_) (fun c117 => ?_)
                  · have nb : inB (tgI (tD ts u)) i = false → ltJ hx hy (hd (inN (tgI (tD ts u)) i)) (tl (inN (tgI (tD ts u)) i)) → ¬ ltJ (hd (inN (tgI (tD ts u)) i)) (tl (inN (tgI (tD ts u)) i)) mx my := fun _ q => by rw [← hv1, b2i_f.mp c117] at q; cases q
                    refine w_iinc14 d149_167 rfl (by constructor <;> omega) ?_
                    refine w_goto d149_170 ?_
                    refine w_less ?_ (IH62 _ (by omega) (i + 1) mx my rfl (by omega) b2 b3 (fun j hj a b => by
                      by_cases z : j = i
                      · subst z; exact nb
                      · exact b5 j (by omega) a b))
                    exact ⟨Or.inr rfl, Or.inr rfl, Or.inr rfl, Or.inr rfl, Or.inl rfl, Or.inr rfl, Or.inl rfl, Or.inr rfl, Or.inr rfl, Or.inl rfl, Or.inr rfl, Or.inl rfl, Or.inr rfl, Or.inr rfl, Or.inr rfl, trivial⟩
                  · have lt1 := hv1.mp (by cases v1 <;> simp_all [b2i])
                    refine w_aload_n d149_120 rfl ?_
                    refine w_aload d149_121 rfl ?_
                    refine w_dloadS d149_123 (okg.kd (kE392 ok hp (j := u) (by omega))) (fr135 okg (kE392 ok hp (j := u) (by omega))) ?_
                    refine w_iload d149_126 rfl ?_
                    refine w_laloadV (x := (hd (inN (tgI (tD ts u)) i))) d149_128 (gi135 okg (kE392 ok hp (j := u) (by omega)) (by omega)) f2 ?_
                    refine w_aload d149_129 rfl ?_
                    refine w_dloadS d149_131 (okg.kd (kE392 ok hp (j := u) (by omega))) (fr136 okg (kE392 ok hp (j := u) (by omega))) ?_
                    refine w_iload d149_134 rfl ?_
                    refine w_laloadV (x := (tl (inN (tgI (tD ts u)) i))) d149_136 (gi136 okg (kE392 ok hp (j := u) (by omega)) (by omega)) f3 ?_
                    refine w_lload d149_137 rfl ?_
                    refine w_lload d149_139 rfl ?_
                    refine w_callv5 d149_141 (by omega) rfl (okg.kd hp) (by simp) (Nat.le_of_ble_eq_true rfl) ?_
                    refine k_Plan_isAhead okg (by omega) hp (fun v2 hv2 => ?_)
                    refine w_ifeq d149_144 (fun c144 => ?_) (fun c144 => ?_)
                    · have nb : inB (tgI (tD ts u)) i = false → ltJ hx hy (hd (inN (tgI (tD ts u)) i)) (tl (inN (tgI (tD ts u)) i)) → ¬ ltJ (hd (inN (tgI (tD ts u)) i)) (tl (inN (tgI (tD ts u)) i)) mx my := fun _ _ q => by rw [← hv2, b2i_f.mp c144] at q; cases q
                      refine w_iinc14 d149_167 rfl (by constructor <;> omega) ?_
                      refine w_goto d149_170 ?_
                      refine w_less ?_ (IH62 _ (by omega) (i + 1) mx my rfl (by omega) b2 b3 (fun j hj a b => by
                        by_cases z : j = i
                        · subst z; exact nb
                        · exact b5 j (by omega) a b))
                      exact ⟨Or.inr rfl, Or.inr rfl, Or.inr rfl, Or.inr rfl, Or.inl rfl, Or.inr rfl, Or.inl rfl, Or.inr rfl, Or.inr rfl, Or.inl rfl, Or.inr rfl, Or.inl rfl, Or.inr rfl, Or.inr rfl, Or.inr rfl, trivial⟩
                    · have lt2 := hv2.mp (by cases v2 <;> simp_all [b2i])
                      have hnm : nmd ts t (inN (tgI (tD ts u)) i) := ⟨u, hu, hrc, i, hi, hb, rfl⟩
                      refine w_aload d149_147 rfl ?_
                      refine w_dloadS d149_149 (okg.kd (kE392 ok hp (j := u) (by omega))) (fr135 okg (kE392 ok hp (j := u) (by omega))) ?_
                      refine w_iload d149_152 rfl ?_
                      refine w_laloadV (x := (hd (inN (tgI (tD ts u)) i))) d149_154 (gi135 okg (kE392 ok hp (j := u) (by omega)) (by omega)) f2 ?_
                      refine w_lstore8 d149_155 rfl ?_
                      refine w_aload d149_157 rfl ?_
                      refine w_dloadS d149_159 (okg.kd (kE392 ok hp (j := u) (by omega))) (fr136 okg (kE392 ok hp (j := u) (by omega))) ?_
                      refine w_iload d149_162 rfl ?_
                      refine w_laloadV (x := (tl (inN (tgI (tD ts u)) i))) d149_164 (gi136 okg (kE392 ok hp (j := u) (by omega)) (by omega)) f3 ?_
                      refine w_lstore10 d149_165 rfl ?_
                      have upd := True.intro
                      refine w_iinc14 d149_167 rfl (by constructor <;> omega) ?_
                      refine w_goto d149_170 ?_
                      refine w_less ?_ (IH62 _ (by omega) (i + 1) (hd (inN (tgI (tD ts u)) i)) (tl (inN (tgI (tD ts u)) i)) rfl (by omega) (Or.inr ⟨_, hnm, okn _ hnm, rfl, rfl, lt1⟩) (fun w hw a i2 b c d e => by
                        have := b3 w hw a i2 b c d
                        rw [ltJ_iff] at *
                        omega) (fun j hj a b c d e => by
                        by_cases z : j = i
                        · subst z; rw [ltJ_iff] at e; omega
                        · have := b5 j (by omega) a b c d
                          rw [ltJ_iff] at *
                          omega))
                      exact ⟨Or.inr rfl, Or.inr rfl, Or.inr rfl, Or.inr rfl, Or.inl rfl, Or.inr rfl, Or.inl rfl, Or.inr rfl, Or.inr rfl, Or.inl rfl, Or.inr rfl, Or.inl rfl, Or.inr rfl, Or.inr rfl, Or.inr rfl, trivial⟩
          refine w_less ?_ (L62 _ 0 nx ny rfl (by omega) q2 q3 (fun j hj => by omega))
          exact ⟨Or.inr rfl, Or.inr rfl, Or.inr rfl, Or.inr rfl, Or.inl rfl, Or.inr rfl, Or.inl rfl, Or.inr rfl, Or.inr rfl, Or.inl rfl, Or.inr rfl, Or.inl rfl, Or.inr rfl, Or.inr rfl, Or.inr rfl, trivial⟩
      refine w_less ?_ (L41 _ 0 9223372036854775807 0 rfl (by omega) (Or.inl ⟨rfl, rfl⟩) (fun w hw => by omega))
      exact ⟨Or.inr rfl, Or.inr rfl, Or.inr rfl, Or.inr rfl, Or.inl rfl, Or.inr rfl, Or.inl rfl, Or.inr rfl, Or.inr rfl, Or.inl rfl, Or.inr rfl, Or.inl rfl, Or.inr rfl, Or.inl rfl, Or.inl rfl, trivial⟩
  refine w_less ?_ (L23 _ h12 0 0 0 [] rfl M12 (by omega) rfl List.Pairwise.nil (fun n hn => by cases hn) (fun n hn => by cases hn) (fun n hn => Or.inl (hlast0 n hn)) (by rw [show psTxt [] = [] from rfl, List.append_nil]; exact base.1) base.2 (m12.mono (fun x e => e)))
  exact ⟨Or.inr rfl, Or.inr rfl, Or.inr rfl, Or.inr rfl, Or.inl rfl, Or.inr rfl, Or.inl rfl, Or.inr rfl, Or.inl rfl, Or.inl rfl, Or.inl rfl, Or.inl rfl, Or.inl rfl, Or.inl rfl, Or.inl rfl, trivial⟩
