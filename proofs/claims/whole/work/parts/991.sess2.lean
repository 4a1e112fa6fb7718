/-! a session: what may be taken; what is told -/
/-- all inputs that are targets that are there are built -/
def rdyB (ts : List (Bool × TgV)) (E : Nat → Nat) (t : Nat) : Bool := (List.range 6).all fun i => decide (inT ts t i < 0 ∨ E (inT ts t i).toNat = 1)
theorem rdyB_t {ts : List (Bool × TgV)} {E : Nat → Nat} {t : Nat} : rdyB ts E t = true ↔ ∀ i, i < 6 → inT ts t i < 0 ∨ E (inT ts t i).toNat = 1 := by
  unfold rdyB
  rw [List.all_eq_true]
  constructor
  · intro H i hi
    have := H i (List.mem_range.mpr hi)
    simpa using this
  · intro H i hi
    have := H i (List.mem_range.mp hi)
    simpa using this
/-- a target may be taken -/
def mayB (ts : List (Bool × TgV)) (nd E : Nat → Nat) (H : Nat → Int) (t : Nat) : Bool := decide (nd t = 1 ∧ E t = 0 ∧ H 0 ≠ t ∧ H 1 ≠ t ∧ rdyB ts E t = true)
def chs (ts : List (Bool × TgV)) (nd E : Nat → Nat) (H : Nat → Int) : Int := srF (mayB ts nd E H) ts.length 0
def cntN (f : Nat → Nat) : Nat → Nat
  | 0 => 0
  | t + 1 => cntN f t + f t
def cntD (f : Nat → Nat) : Nat → Nat
  | 0 => 0
  | t + 1 => cntD f t + (if f t = 0 then 0 else 1)
theorem cntD_le {f : Nat → Nat} : ∀ {n}, cntD f n ≤ n
  | 0 => Nat.le_refl _
  | n + 1 => by
    have := cntD_le (f := f) (n := n)
    unfold cntD
    split <;> omega
theorem cntN_le {f : Nat → Nat} : ∀ {n}, (∀ t, t < n → f t ≤ 1) → cntN f n ≤ n
  | 0, _ => Nat.le_refl _
  | n + 1, H => by
    have h1 := cntN_le (f := f) (n := n) (fun t ht => H t (by omega))
    have h2 := H n (by omega)
    unfold cntN
    omega
/-- what was built here is not so there -/
def unlB (E : Nat → Nat) (pu pv : Nat → OutV) (t : Nat) : Bool := decide (E t = 1 ∧ ((pv t).1 = false ∨ oO (pu t) ≠ oO (pv t) ∨ oF (pu t) ≠ oF (pv t)))
def runT (ts : List (Bool × TgV)) (l : List Nat) : Nat → List Nat
  | 0 => []
  | i + 1 => runT ts l i ++ (tgN (tD ts (l.getD i 0)) ++ [59])
def wkTx (c : Nat → Nat) : Nat → List Nat
  | 0 => []
  | i + 1 => wkTx c i ++ ((if 0 < i then [32] else []) ++ dec (c i))
def endT (ts : List (Bool × TgV)) (g : Bool) (f : Int) (y : List Nat) : List Nat := if g = true then txt 5 else if f < 0 then txt 6 else txt 7 ++ (tgN (tD ts f.toNat) ++ (txt 8 ++ y))
theorem d101_0 : dc 101 0 = some (.iconst 0, 1) := by decide +kernel
theorem d101_1 : dc 101 1 = some (.istore_n 2, 2) := by decide +kernel
theorem d101_2 : dc 101 2 = some (.iload_n 2, 3) := by decide +kernel
theorem d101_3 : dc 101 3 = some (.bipush 6, 5) := by decide +kernel
theorem d101_5 : dc 101 5 = some (.if_icmp .ge ((40 : Nat) : Int), 8) := by decide +kernel
theorem d101_8 : dc 101 8 = some (.aload_n 0, 9) := by decide +kernel
theorem d101_9 : dc 101 9 = some (.dload 770, 12) := by decide +kernel
theorem d101_12 : dc 101 12 = some (.iload_n 1, 13) := by decide +kernel
theorem d101_13 : dc 101 13 = some (.iload_n 2, 14) := by decide +kernel
theorem d101_14 : dc 101 14 = some (.invokevirtual 78, 17) := by decide +kernel
theorem d101_17 : dc 101 17 = some (.istore_n 3, 18) := by decide +kernel
theorem d101_18 : dc 101 18 = some (.iload_n 3, 19) := by decide +kernel
theorem d101_19 : dc 101 19 = some (.ifCond .lt ((34 : Nat) : Int), 22) := by decide +kernel
theorem d101_22 : dc 101 22 = some (.aload_n 0, 23) := by decide +kernel
theorem d101_23 : dc 101 23 = some (.dload 774, 26) := by decide +kernel
theorem d101_26 : dc 101 26 = some (.iload_n 3, 27) := by decide +kernel
theorem d101_27 : dc 101 27 = some (.iaload, 28) := by decide +kernel
theorem d101_28 : dc 101 28 = some (.iconst 1, 29) := by decide +kernel
theorem d101_29 : dc 101 29 = some (.if_icmp .eq ((34 : Nat) : Int), 32) := by decide +kernel
theorem d101_32 : dc 101 32 = some (.iconst 0, 33) := by decide +kernel
theorem d101_33 : dc 101 33 = some (.freturn, 34) := by decide +kernel
theorem d101_34 : dc 101 34 = some (.iinc 2 1, 37) := by decide +kernel
theorem d101_37 : dc 101 37 = some (.goto ((2 : Nat) : Int), 40) := by decide +kernel
theorem d101_40 : dc 101 40 = some (.iconst 1, 41) := by decide +kernel
theorem d101_41 : dc 101 41 = some (.freturn, 42) := by decide +kernel
theorem k_Se_isReady {S : Shp} {G : Nat → Option Nat} {d : Nat} {h : Hp} {Q : Option MV → Hp → Prop} {x : Nat} {t : Nat}  (ok : Ok S h) (h1 : 2 ≤ d) (hx : sK S x = 7) {P : PlV} (pl : PlC S h (sT S 770 x) P) {r : RunV} (rc : RunC S h x r)
    (kk : Q (some (vI (b2i (rdyB P.2.2 (rE r) t)))) h) : Cl G d 101 [vR (some x), vI (t : Nat)] h Q := by
  show Wp G d 101 0 [some (vR (some x)), some (vI (t : Nat)), none, none] [] h Q
  obtain ⟨d774, d775, d776, d777, d778, d780, d781, d782, d784, dl⟩ := id rc
  have tc := pl.2.2
  have hl := tc.2.1
  refine w_iconst d101_0 (by decide) ?_
  refine w_istore2 d101_1 rfl ?_
  have L2 : ∀ (m2 : Nat) (i : Nat), 6 - i = m2 → (i ≤ 6) → (∀ j, j < i → inT P.2.2 t j < 0 ∨ rE r (inT P.2.2 t j).toNat = 1) → Wp G d 101 2 [some (vR (some x)), some (vI (t : Nat)), some (vI (i : Nat)), none] [] h Q := by
    intro m2
    induction m2 using Nat.strongRecOn with | ind m2 IH2 => ?_
    intro i hm2 i1 i2
    refine w_iload_n d101_2 rfl ?_
    refine w_bipush d101_3 (by decide) ?_
    refine w_icmpge d101_5 (fun c5 => ?_) (fun c5 => ?_)
    · refine w_iconst d101_40 (by decide) ?_
      refine w_zreturn d101_41 (by decide) ?_
      refine qI ?_ kk
      rw [rdyB_t.mpr (fun j hj => i2 j (by omega))]
      rfl
    · refine w_aload_n d101_8 rfl ?_
      refine w_dloadS d101_9 (ok.kd hx) (fr770 ok hx) ?_
      refine w_iload_n d101_12 rfl ?_
      refine w_iload_n d101_13 rfl ?_
      refine w_callv3 d101_14 (by omega) rfl (ok.kd (kT770 ok hx)) (by simp) (Nat.le_of_ble_eq_true rfl) ?_
      have ir := inT_rg P.2.2 t i
      refine k_Plan_inputTargetN ok (by omega) (kT770 ok hx) tc ?_
      refine w_istore3 d101_17 rfl ?_
      refine w_iload_n d101_18 rfl ?_
      refine w_iflt d101_19 (fun c19 => ?_) (fun c19 => ?_)
      · have go : inT P.2.2 t i < 0 ∨ rE r (inT P.2.2 t i).toNat = 1 := Or.inl (by omega)
        refine w_iinc2 d101_34 rfl (by constructor <;> omega) ?_
        refine w_goto d101_37 ?_
        refine w_less ?_ (IH2 _ (by omega) (i + 1) rfl (by omega) (fun j hj => by by_cases q : j = i; rw [q]; exact go; exact i2 j (by omega)))
        exact ⟨Or.inr rfl, Or.inr rfl, Or.inr rfl, Or.inl rfl, trivial⟩
      · obtain ⟨u, hu⟩ : ∃ u : Nat, inT P.2.2 t i = u := ⟨(inT P.2.2 t i).toNat, (Int.toNat_of_nonneg (by omega)).symm⟩
        rw [hu]
        refine w_aload_n d101_22 rfl ?_
        refine w_dloadS d101_23 (ok.kd hx) (fr774 ok hx) ?_
        refine w_iload_n d101_26 rfl ?_
        refine w_ialoadV (x := ((rE r u : Nat) : Int)) d101_27 (gi774 ok hx (by omega)) (d774 u (by omega)) ?_
        refine w_iconst d101_28 (by decide) ?_
        refine w_icmpeq d101_29 (fun c29 => ?_) (fun c29 => ?_)
        · have go : inT P.2.2 t i < 0 ∨ rE r (inT P.2.2 t i).toNat = 1 := Or.inr (by rw [hu]; show rE r u = 1; omega)
          refine w_iinc2 d101_34 rfl (by constructor <;> omega) ?_
          refine w_goto d101_37 ?_
          refine w_less ?_ (IH2 _ (by omega) (i + 1) rfl (by omega) (fun j hj => by by_cases q : j = i; rw [q]; exact go; exact i2 j (by omega)))
          exact ⟨Or.inr rfl, Or.inr rfl, Or.inr rfl, Or.inl rfl, trivial⟩
        · refine w_iconst d101_32 (by decide) ?_
          refine w_zreturn d101_33 (by decide) ?_
          refine qI ?_ kk
          cases z : rdyB P.2.2 (rE r) t with
          | false => rfl
          | true => exact absurd (rdyB_t.mp z i (by omega)) (by rw [hu]; show ¬ (((u : Nat) : Int) < 0 ∨ rE r u = 1); omega)
  refine w_less ?_ (L2 _ 0 rfl (by omega) (fun j hj => absurd hj (Nat.not_lt_zero _)))
  exact ⟨Or.inr rfl, Or.inr rfl, Or.inr rfl, Or.inl rfl, trivial⟩
theorem d100_0 : dc 100 0 = some (.iconst 0, 1) := by decide +kernel
theorem d100_1 : dc 100 1 = some (.istore_n 1, 2) := by decide +kernel
theorem d100_2 : dc 100 2 = some (.iload_n 1, 3) := by decide +kernel
theorem d100_3 : dc 100 3 = some (.aload_n 0, 4) := by decide +kernel
theorem d100_4 : dc 100 4 = some (.dload 770, 7) := by decide +kernel
theorem d100_7 : dc 100 7 = some (.getfield 391, 10) := by decide +kernel
theorem d100_10 : dc 100 10 = some (.if_icmp .ge ((68 : Nat) : Int), 13) := by decide +kernel
theorem d100_13 : dc 100 13 = some (.aload_n 0, 14) := by decide +kernel
theorem d100_14 : dc 100 14 = some (.dload 773, 17) := by decide +kernel
theorem d100_17 : dc 100 17 = some (.iload_n 1, 18) := by decide +kernel
theorem d100_18 : dc 100 18 = some (.iaload, 19) := by decide +kernel
theorem d100_19 : dc 100 19 = some (.iconst 1, 20) := by decide +kernel
theorem d100_20 : dc 100 20 = some (.if_icmp .ne ((62 : Nat) : Int), 23) := by decide +kernel
theorem d100_23 : dc 100 23 = some (.aload_n 0, 24) := by decide +kernel
theorem d100_24 : dc 100 24 = some (.dload 774, 27) := by decide +kernel
theorem d100_27 : dc 100 27 = some (.iload_n 1, 28) := by decide +kernel
theorem d100_28 : dc 100 28 = some (.iaload, 29) := by decide +kernel
theorem d100_29 : dc 100 29 = some (.ifCond .ne ((62 : Nat) : Int), 32) := by decide +kernel
theorem d100_32 : dc 100 32 = some (.aload_n 0, 33) := by decide +kernel
theorem d100_33 : dc 100 33 = some (.dload 775, 36) := by decide +kernel
theorem d100_36 : dc 100 36 = some (.iconst 0, 37) := by decide +kernel
theorem d100_37 : dc 100 37 = some (.iaload, 38) := by decide +kernel
theorem d100_38 : dc 100 38 = some (.iload_n 1, 39) := by decide +kernel
theorem d100_39 : dc 100 39 = some (.if_icmp .eq ((62 : Nat) : Int), 42) := by decide +kernel
theorem d100_42 : dc 100 42 = some (.aload_n 0, 43) := by decide +kernel
theorem d100_43 : dc 100 43 = some (.dload 775, 46) := by decide +kernel
theorem d100_46 : dc 100 46 = some (.iconst 1, 47) := by decide +kernel
theorem d100_47 : dc 100 47 = some (.iaload, 48) := by decide +kernel
theorem d100_48 : dc 100 48 = some (.iload_n 1, 49) := by decide +kernel
theorem d100_49 : dc 100 49 = some (.if_icmp .eq ((62 : Nat) : Int), 52) := by decide +kernel
theorem d100_52 : dc 100 52 = some (.aload_n 0, 53) := by decide +kernel
theorem d100_53 : dc 100 53 = some (.iload_n 1, 54) := by decide +kernel
theorem d100_54 : dc 100 54 = some (.invokevirtual 101, 57) := by decide +kernel
theorem d100_57 : dc 100 57 = some (.ifCond .eq ((62 : Nat) : Int), 60) := by decide +kernel
theorem d100_60 : dc 100 60 = some (.iload_n 1, 61) := by decide +kernel
theorem d100_61 : dc 100 61 = some (.ireturn, 62) := by decide +kernel
theorem d100_62 : dc 100 62 = some (.iinc 1 1, 65) := by decide +kernel
theorem d100_65 : dc 100 65 = some (.goto ((2 : Nat) : Int), 68) := by decide +kernel
theorem d100_68 : dc 100 68 = some (.iconst (-1), 69) := by decide +kernel
theorem d100_69 : dc 100 69 = some (.ireturn, 70) := by decide +kernel
theorem k_Se_choose {S : Shp} {G : Nat → Option Nat} {d : Nat} {h : Hp} {Q : Option MV → Hp → Prop} {x : Nat}  (ok : Ok S h) (h1 : 3 ≤ d) (hx : sK S x = 7) {P : PlV} (pl : PlC S h (sT S 770 x) P) {r : RunV} (rc : RunC S h x r) {nd : Nat → Nat} (hnd : ∀ u, u < 14 → AI h (sT S 773 x) u = (nd u : Nat))
    (kk : Q (some (vI (chs P.2.2 nd (rE r) (rH r)))) h) : Cl G d 100 [vR (some x)] h Q := by
  show Wp G d 100 0 [some (vR (some x)), none] [] h Q
  obtain ⟨d774, d775, d776, d777, d778, d780, d781, d782, d784, dl⟩ := id rc
  have tc := pl.2.2
  have hl := tc.2.1
  have h0 := d775 0 (by decide)
  have h1_ := d775 1 (by decide)
  refine w_iconst d100_0 (by decide) ?_
  refine w_istore1 d100_1 rfl ?_
  have L2 : ∀ (m2 : Nat) (t : Nat), P.2.2.length - t = m2 → (t ≤ P.2.2.length) → (chs P.2.2 nd (rE r) (rH r) = srF (mayB P.2.2 nd (rE r) (rH r)) P.2.2.length t) → Wp G d 100 2 [some (vR (some x)), some (vI (t : Nat))] [] h Q := by
    intro m2
    induction m2 using Nat.strongRecOn with | ind m2 IH2 => ?_
    intro t hm2 i1 i2
    refine w_iload_n d100_2 rfl ?_
    refine w_aload_n d100_3 rfl ?_
    refine w_dloadS d100_4 (ok.kd hx) (fr770 ok hx) ?_
    refine w_getI (x := ((P.2.2.length : Nat) : Int)) d100_7 (ok.kd (kT770 ok hx)) tc.1 ?_
    refine w_icmpge d100_10 (fun c10 => ?_) (fun c10 => ?_)
    · refine w_iconst d100_68 (by decide) ?_
      refine w_ireturn d100_69 ?_
      rw [i2, srF_end (by omega)] at kk
      exact kk
    · have ht : t < 14 := by omega
      refine w_aload_n d100_13 rfl ?_
      refine w_dloadS d100_14 (ok.kd hx) (fr773 ok hx) ?_
      refine w_iload_n d100_17 rfl ?_
      refine w_ialoadV (x := ((nd t : Nat) : Int)) d100_18 (gi773 ok hx (by omega)) (hnd t ht) ?_
      refine w_iconst d100_19 (by decide) ?_
      refine w_icmpne d100_20 (fun c20 => ?_) (fun c20 => ?_)
      · have nm : mayB P.2.2 nd (rE r) (rH r) t = false := decide_eq_false (fun z => by omega)
        refine w_iinc1 d100_62 rfl (by constructor <;> omega) ?_
        refine w_goto d100_65 ?_
        refine w_less ?_ (IH2 _ (by omega) (t + 1) rfl (by omega) (by rw [i2, srF_no (by omega) nm]))
        exact ⟨Or.inr rfl, Or.inr rfl, trivial⟩
      · refine w_aload_n d100_23 rfl ?_
        refine w_dloadS d100_24 (ok.kd hx) (fr774 ok hx) ?_
        refine w_iload_n d100_27 rfl ?_
        refine w_ialoadV (x := ((rE r t : Nat) : Int)) d100_28 (gi774 ok hx (by omega)) (d774 t ht) ?_
        refine w_ifne d100_29 (fun c29 => ?_) (fun c29 => ?_)
        · have nm : mayB P.2.2 nd (rE r) (rH r) t = false := decide_eq_false (fun z => by omega)
          refine w_iinc1 d100_62 rfl (by constructor <;> omega) ?_
          refine w_goto d100_65 ?_
          refine w_less ?_ (IH2 _ (by omega) (t + 1) rfl (by omega) (by rw [i2, srF_no (by omega) nm]))
          exact ⟨Or.inr rfl, Or.inr rfl, trivial⟩
        · refine w_aload_n d100_32 rfl ?_
          refine w_dloadS d100_33 (ok.kd hx) (fr775 ok hx) ?_
          refine w_iconst d100_36 (by decide) ?_
          refine w_ialoadV (x := (rH r 0)) d100_37 (gi775 ok hx (by omega)) h0 ?_
          refine w_iload_n d100_38 rfl ?_
          refine w_icmpeq d100_39 (fun c39 => ?_) (fun c39 => ?_)
          · have nm : mayB P.2.2 nd (rE r) (rH r) t = false := decide_eq_false (fun z => by omega)
            refine w_iinc1 d100_62 rfl (by constructor <;> omega) ?_
            refine w_goto d100_65 ?_
            refine w_less ?_ (IH2 _ (by omega) (t + 1) rfl (by omega) (by rw [i2, srF_no (by omega) nm]))
            exact ⟨Or.inr rfl, Or.inr rfl, trivial⟩
          · refine w_aload_n d100_42 rfl ?_
            refine w_dloadS d100_43 (ok.kd hx) (fr775 ok hx) ?_
            refine w_iconst d100_46 (by decide) ?_
            refine w_ialoadV (x := (rH r 1)) d100_47 (gi775 ok hx (by omega)) h1_ ?_
            refine w_iload_n d100_48 rfl ?_
            refine w_icmpeq d100_49 (fun c49 => ?_) (fun c49 => ?_)
            · have nm : mayB P.2.2 nd (rE r) (rH r) t = false := decide_eq_false (fun z => by omega)
              refine w_iinc1 d100_62 rfl (by constructor <;> omega) ?_
              refine w_goto d100_65 ?_
              refine w_less ?_ (IH2 _ (by omega) (t + 1) rfl (by omega) (by rw [i2, srF_no (by omega) nm]))
              exact ⟨Or.inr rfl, Or.inr rfl, trivial⟩
            · refine w_aload_n d100_52 rfl ?_
              refine w_iload_n d100_53 rfl ?_
              refine w_callv2 d100_54 (by omega) rfl (ok.kd hx) (by simp) (Nat.le_of_ble_eq_true rfl) ?_
              refine k_Se_isReady ok (by omega) hx pl rc ?_
              refine w_ifeq d100_57 (fun c57 => ?_) (fun c57 => ?_)
              · have rd : rdyB P.2.2 (rE r) t = false := by cases z : rdyB P.2.2 (rE r) t with
                  | true => rw [z] at c57; exact absurd c57 (by decide)
                  | false => rfl
                have nm : mayB P.2.2 nd (rE r) (rH r) t = false := decide_eq_false (fun z => by rw [rd] at z; exact absurd z.2.2.2.2 (by decide))
                refine w_iinc1 d100_62 rfl (by constructor <;> omega) ?_
                refine w_goto d100_65 ?_
                refine w_less ?_ (IH2 _ (by omega) (t + 1) rfl (by omega) (by rw [i2, srF_no (by omega) nm]))
                exact ⟨Or.inr rfl, Or.inr rfl, trivial⟩
              · have rd : rdyB P.2.2 (rE r) t = true := by cases z : rdyB P.2.2 (rE r) t with
                  | true => rfl
                  | false => rw [z] at c57; exact absurd rfl c57
                have ym : mayB P.2.2 nd (rE r) (rH r) t = true := decide_eq_true ⟨by omega, by omega, c39, c49, rd⟩
                refine w_iload_n d100_60 rfl ?_
                refine w_ireturn d100_61 ?_
                rw [i2, srF_yes (by omega) ym] at kk
                exact kk
  refine w_less ?_ (L2 _ 0 rfl (by omega) rfl)
  exact ⟨Or.inr rfl, Or.inr rfl, trivial⟩
theorem d183_0 : dc 183 0 = some (.iconst 0, 1) := by decide +kernel
theorem d183_1 : dc 183 1 = some (.istore_n 1, 2) := by decide +kernel
theorem d183_2 : dc 183 2 = some (.iconst 0, 3) := by decide +kernel
theorem d183_3 : dc 183 3 = some (.istore_n 2, 4) := by decide +kernel
theorem d183_4 : dc 183 4 = some (.iload_n 2, 5) := by decide +kernel
theorem d183_5 : dc 183 5 = some (.bipush 14, 7) := by decide +kernel
theorem d183_7 : dc 183 7 = some (.if_icmp .ge ((25 : Nat) : Int), 10) := by decide +kernel
theorem d183_10 : dc 183 10 = some (.iload_n 1, 11) := by decide +kernel
theorem d183_11 : dc 183 11 = some (.aload_n 0, 12) := by decide +kernel
theorem d183_12 : dc 183 12 = some (.dload 773, 15) := by decide +kernel
theorem d183_15 : dc 183 15 = some (.iload_n 2, 16) := by decide +kernel
theorem d183_16 : dc 183 16 = some (.iaload, 17) := by decide +kernel
theorem d183_17 : dc 183 17 = some (.iadd, 18) := by decide +kernel
theorem d183_18 : dc 183 18 = some (.istore_n 1, 19) := by decide +kernel
theorem d183_19 : dc 183 19 = some (.iinc 2 1, 22) := by decide +kernel
theorem d183_22 : dc 183 22 = some (.goto ((4 : Nat) : Int), 25) := by decide +kernel
theorem d183_25 : dc 183 25 = some (.iload_n 1, 26) := by decide +kernel
theorem d183_26 : dc 183 26 = some (.ireturn, 27) := by decide +kernel
theorem k_Se_neededCount {S : Shp} {G : Nat → Option Nat} {d : Nat} {h : Hp} {Q : Option MV → Hp → Prop} {x : Nat}  (ok : Ok S h) (h1 : 0 ≤ d) (hx : sK S x = 7) {nd : Nat → Nat} (hnd : ∀ u, u < 14 → AI h (sT S 773 x) u = (nd u : Nat))
    (kk : Q (some (vI (cntN nd 14 : Nat))) h) : Cl G d 183 [vR (some x)] h Q := by
  show Wp G d 183 0 [some (vR (some x)), none, none] [] h Q
  have nl : ∀ t, t < 14 → nd t ≤ 1 := fun t ht => by have := ra773 ok hx t; rw [hnd t ht] at this; omega
  refine w_iconst d183_0 (by decide) ?_
  refine w_istore1 d183_1 rfl ?_
  refine w_iconst d183_2 (by decide) ?_
  refine w_istore2 d183_3 rfl ?_
  have L4 : ∀ (m4 : Nat) (t : Nat), 14 - t = m4 → (t ≤ 14) → Wp G d 183 4 [some (vR (some x)), some (vI (cntN nd t : Nat)), some (vI (t : Nat))] [] h Q := by
    intro m4
    induction m4 using Nat.strongRecOn with | ind m4 IH4 => ?_
    intro t hm4 i1
    have cl := cntN_le (f := nd) (n := t) (fun u hu => nl u (by omega))
    refine w_iload_n d183_4 rfl ?_
    refine w_bipush d183_5 (by decide) ?_
    refine w_icmpge d183_7 (fun c7 => ?_) (fun c7 => ?_)
    · refine w_iload_n d183_25 rfl ?_
      refine w_ireturn d183_26 ?_
      rw [show t = 14 by omega]
      exact kk
    · have n1 := nl t (by omega)
      refine w_iload_n d183_10 rfl ?_
      refine w_aload_n d183_11 rfl ?_
      refine w_dloadS d183_12 (ok.kd hx) (fr773 ok hx) ?_
      refine w_iload_n d183_15 rfl ?_
      refine w_ialoadV (x := ((nd t : Nat) : Int)) d183_16 (gi773 ok hx (by omega)) (hnd t (by omega)) ?_
      refine w_iadd d183_17 (by constructor <;> omega) ?_
      rw [show ((cntN nd t : Nat) : Int) + ((nd t : Nat) : Int) = ((cntN nd (t + 1) : Nat) : Int) by rw [cntN]; omega]
      refine w_istore1 d183_18 rfl ?_
      refine w_iinc2 d183_19 rfl (by constructor <;> omega) ?_
      refine w_goto d183_22 ?_
      refine w_less ?_ (IH4 _ (by omega) (t + 1) rfl (by omega))
      exact ⟨Or.inr rfl, Or.inr rfl, Or.inr rfl, trivial⟩
  refine w_less ?_ (L4 _ 0 rfl (by omega))
  exact ⟨Or.inr rfl, Or.inr rfl, Or.inr rfl, trivial⟩
theorem d184_0 : dc 184 0 = some (.iconst 0, 1) := by decide +kernel
theorem d184_1 : dc 184 1 = some (.istore_n 1, 2) := by decide +kernel
theorem d184_2 : dc 184 2 = some (.iconst 0, 3) := by decide +kernel
theorem d184_3 : dc 184 3 = some (.istore_n 2, 4) := by decide +kernel
theorem d184_4 : dc 184 4 = some (.iload_n 2, 5) := by decide +kernel
theorem d184_5 : dc 184 5 = some (.bipush 14, 7) := by decide +kernel
theorem d184_7 : dc 184 7 = some (.if_icmp .ge ((33 : Nat) : Int), 10) := by decide +kernel
theorem d184_10 : dc 184 10 = some (.iload_n 1, 11) := by decide +kernel
theorem d184_11 : dc 184 11 = some (.aload_n 0, 12) := by decide +kernel
theorem d184_12 : dc 184 12 = some (.dload 774, 15) := by decide +kernel
theorem d184_15 : dc 184 15 = some (.iload_n 2, 16) := by decide +kernel
theorem d184_16 : dc 184 16 = some (.iaload, 17) := by decide +kernel
theorem d184_17 : dc 184 17 = some (.ifCond .eq ((24 : Nat) : Int), 20) := by decide +kernel
theorem d184_20 : dc 184 20 = some (.iconst 1, 21) := by decide +kernel
theorem d184_21 : dc 184 21 = some (.goto ((25 : Nat) : Int), 24) := by decide +kernel
theorem d184_24 : dc 184 24 = some (.iconst 0, 25) := by decide +kernel
theorem d184_25 : dc 184 25 = some (.iadd, 26) := by decide +kernel
theorem d184_26 : dc 184 26 = some (.istore_n 1, 27) := by decide +kernel
theorem d184_27 : dc 184 27 = some (.iinc 2 1, 30) := by decide +kernel
theorem d184_30 : dc 184 30 = some (.goto ((4 : Nat) : Int), 33) := by decide +kernel
theorem d184_33 : dc 184 33 = some (.iload_n 1, 34) := by decide +kernel
theorem d184_34 : dc 184 34 = some (.ireturn, 35) := by decide +kernel
theorem k_Se_doneCount {S : Shp} {G : Nat → Option Nat} {d : Nat} {h : Hp} {Q : Option MV → Hp → Prop} {x : Nat}  (ok : Ok S h) (h1 : 0 ≤ d) (hx : sK S x = 7) {r : RunV} (rc : RunC S h x r)
    (kk : Q (some (vI (cntD (rE r) 14 : Nat))) h) : Cl G d 184 [vR (some x)] h Q := by
  show Wp G d 184 0 [some (vR (some x)), none, none] [] h Q
  obtain ⟨d774, d775, d776, d777, d778, d780, d781, d782, d784, dl⟩ := id rc
  refine w_iconst d184_0 (by decide) ?_
  refine w_istore1 d184_1 rfl ?_
  refine w_iconst d184_2 (by decide) ?_
  refine w_istore2 d184_3 rfl ?_
  have L4 : ∀ (m4 : Nat) (t : Nat), 14 - t = m4 → (t ≤ 14) → Wp G d 184 4 [some (vR (some x)), some (vI (cntD (rE r) t : Nat)), some (vI (t : Nat))] [] h Q := by
    intro m4
    induction m4 using Nat.strongRecOn with | ind m4 IH4 => ?_
    intro t hm4 i1
    have cl := cntD_le (f := rE r) (n := t)
    refine w_iload_n d184_4 rfl ?_
    refine w_bipush d184_5 (by decide) ?_
    refine w_icmpge d184_7 (fun c7 => ?_) (fun c7 => ?_)
    · refine w_iload_n d184_33 rfl ?_
      refine w_ireturn d184_34 ?_
      rw [show t = 14 by omega]
      exact kk
    · refine w_iload_n d184_10 rfl ?_
      refine w_aload_n d184_11 rfl ?_
      refine w_dloadS d184_12 (ok.kd hx) (fr774 ok hx) ?_
      refine w_iload_n d184_15 rfl ?_
      refine w_ialoadV (x := ((rE r t : Nat) : Int)) d184_16 (gi774 ok hx (by omega)) (d774 t (by omega)) ?_
      refine w_ifeq d184_17 (fun c17 => ?_) (fun c17 => ?_)
      · refine w_iconst d184_24 (by decide) ?_
        refine w_iadd d184_25 (by constructor <;> omega) ?_
        rw [show ((cntD (rE r) t : Nat) : Int) + 0 = ((cntD (rE r) (t + 1) : Nat) : Int) by rw [cntD, if_pos (show rE r t = 0 by omega)]; omega]
        refine w_istore1 d184_26 rfl ?_
        refine w_iinc2 d184_27 rfl (by constructor <;> omega) ?_
        refine w_goto d184_30 ?_
        refine w_less ?_ (IH4 _ (by omega) (t + 1) rfl (by omega))
        exact ⟨Or.inr rfl, Or.inr rfl, Or.inr rfl, trivial⟩
      · refine w_iconst d184_20 (by decide) ?_
        refine w_goto d184_21 ?_
        refine w_iadd d184_25 (by constructor <;> omega) ?_
        rw [show ((cntD (rE r) t : Nat) : Int) + 1 = ((cntD (rE r) (t + 1) : Nat) : Int) by rw [cntD, if_neg (show ¬ rE r t = 0 by omega)]; omega]
        refine w_istore1 d184_26 rfl ?_
        refine w_iinc2 d184_27 rfl (by constructor <;> omega) ?_
        refine w_goto d184_30 ?_
        refine w_less ?_ (IH4 _ (by omega) (t + 1) rfl (by omega))
        exact ⟨Or.inr rfl, Or.inr rfl, Or.inr rfl, trivial⟩
  refine w_less ?_ (L4 _ 0 rfl (by omega))
  exact ⟨Or.inr rfl, Or.inr rfl, Or.inr rfl, trivial⟩
theorem d148_0 : dc 148 0 = some (.iconst 0, 1) := by decide +kernel
theorem d148_1 : dc 148 1 = some (.istore_n 2, 2) := by decide +kernel
theorem d148_2 : dc 148 2 = some (.iload_n 2, 3) := by decide +kernel
theorem d148_3 : dc 148 3 = some (.bipush 14, 5) := by decide +kernel
theorem d148_5 : dc 148 5 = some (.if_icmp .ge ((82 : Nat) : Int), 8) := by decide +kernel
theorem d148_8 : dc 148 8 = some (.aload_n 0, 9) := by decide +kernel
theorem d148_9 : dc 148 9 = some (.dload 774, 12) := by decide +kernel
theorem d148_12 : dc 148 12 = some (.iload_n 2, 13) := by decide +kernel
theorem d148_13 : dc 148 13 = some (.iaload, 14) := by decide +kernel
theorem d148_14 : dc 148 14 = some (.iconst 1, 15) := by decide +kernel
theorem d148_15 : dc 148 15 = some (.if_icmp .ne ((76 : Nat) : Int), 18) := by decide +kernel
theorem d148_18 : dc 148 18 = some (.aload_n 0, 19) := by decide +kernel
theorem d148_19 : dc 148 19 = some (.dload 769, 22) := by decide +kernel
theorem d148_22 : dc 148 22 = some (.dload 896, 25) := by decide +kernel
theorem d148_25 : dc 148 25 = some (.iload_n 2, 26) := by decide +kernel
theorem d148_26 : dc 148 26 = some (.aaload, 27) := by decide +kernel
theorem d148_27 : dc 148 27 = some (.astore_n 3, 28) := by decide +kernel
theorem d148_28 : dc 148 28 = some (.aload_n 1, 29) := by decide +kernel
theorem d148_29 : dc 148 29 = some (.dload 896, 32) := by decide +kernel
theorem d148_32 : dc 148 32 = some (.iload_n 2, 33) := by decide +kernel
theorem d148_33 : dc 148 33 = some (.aaload, 34) := by decide +kernel
theorem d148_34 : dc 148 34 = some (.astore 4, 36) := by decide +kernel
theorem d148_36 : dc 148 36 = some (.aload 4, 38) := by decide +kernel
theorem d148_38 : dc 148 38 = some (.getfield 256, 41) := by decide +kernel
theorem d148_41 : dc 148 41 = some (.ifCond .eq ((74 : Nat) : Int), 44) := by decide +kernel
theorem d148_44 : dc 148 44 = some (.aload_n 3, 45) := by decide +kernel
theorem d148_45 : dc 148 45 = some (.dload 257, 48) := by decide +kernel
theorem d148_48 : dc 148 48 = some (.aload 4, 50) := by decide +kernel
theorem d148_50 : dc 148 50 = some (.dload 257, 53) := by decide +kernel
theorem d148_53 : dc 148 53 = some (.invokevirtual 141, 56) := by decide +kernel
theorem d148_56 : dc 148 56 = some (.ifCond .eq ((74 : Nat) : Int), 59) := by decide +kernel
theorem d148_59 : dc 148 59 = some (.aload_n 3, 60) := by decide +kernel
theorem d148_60 : dc 148 60 = some (.dload 258, 63) := by decide +kernel
theorem d148_63 : dc 148 63 = some (.aload 4, 65) := by decide +kernel
theorem d148_65 : dc 148 65 = some (.dload 258, 68) := by decide +kernel
theorem d148_68 : dc 148 68 = some (.invokevirtual 141, 71) := by decide +kernel
theorem d148_71 : dc 148 71 = some (.ifCond .ne ((76 : Nat) : Int), 74) := by decide +kernel
theorem d148_74 : dc 148 74 = some (.iload_n 2, 75) := by decide +kernel
theorem d148_75 : dc 148 75 = some (.ireturn, 76) := by decide +kernel
theorem d148_76 : dc 148 76 = some (.iinc 2 1, 79) := by decide +kernel
theorem d148_79 : dc 148 79 = some (.goto ((2 : Nat) : Int), 82) := by decide +kernel
theorem d148_82 : dc 148 82 = some (.iconst (-1), 83) := by decide +kernel
theorem d148_83 : dc 148 83 = some (.ireturn, 84) := by decide +kernel
theorem k_Se_lowestUnlike {S : Shp} {G : Nat → Option Nat} {d : Nat} {h : Hp} {Q : Option MV → Hp → Prop} {x : Nat} {s : Nat}  (ok : Ok S h) (h1 : 3 ≤ d) (hx : sK S x = 7) (hs : sK S s = 8) {r : RunV} (rc : RunC S h x r) {pu pv : Nat → OutV} {pp pq : Nat → List Int64} (ps : PutC S h (sT S 769 x) pu pp) (qs : PutC S h s pv pq)
    (kk : Q (some (vI (srF (unlB (rE r) pu pv) 14 0))) h) : Cl G d 148 [vR (some x), vR (some s)] h Q := by
  show Wp G d 148 0 [some (vR (some x)), some (vR (some s)), none, none, none] [] h Q
  obtain ⟨d774, d775, d776, d777, d778, d780, d781, d782, d784, dl⟩ := id rc
  refine w_iconst d148_0 (by decide) ?_
  refine w_istore2 d148_1 rfl ?_
  have L2 : ∀ (m2 : Nat) (t : Nat), 14 - t = m2 → (t ≤ 14) → (srF (unlB (rE r) pu pv) 14 0 = srF (unlB (rE r) pu pv) 14 t) → Wp G d 148 2 [some (vR (some x)), some (vR (some s)), some (vI (t : Nat)), none, none] [] h Q := by
    intro m2
    induction m2 using Nat.strongRecOn with | ind m2 IH2 => ?_
    intro t hm2 i1 i2
    refine w_iload_n d148_2 rfl ?_
    refine w_bipush d148_3 (by decide) ?_
    refine w_icmpge d148_5 (fun c5 => ?_) (fun c5 => ?_)
    · refine w_iconst d148_82 (by decide) ?_
      refine w_ireturn d148_83 ?_
      rw [i2, srF_end (by omega)] at kk
      exact kk
    · obtain ⟨⟨a1, a2, a3, a4, a5⟩, -⟩ := ps t (by omega)
      obtain ⟨⟨b1, b2, b3, b4, b5⟩, -⟩ := qs t (by omega)
      refine w_aload_n d148_8 rfl ?_
      refine w_dloadS d148_9 (ok.kd hx) (fr774 ok hx) ?_
      refine w_iload_n d148_12 rfl ?_
      refine w_ialoadV (x := ((rE r t : Nat) : Int)) d148_13 (gi774 ok hx (by omega)) (d774 t (by omega)) ?_
      refine w_iconst d148_14 (by decide) ?_
      refine w_icmpne d148_15 (fun c15 => ?_) (fun c15 => ?_)
      · have nu : unlB (rE r) pu pv t = false := decide_eq_false (fun z => by omega)
        refine w_iinc2 d148_76 rfl (by constructor <;> omega) ?_
        refine w_goto d148_79 ?_
        refine w_less ?_ (IH2 _ (by omega) (t + 1) rfl (by omega) (by rw [i2, srF_no (by omega) nu]))
        exact ⟨Or.inr rfl, Or.inr rfl, Or.inr rfl, Or.inl rfl, Or.inl rfl, trivial⟩
      · refine w_aload_n d148_18 rfl ?_
        refine w_dloadS d148_19 (ok.kd hx) (fr769 ok hx) ?_
        refine w_dloadS d148_22 (ok.kd (kT769 ok hx)) (fr896 ok (kT769 ok hx)) ?_
        refine w_iload_n d148_25 rfl ?_
        have k26 := kE896 ok (kT769 ok hx) (j := t) (by omega)
        refine w_aaloadSN d148_26 (gi896 ok (kT769 ok hx) (by omega)) (er896 ok (kT769 ok hx) (by omega)) ?_
        refine w_astore3 d148_27 rfl ?_
        refine w_aload_n d148_28 rfl ?_
        refine w_dloadS d148_29 (ok.kd hs) (fr896 ok hs) ?_
        refine w_iload_n d148_32 rfl ?_
        have k33 := kE896 ok hs (j := t) (by omega)
        refine w_aaloadSN d148_33 (gi896 ok hs (by omega)) (er896 ok hs (by omega)) ?_
        refine w_astore4 d148_34 rfl ?_
        refine w_aload d148_36 rfl ?_
        refine w_getI (x := (b2i (pv t).1)) d148_38 (ok.kd k33) b1 ?_
        refine w_ifeq d148_41 (fun c41 => ?_) (fun c41 => ?_)
        · have bf : (pv t).1 = false := by cases z : (pv t).1 with
            | true => rw [z] at c41; exact absurd c41 (by decide)
            | false => rfl
          have yu : unlB (rE r) pu pv t = true := decide_eq_true ⟨by omega, Or.inl bf⟩
          refine w_iload_n d148_74 rfl ?_
          refine w_ireturn d148_75 ?_
          rw [i2, srF_yes (by omega) yu] at kk
          exact kk
        · have bt : (pv t).1 = true := by cases z : (pv t).1 with
            | true => rfl
            | false => rw [z] at c41; exact absurd rfl c41
          refine w_aload_n d148_44 rfl ?_
          refine w_dloadS d148_45 (ok.kd k26) (fr257 ok k26) ?_
          refine w_aload d148_48 rfl ?_
          refine w_dloadS d148_50 (ok.kd k33) (fr257 ok k33) ?_
          refine w_callv2 d148_53 (by omega) rfl (ok.kd (kT257 ok k26)) (by simp) (Nat.le_of_ble_eq_true rfl) ?_
          refine r_Row_sameAs (by omega) ok (kT257 ok k26) (kT257 ok k33) ?_
          rw [a2, b2]
          refine w_ifeq d148_56 (fun c56 => ?_) (fun c56 => ?_)
          · have yu : unlB (rE r) pu pv t = true := decide_eq_true ⟨by omega, Or.inr (Or.inl (fun z => by rw [if_pos z] at c56; exact absurd c56 (by decide)))⟩
            refine w_iload_n d148_74 rfl ?_
            refine w_ireturn d148_75 ?_
            rw [i2, srF_yes (by omega) yu] at kk
            exact kk
          · have so : oO (pu t) = oO (pv t) := by
              by_cases z : oO (pu t) = oO (pv t)
              · exact z
              · rw [if_neg z] at c56; exact absurd rfl c56
            refine w_aload_n d148_59 rfl ?_
            refine w_dloadS d148_60 (ok.kd k26) (fr258 ok k26) ?_
            refine w_aload d148_63 rfl ?_
            refine w_dloadS d148_65 (ok.kd k33) (fr258 ok k33) ?_
            refine w_callv2 d148_68 (by omega) rfl (ok.kd (kT258 ok k26)) (by simp) (Nat.le_of_ble_eq_true rfl) ?_
            refine r_Row_sameAs (by omega) ok (kT258 ok k26) (kT258 ok k33) ?_
            rw [a3, b3]
            refine w_ifne d148_71 (fun c71 => ?_) (fun c71 => ?_)
            · have sf : oF (pu t) = oF (pv t) := by
                by_cases z : oF (pu t) = oF (pv t)
                · exact z
                · rw [if_neg z] at c71; exact absurd rfl c71
              have nu : unlB (rE r) pu pv t = false := decide_eq_false (fun z => by rcases z.2 with q | q | q; rw [bt] at q; exact absurd q (by decide); exact q so; exact q sf)
              refine w_iinc2 d148_76 rfl (by constructor <;> omega) ?_
              refine w_goto d148_79 ?_
              refine w_less ?_ (IH2 _ (by omega) (t + 1) rfl (by omega) (by rw [i2, srF_no (by omega) nu]))
              exact ⟨Or.inr rfl, Or.inr rfl, Or.inr rfl, Or.inl rfl, Or.inl rfl, trivial⟩
            · have yu : unlB (rE r) pu pv t = true := decide_eq_true ⟨by omega, Or.inr (Or.inr (fun z => by rw [if_pos z] at c71; exact absurd c71 (by decide)))⟩
              refine w_iload_n d148_74 rfl ?_
              refine w_ireturn d148_75 ?_
              rw [i2, srF_yes (by omega) yu] at kk
              exact kk
  refine w_less ?_ (L2 _ 0 rfl (by omega) rfl)
  exact ⟨Or.inr rfl, Or.inr rfl, Or.inr rfl, Or.inl rfl, Or.inl rfl, trivial⟩
theorem d174_0 : dc 174 0 = some (.iconst 0, 1) := by decide +kernel
theorem d174_1 : dc 174 1 = some (.istore_n 3, 2) := by decide +kernel
theorem d174_2 : dc 174 2 = some (.iload_n 3, 3) := by decide +kernel
theorem d174_3 : dc 174 3 = some (.aload_n 0, 4) := by decide +kernel
theorem d174_4 : dc 174 4 = some (.getfield 780, 7) := by decide +kernel
theorem d174_7 : dc 174 7 = some (.if_icmp .ge ((36 : Nat) : Int), 10) := by decide +kernel
theorem d174_10 : dc 174 10 = some (.aload_n 2, 11) := by decide +kernel
theorem d174_11 : dc 174 11 = some (.aload_n 1, 12) := by decide +kernel
theorem d174_12 : dc 174 12 = some (.aload_n 0, 13) := by decide +kernel
theorem d174_13 : dc 174 13 = some (.dload 779, 16) := by decide +kernel
theorem d174_16 : dc 174 16 = some (.iload_n 3, 17) := by decide +kernel
theorem d174_17 : dc 174 17 = some (.iaload, 18) := by decide +kernel
theorem d174_18 : dc 174 18 = some (.invokevirtual 136, 21) := by decide +kernel
theorem d174_21 : dc 174 21 = some (.invokevirtual 104, 24) := by decide +kernel
theorem d174_24 : dc 174 24 = some (.aload_n 2, 25) := by decide +kernel
theorem d174_25 : dc 174 25 = some (.bipush 59, 27) := by decide +kernel
theorem d174_27 : dc 174 27 = some (.invokevirtual 15, 30) := by decide +kernel
theorem d174_30 : dc 174 30 = some (.iinc 3 1, 33) := by decide +kernel
theorem d174_33 : dc 174 33 = some (.goto ((2 : Nat) : Int), 36) := by decide +kernel
theorem d174_36 : dc 174 36 = some (.return_, 37) := by decide +kernel
theorem k_Se_tellRuns {S : Shp} {G : Nat → Option Nat} {d : Nat} {h : Hp} {Q : Option MV → Hp → Prop} {x : Nat} {p : Nat} {r0 : Nat}  (ok : Ok S h) (h1 : 3 ≤ d) (hx : sK S x = 7) (hp : sK S p = 4) (hr0 : sK S r0 = 6) {r : RunV} (rc : RunC S h x r) {ts : List (Bool × TgV)} (tc : TsC S h p ts) (hru : ∀ i, i < (rR r).length → (rR r).getD i 0 < ts.length) (hxr : ¬ U S x r0) (hpr : ¬ U S p r0)
    (kk : ∀ h', Mo S (fun y => y = r0) h h' → rl h' r0 = addBs (cap h r0) (rl h r0) (runT ts (rR r) (rR r).length) → cap h' r0 = cap h r0 → Q none h') : Cl G d 174 [vR (some x), vR (some p), vR (some r0)] h Q := by
  show Wp G d 174 0 [some (vR (some x)), some (vR (some p)), some (vR (some r0)), none] [] h Q
  obtain ⟨d774, d775, d776, d777, d778, d780, d781, d782, d784, dl⟩ := id rc
  have nxr : x ≠ r0 := fun z => hxr (z ▸ U_refl)
  have nTr : ∀ f, f < 4096 → sT S f x ≠ r0 := fun f hf z => hxr (z ▸ ok.so.uT hf U_refl)
  have k779 := kT779 ok hx
  refine w_iconst d174_0 (by decide) ?_
  refine w_istore3 d174_1 rfl ?_
  have L2 : ∀ (m2 : Nat) (g : Hp) (i : Nat), (rR r).length - i = m2 → Mo S (fun x => x = r0) h g → (i ≤ (rR r).length) → (rl g r0 = addBs (cap h r0) (rl h r0) (runT ts (rR r) i)) → (cap g r0 = cap h r0) → Wp G d 174 2 [some (vR (some x)), some (vR (some p)), some (vR (some r0)), some (vI (i : Nat))] [] g Q := by
    intro m2
    induction m2 using Nat.strongRecOn with | ind m2 IH2 => ?_
    intro g i hm2 Mg i1 i2 i3
    have okg := Mg.ok
    have tcg := tc.mo ok Mg hp (fun y u z => hpr (z ▸ u))
    refine w_iload_n d174_2 rfl ?_
    refine w_aload_n d174_3 rfl ?_
    refine w_getI (x := (((rR r).length : Nat) : Int)) d174_4 (okg.kd hx) ((Mg.fi ok (by omega) nxr 780).trans d780.1) ?_
    refine w_icmpge d174_7 (fun c7 => ?_) (fun c7 => ?_)
    · refine w_return d174_36 ?_
      exact kk g Mg (by rw [i2, show i = (rR r).length by omega]) i3
    · have hi := hru i (by omega)
      have on := tc.okn _ hi
      refine w_aload_n d174_10 rfl ?_
      refine w_aload_n d174_11 rfl ?_
      refine w_aload_n d174_12 rfl ?_
      refine w_dloadS d174_13 (okg.kd hx) (fr779 okg hx) ?_
      refine w_iload_n d174_16 rfl ?_
      refine w_ialoadV (x := (((rR r).getD i 0 : Nat) : Int)) d174_17 (gi779 okg hx (by omega)) ((congrFun (Mg.ai ok (by omega) (nTr 779 (by decide))) i).trans (d780.2.2 i (by omega))) ?_
      refine w_callv2 d174_18 (by omega) rfl (okg.kd hp) (by simp) (Nat.le_of_ble_eq_true rfl) ?_
      refine k_Plan_nameOf okg (by omega) hp tcg ?_
      rw [if_pos ⟨by omega, by omega⟩]
      refine w_callv2 d174_21 (by omega) rfl (okg.kd hr0) (by simp) (Nat.le_of_ble_eq_true rfl) ?_
      refine r_Row_addName (by omega) okg hr0 (fun h21 m21 e21_1 e21_2 => ?_)
      have ok21 := m21.ok
      have M21 := Mo.tr ok Mg m21 (fun x e => e)
      refine w_aload_n d174_24 rfl ?_
      refine w_bipush d174_25 (by decide) ?_
      refine w_callv2 d174_27 (by omega) rfl (ok21.kd hr0) (by simp) (Nat.le_of_ble_eq_true rfl) ?_
      refine r_Row_add ok21 hr0 (fun h27 m27 e27_1 e27_2 => ?_)
      have ok27 := m27.ok
      have M27 := Mo.tr ok M21 m27 (fun x e => e)
      refine w_iinc3 d174_30 rfl (by constructor <;> omega) ?_
      refine w_goto d174_33 ?_
      refine w_less ?_ (IH2 _ (by omega) h27 (i + 1) rfl M27 (by omega) (by rw [e27_1, e21_1, e21_2, i3, i2, addBs3, addBs3, runT]; show _ = addBs _ _ (_ ++ (_ ++ _)); rw [show nmB (hd (tgN (tD ts ((((rR r).getD i 0 : Nat) : Int)).toNat))) 8 = tgN (tD ts ((rR r).getD i 0)) from nm_hd on]; first | done | rfl | simp) (by rw [e27_2, e21_2, i3]))
      exact ⟨Or.inr rfl, Or.inr rfl, Or.inr rfl, Or.inr rfl, trivial⟩
  have M0_ := Mo.refl (A := (fun x => x = r0)) ok
  refine w_less ?_ (L2 _ h 0 rfl M0_ (by omega) rfl rfl)
  exact ⟨Or.inr rfl, Or.inr rfl, Or.inr rfl, Or.inr rfl, trivial⟩
theorem d175_0 : dc 175 0 = some (.iconst 0, 1) := by decide +kernel
theorem d175_1 : dc 175 1 = some (.istore_n 2, 2) := by decide +kernel
theorem d175_2 : dc 175 2 = some (.iload_n 2, 3) := by decide +kernel
theorem d175_3 : dc 175 3 = some (.aload_n 0, 4) := by decide +kernel
theorem d175_4 : dc 175 4 = some (.dload 781, 7) := by decide +kernel
theorem d175_7 : dc 175 7 = some (.arraylength, 8) := by decide +kernel
theorem d175_8 : dc 175 8 = some (.if_icmp .ge ((37 : Nat) : Int), 11) := by decide +kernel
theorem d175_11 : dc 175 11 = some (.iload_n 2, 12) := by decide +kernel
theorem d175_12 : dc 175 12 = some (.ifCond .le ((21 : Nat) : Int), 15) := by decide +kernel
theorem d175_15 : dc 175 15 = some (.aload_n 1, 16) := by decide +kernel
theorem d175_16 : dc 175 16 = some (.bipush 32, 18) := by decide +kernel
theorem d175_18 : dc 175 18 = some (.invokevirtual 15, 21) := by decide +kernel
theorem d175_21 : dc 175 21 = some (.aload_n 1, 22) := by decide +kernel
theorem d175_22 : dc 175 22 = some (.aload_n 0, 23) := by decide +kernel
theorem d175_23 : dc 175 23 = some (.dload 781, 26) := by decide +kernel
theorem d175_26 : dc 175 26 = some (.iload_n 2, 27) := by decide +kernel
theorem d175_27 : dc 175 27 = some (.iaload, 28) := by decide +kernel
theorem d175_28 : dc 175 28 = some (.invokevirtual 124, 31) := by decide +kernel
theorem d175_31 : dc 175 31 = some (.iinc 2 1, 34) := by decide +kernel
theorem d175_34 : dc 175 34 = some (.goto ((2 : Nat) : Int), 37) := by decide +kernel
theorem d175_37 : dc 175 37 = some (.return_, 38) := by decide +kernel
theorem k_Se_tellWork {S : Shp} {G : Nat → Option Nat} {d : Nat} {h : Hp} {Q : Option MV → Hp → Prop} {x : Nat} {r0 : Nat}  (ok : Ok S h) (h1 : 3 ≤ d) (hx : sK S x = 7) (hr0 : sK S r0 = 6) {r : RunV} (rc : RunC S h x r) (hxr : ¬ U S x r0)
    (kk : ∀ h', Mo S (fun y => y = r0) h h' → rl h' r0 = addBs (cap h r0) (rl h r0) (wkTx (rC r) 3) → cap h' r0 = cap h r0 → Q none h') : Cl G d 175 [vR (some x), vR (some r0)] h Q := by
  show Wp G d 175 0 [some (vR (some x)), some (vR (some r0)), none] [] h Q
  obtain ⟨d774, d775, d776, d777, d778, d780, d781, d782, d784, dl⟩ := id rc
  have nxr : x ≠ r0 := fun z => hxr (z ▸ U_refl)
  have nTr : ∀ f, f < 4096 → sT S f x ≠ r0 := fun f hf z => hxr (z ▸ ok.so.uT hf U_refl)
  have k781 := kT781 ok hx
  have cr := fun i => ra781 ok hx i
  refine w_iconst d175_0 (by decide) ?_
  refine w_istore2 d175_1 rfl ?_
  have L2 : ∀ (m2 : Nat) (g : Hp) (i : Nat), 3 - i = m2 → Mo S (fun x => x = r0) h g → (i ≤ 3) → (rl g r0 = addBs (cap h r0) (rl h r0) (wkTx (rC r) i)) → (cap g r0 = cap h r0) → Wp G d 175 2 [some (vR (some x)), some (vR (some r0)), some (vI (i : Nat))] [] g Q := by
    intro m2
    induction m2 using Nat.strongRecOn with | ind m2 IH2 => ?_
    intro g i hm2 Mg i1 i2 i3
    have okg := Mg.ok
    refine w_iload_n d175_2 rfl ?_
    refine w_aload_n d175_3 rfl ?_
    refine w_dloadS d175_4 (okg.kd hx) (fr781 okg hx) ?_
    refine wl781 d175_7 okg hx ?_
    refine w_icmpge d175_8 (fun c8 => ?_) (fun c8 => ?_)
    · refine w_return d175_37 ?_
      exact kk g Mg (by rw [i2, show i = 3 by omega]) i3
    · have ci := cr i
      rw [d781 i (by omega)] at ci
      refine w_iload_n d175_11 rfl ?_
      refine w_ifle d175_12 (fun c12 => ?_) (fun c12 => ?_)
      · have p0 : ¬ 0 < i := by omega
        refine w_aload_n d175_21 rfl ?_
        refine w_aload_n d175_22 rfl ?_
        refine w_dloadS d175_23 (okg.kd hx) (fr781 okg hx) ?_
        refine w_iload_n d175_26 rfl ?_
        refine w_ialoadV (x := ((rC r i : Nat) : Int)) d175_27 (gi781 okg hx (by omega)) ((congrFun (Mg.ai ok (by omega) (nTr 781 (by decide))) i).trans (d781 i (by omega))) ?_
        refine w_callv2 d175_28 (by omega) rfl (okg.kd hr0) (by simp) (Nat.le_of_ble_eq_true rfl) ?_
        refine r_Row_addNumber (by omega) okg hr0 (by omega) (fun h28 m28 e28_1 e28_2 => ?_)
        have ok28 := m28.ok
        have M28 := Mo.tr ok Mg m28 (fun x e => e)
        refine w_iinc2 d175_31 rfl (by constructor <;> omega) ?_
        refine w_goto d175_34 ?_
        refine w_less ?_ (IH2 _ (by omega) h28 (i + 1) rfl M28 (by omega) (by rw [e28_1, i3, i2]; simp only [addBs3]; rw [wkTx]; (first | rw [if_pos p0] | rw [if_neg p0]); first | done | rfl | simp [List.append_assoc]) (by rw [e28_2, i3]))
        exact ⟨Or.inr rfl, Or.inr rfl, Or.inr rfl, trivial⟩
      · have p0 : 0 < i := by omega
        refine w_aload_n d175_15 rfl ?_
        refine w_bipush d175_16 (by decide) ?_
        refine w_callv2 d175_18 (by omega) rfl (okg.kd hr0) (by simp) (Nat.le_of_ble_eq_true rfl) ?_
        refine r_Row_add okg hr0 (fun h18 m18 e18_1 e18_2 => ?_)
        have ok18 := m18.ok
        have M18 := Mo.tr ok Mg m18 (fun x e => e)
        refine w_aload_n d175_21 rfl ?_
        refine w_aload_n d175_22 rfl ?_
        refine w_dloadS d175_23 (ok18.kd hx) (fr781 ok18 hx) ?_
        refine w_iload_n d175_26 rfl ?_
        refine w_ialoadV (x := ((rC r i : Nat) : Int)) d175_27 (gi781 ok18 hx (by omega)) ((congrFun (M18.ai ok (by omega) (nTr 781 (by decide))) i).trans (d781 i (by omega))) ?_
        refine w_callv2 d175_28 (by omega) rfl (ok18.kd hr0) (by simp) (Nat.le_of_ble_eq_true rfl) ?_
        refine r_Row_addNumber (by omega) ok18 hr0 (by omega) (fun h28 m28 e28_1 e28_2 => ?_)
        have ok28 := m28.ok
        have M28 := Mo.tr ok M18 m28 (fun x e => e)
        refine w_iinc2 d175_31 rfl (by constructor <;> omega) ?_
        refine w_goto d175_34 ?_
        refine w_less ?_ (IH2 _ (by omega) h28 (i + 1) rfl M28 (by omega) (by rw [e28_1, e18_1, e18_2, i3, i2]; simp only [addBs3]; rw [wkTx]; (first | rw [if_pos p0] | rw [if_neg p0]); first | done | rfl | simp [List.append_assoc]) (by rw [e28_2, e18_2, i3]))
        exact ⟨Or.inr rfl, Or.inr rfl, Or.inr rfl, trivial⟩
  have M0_ := Mo.refl (A := (fun x => x = r0)) ok
  refine w_less ?_ (L2 _ h 0 rfl M0_ (by omega) rfl rfl)
  exact ⟨Or.inr rfl, Or.inr rfl, Or.inr rfl, trivial⟩
theorem d135_0 : dc 135 0 = some (.aload_n 0, 1) := by decide +kernel
theorem d135_1 : dc 135 1 = some (.getfield 771, 4) := by decide +kernel
theorem d135_4 : dc 135 4 = some (.ifCond .eq ((16 : Nat) : Int), 7) := by decide +kernel
theorem d135_7 : dc 135 7 = some (.aload_n 2, 8) := by decide +kernel
theorem d135_8 : dc 135 8 = some (.getstatic 55, 10) := by decide +kernel
theorem d135_10 : dc 135 10 = some (.invokevirtual 84, 13) := by decide +kernel
theorem d135_13 : dc 135 13 = some (.goto ((64 : Nat) : Int), 16) := by decide +kernel
theorem d135_16 : dc 135 16 = some (.aload_n 0, 17) := by decide +kernel
theorem d135_17 : dc 135 17 = some (.getfield 782, 20) := by decide +kernel
theorem d135_20 : dc 135 20 = some (.ifCond .ge ((32 : Nat) : Int), 23) := by decide +kernel
theorem d135_23 : dc 135 23 = some (.aload_n 2, 24) := by decide +kernel
theorem d135_24 : dc 135 24 = some (.getstatic 56, 26) := by decide +kernel
theorem d135_26 : dc 135 26 = some (.invokevirtual 84, 29) := by decide +kernel
theorem d135_29 : dc 135 29 = some (.goto ((64 : Nat) : Int), 32) := by decide +kernel
theorem d135_32 : dc 135 32 = some (.aload_n 2, 33) := by decide +kernel
theorem d135_33 : dc 135 33 = some (.getstatic 57, 35) := by decide +kernel
theorem d135_35 : dc 135 35 = some (.invokevirtual 84, 38) := by decide +kernel
theorem d135_38 : dc 135 38 = some (.aload_n 2, 39) := by decide +kernel
theorem d135_39 : dc 135 39 = some (.aload_n 1, 40) := by decide +kernel
theorem d135_40 : dc 135 40 = some (.aload_n 0, 41) := by decide +kernel
theorem d135_41 : dc 135 41 = some (.getfield 782, 44) := by decide +kernel
theorem d135_44 : dc 135 44 = some (.invokevirtual 136, 47) := by decide +kernel
theorem d135_47 : dc 135 47 = some (.invokevirtual 104, 50) := by decide +kernel
theorem d135_50 : dc 135 50 = some (.aload_n 2, 51) := by decide +kernel
theorem d135_51 : dc 135 51 = some (.getstatic 58, 53) := by decide +kernel
theorem d135_53 : dc 135 53 = some (.invokevirtual 84, 56) := by decide +kernel
theorem d135_56 : dc 135 56 = some (.aload_n 2, 57) := by decide +kernel
theorem d135_57 : dc 135 57 = some (.aload_n 0, 58) := by decide +kernel
theorem d135_58 : dc 135 58 = some (.dload 784, 61) := by decide +kernel
theorem d135_61 : dc 135 61 = some (.invokevirtual 109, 64) := by decide +kernel
theorem d135_64 : dc 135 64 = some (.return_, 65) := by decide +kernel
theorem k_Se_tellEnd {S : Shp} {G : Nat → Option Nat} {d : Nat} {h : Hp} {Q : Option MV → Hp → Prop} {x : Nat} {p : Nat} {r0 : Nat}  (ok : Ok S h) (h1 : 5 ≤ d) (hx : sK S x = 7) (hp : sK S p = 4) (hr0 : sK S r0 = 6) (tg : Tg S G) {r : RunV} (rc : RunC S h x r) {g0 : Bool} (hg : FI h 771 x = b2i g0) {ts : List (Bool × TgV)} (tc : TsC S h p ts) (hf : rF r < ts.length) (hxr : ¬ U S x r0) (hpr : ¬ U S p r0)
    (kk : ∀ h', Mo S (fun y => y = r0) h h' → rl h' r0 = addBs (cap h r0) (rl h r0) (endT ts g0 (rF r) (rT r)) → cap h' r0 = cap h r0 → Q none h') : Cl G d 135 [vR (some x), vR (some p), vR (some r0)] h Q := by
  show Wp G d 135 0 [some (vR (some x)), some (vR (some p)), some (vR (some r0))] [] h Q
  obtain ⟨d774, d775, d776, d777, d778, d780, d781, d782, d784, dl⟩ := id rc
  have nxr : x ≠ r0 := fun z => hxr (z ▸ U_refl)
  have nTr : ∀ f, f < 4096 → sT S f x ≠ r0 := fun f hf z => hxr (z ▸ ok.so.uT hf U_refl)
  have k784 := kT784 ok hx
  refine w_aload_n d135_0 rfl ?_
  refine w_getI (x := (b2i g0)) d135_1 (ok.kd hx) hg ?_
  refine w_ifeq d135_4 (fun c4 => ?_) (fun c4 => ?_)
  · have g1 : ¬ g0 = true := fun z => by rw [z] at c4; exact absurd c4 (by decide)
    refine w_aload_n d135_16 rfl ?_
    refine w_getI (x := (rF r)) d135_17 (ok.kd hx) d782 ?_
    refine w_ifge d135_20 (fun c20 => ?_) (fun c20 => ?_)
    · have f1 : ¬ rF r < 0 := by omega
      obtain ⟨u, hu⟩ : ∃ u : Nat, rF r = u := ⟨(rF r).toNat, (Int.toNat_of_nonneg (by omega)).symm⟩
      have on := tc.okn u (by omega)
      refine w_aload_n d135_32 rfl ?_
      obtain ⟨g33, v33, s33⟩ := tg.tx ok 7 (by decide)
      refine w_getstaticS d135_33 v33 ?_
      refine w_callv2 d135_35 (by omega) rfl (ok.kd hr0) (by simp) (Nat.le_of_ble_eq_true rfl) ?_
      refine r_Row_addText (by omega) ok hr0 s33 (fun h35 m35 e35_1 e35_2 => ?_)
      have ok35 := m35.ok
      have M35 := Mo.tr ok (Mo.refl (A := (fun x => x = r0)) ok) m35 (fun x e => e)
      refine w_aload_n d135_38 rfl ?_
      refine w_aload_n d135_39 rfl ?_
      refine w_aload_n d135_40 rfl ?_
      refine w_getI (x := (rF r)) d135_41 (ok35.kd hx) ((M35.fi ok (by omega) nxr 782).trans d782) ?_
      refine w_callv2 d135_44 (by omega) rfl (ok35.kd hp) (by simp) (Nat.le_of_ble_eq_true rfl) ?_
      have tcg := tc.mo ok M35 hp (fun y u z => hpr (z ▸ u))
      refine k_Plan_nameOf ok35 (by omega) hp tcg ?_
      rw [if_pos ⟨by omega, by omega⟩]
      refine w_callv2 d135_47 (by omega) rfl (ok35.kd hr0) (by simp) (Nat.le_of_ble_eq_true rfl) ?_
      refine r_Row_addName (by omega) ok35 hr0 (fun h47 m47 e47_1 e47_2 => ?_)
      have ok47 := m47.ok
      have M47 := Mo.tr ok M35 m47 (fun x e => e)
      refine w_aload_n d135_50 rfl ?_
      obtain ⟨g51, v51, s51⟩ := tg.tx ok47 8 (by decide)
      refine w_getstaticS d135_51 v51 ?_
      refine w_callv2 d135_53 (by omega) rfl (ok47.kd hr0) (by simp) (Nat.le_of_ble_eq_true rfl) ?_
      refine r_Row_addText (by omega) ok47 hr0 s51 (fun h53 m53 e53_1 e53_2 => ?_)
      have ok53 := m53.ok
      have M53 := Mo.tr ok M47 m53 (fun x e => e)
      refine w_aload_n d135_56 rfl ?_
      refine w_aload_n d135_57 rfl ?_
      refine w_dloadS d135_58 (ok53.kd hx) (fr784 ok53 hx) ?_
      refine w_callv2 d135_61 (by omega) rfl (ok53.kd hr0) (by simp) (Nat.le_of_ble_eq_true rfl) ?_
      refine r_Row_addRow (by omega) ok53 hr0 (kT784 ok53 hx) (nTr 784 (by decide)) (fun h61 m61 e61_1 e61_2 => ?_)
      have ok61 := m61.ok
      have M61 := Mo.tr ok M53 m61 (fun x e => e)
      refine w_return d135_64 ?_
      unfold endT at kk
      first
      | (rw [if_pos g1] at kk; exact kk h10 M10 e10_1 e10_2)
      | (rw [if_neg g1, if_pos f1] at kk; exact kk h26 M26 e26_1 e26_2)
      | (rw [if_neg g1, if_neg f1] at kk; refine kk h61 M61 ?_ (by rw [e61_2, e53_2, e47_2, e35_2]); rw [e61_1, e53_1, e53_2, e47_1, e47_2, e35_1, e35_2, addBs3, addBs3, addBs3, show rl h53 (sT S 784 x) = rT r from (M53.rb ok k784 (nTr 784 (by decide))).trans d784, show nmB (hd (tgN (tD ts (rF r).toNat))) 8 = tgN (tD ts (rF r).toNat) from (by rw [hu]; exact nm_hd on)]; first | done | rfl | simp [List.append_assoc])
    · have f1 : rF r < 0 := by omega
      refine w_aload_n d135_23 rfl ?_
      obtain ⟨g24, v24, s24⟩ := tg.tx ok 6 (by decide)
      refine w_getstaticS d135_24 v24 ?_
      refine w_callv2 d135_26 (by omega) rfl (ok.kd hr0) (by simp) (Nat.le_of_ble_eq_true rfl) ?_
      refine r_Row_addText (by omega) ok hr0 s24 (fun h26 m26 e26_1 e26_2 => ?_)
      have ok26 := m26.ok
      have M26 := Mo.tr ok (Mo.refl (A := (fun x => x = r0)) ok) m26 (fun x e => e)
      refine w_goto d135_29 ?_
      refine w_return d135_64 ?_
      unfold endT at kk
      first
      | (rw [if_pos g1] at kk; exact kk h10 M10 e10_1 e10_2)
      | (rw [if_neg g1, if_pos f1] at kk; exact kk h26 M26 e26_1 e26_2)
      | (rw [if_neg g1, if_neg f1] at kk; refine kk h61 M61 ?_ (by rw [e61_2, e53_2, e47_2, e35_2]); rw [e61_1, e53_1, e53_2, e47_1, e47_2, e35_1, e35_2, addBs3, addBs3, addBs3, show rl h53 (sT S 784 x) = rT r from (M53.rb ok k784 (nTr 784 (by decide))).trans d784, show nmB (hd (tgN (tD ts (rF r).toNat))) 8 = tgN (tD ts (rF r).toNat) from (by rw [hu]; exact nm_hd on)]; first | done | rfl | simp [List.append_assoc])
  · have g1 : g0 = true := by cases z : g0 with
      | true => rfl
      | false => rw [z] at c4; exact absurd rfl c4
    refine w_aload_n d135_7 rfl ?_
    obtain ⟨g8, v8, s8⟩ := tg.tx ok 5 (by decide)
    refine w_getstaticS d135_8 v8 ?_
    refine w_callv2 d135_10 (by omega) rfl (ok.kd hr0) (by simp) (Nat.le_of_ble_eq_true rfl) ?_
    refine r_Row_addText (by omega) ok hr0 s8 (fun h10 m10 e10_1 e10_2 => ?_)
    have ok10 := m10.ok
    have M10 := Mo.tr ok (Mo.refl (A := (fun x => x = r0)) ok) m10 (fun x e => e)
    refine w_goto d135_13 ?_
    refine w_return d135_64 ?_
    unfold endT at kk
    first
    | (rw [if_pos g1] at kk; exact kk h10 M10 e10_1 e10_2)
    | (rw [if_neg g1, if_pos f1] at kk; exact kk h26 M26 e26_1 e26_2)
    | (rw [if_neg g1, if_neg f1] at kk; refine kk h61 M61 ?_ (by rw [e61_2, e53_2, e47_2, e35_2]); rw [e61_1, e53_1, e53_2, e47_1, e47_2, e35_1, e35_2, addBs3, addBs3, addBs3, show rl h53 (sT S 784 x) = rT r from (M53.rb ok k784 (nTr 784 (by decide))).trans d784, show nmB (hd (tgN (tD ts (rF r).toNat))) 8 = tgN (tD ts (rF r).toNat) from (by rw [hu]; exact nm_hd on)]; first | done | rfl | simp [List.append_assoc])
