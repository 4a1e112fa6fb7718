/-! a plan: what it holds, what is looked for in it -/
def fP (l : List (List Nat × List Nat)) (i : Nat) : List Nat := (l.getD i ([], [])).1
def fB (l : List (List Nat × List Nat)) (i : Nat) : List Nat := (l.getD i ([], [])).2
def gN (l : List (List Nat × Nat)) (i : Nat) : List Nat := (l.getD i ([], 0)).1
def gK (l : List (List Nat × Nat)) (i : Nat) : Nat := (l.getD i ([], 0)).2
def tH (l : List (Bool × TgV)) (i : Nat) : Bool := (l.getD i (false, ([], [], [], [], [], 0))).1
def tD (l : List (Bool × TgV)) (i : Nat) : TgV := (l.getD i (false, ([], [], [], [], [], 0))).2
/-- inputs as they are told -/
def inTxt (v : InV) : List Nat := if v.1 then 58 :: v.2 else v.2
def insTxt : List InV → List Nat
  | [] => []
  | [v] => inTxt v
  | v :: w :: l => inTxt v ++ 44 :: insTxt (w :: l)
def tgTxt (t : TgV) : List Nat := tgN t ++ 61 :: tgR t ++ (if tgW t = [] then [] else 46 :: tgW t) ++ 40 :: insTxt (tgI t) ++ 41 :: (if tgC t = [] then [] else 63 :: tgC t ++ 61 :: dec (tgK t))
/-- a target that was let in -/
def tgOk (t : TgV) : Prop := tgN t ≠ [] ∧ 0 ≤ rix (tgR t) ∧ (rix (tgR t) = 4 ↔ tgW t ≠ [])
def FilC (S : Shp) (h : Hp) (p : Nat) (fl : List (List Nat × List Nat)) : Prop := ∃ σ : Nat → Nat, (∀ i, i < 16 → σ i < 16 ∧ AR h (sT S 387 p) i = some (sE S (sT S 387 p) (σ i))) ∧ (∀ i j, i < 16 → j < 16 → σ i = σ j → i = j) ∧ FI h 384 p = fl.length ∧ fl.length ≤ 16 ∧
  ∀ i, i < fl.length → AL h (sT S 385 p) i = hd (fP fl i) ∧ AL h (sT S 386 p) i = tl (fP fl i) ∧ rl h (sE S (sT S 387 p) (σ i)) = fB fl i ∧ okP (fP fl i) ∧ (fB fl i).length ≤ 160
def GsC (S : Shp) (h : Hp) (p : Nat) (gs : List (List Nat × Nat)) : Prop := FI h 388 p = gs.length ∧ gs.length ≤ 6 ∧ ∀ i, i < gs.length → AL h (sT S 389 p) i = hd (gN gs i) ∧ AI h (sT S 390 p) i = (gK gs i : Nat) ∧ okN (gN gs i) ∧ gK gs i ≤ 9999
def TsC (S : Shp) (h : Hp) (p : Nat) (ts : List (Bool × TgV)) : Prop := FI h 391 p = ts.length ∧ ts.length ≤ 14 ∧ ∀ i, i < ts.length → FI h 128 (sE S (sT S 392 p) i) = b2i (tH ts i) ∧ DefC S h (sE S (sT S 392 p) i) (tD ts i) (tgTxt (tD ts i)) ∧ tgOk (tD ts i)
section FRAMES
variable {S : Shp} {h h' : Hp} {A : Nat → Prop} {p : Nat}
theorem FilC.mo {fl : List (List Nat × List Nat)} (ok : Ok S h) (m : Mo S A h h') (hp : sK S p = 4) (hA : ∀ y, U S p y → ¬ A y) (D : FilC S h p fl) : FilC S h' p fl := by
  obtain ⟨σ, s1, s2, d1, d2, d3⟩ := D
  have uT : ∀ f, f < 4096 → ¬ A (sT S f p) := fun f hf => hA _ (ok.so.uT hf U_refl)
  have k5 := kT385 ok hp
  have k6 := kT386 ok hp
  have k7 := kT387 ok hp
  refine ⟨σ, fun i hi => ⟨(s1 i hi).1, by rw [m.ar ok (by omega) (uT 387 (by decide))]; exact (s1 i hi).2⟩, s2, by rw [m.fi ok (by omega) (hA p U_refl) 384]; exact d1, d2, fun i hi => ?_⟩
  have k8 := kE387 ok hp (j := σ i) (s1 i (by omega)).1
  rw [m.al ok (by omega) (uT 385 (by decide)), m.al ok (by omega) (uT 386 (by decide)), m.rb ok k8 (hA _ (ok.so.uE (by have := (s1 i (by omega)).1; omega) (ok.so.uT (by decide) U_refl)))]
  exact d3 i hi
theorem GsC.mo {gs : List (List Nat × Nat)} (ok : Ok S h) (m : Mo S A h h') (hp : sK S p = 4) (hA : ∀ y, U S p y → ¬ A y) (D : GsC S h p gs) : GsC S h' p gs := by
  obtain ⟨d1, d2, d3⟩ := D
  have uT : ∀ f, f < 4096 → ¬ A (sT S f p) := fun f hf => hA _ (ok.so.uT hf U_refl)
  have k5 := kT389 ok hp
  have k6 := kT390 ok hp
  refine ⟨by rw [m.fi ok (by omega) (hA p U_refl) 388]; exact d1, d2, fun i hi => ?_⟩
  rw [m.al ok (by omega) (uT 389 (by decide)), m.ai ok (by omega) (uT 390 (by decide))]
  exact d3 i hi
theorem TsC.mo {ts : List (Bool × TgV)} (ok : Ok S h) (m : Mo S A h h') (hp : sK S p = 4) (hA : ∀ y, U S p y → ¬ A y) (D : TsC S h p ts) : TsC S h' p ts := by
  obtain ⟨d1, d2, d3⟩ := D
  refine ⟨by rw [m.fi ok (by omega) (hA p U_refl) 391]; exact d1, d2, fun i hi => ?_⟩
  have k := kE392 ok hp (j := i) (by omega)
  have u : U S p (sE S (sT S 392 p) i) := ok.so.uE (by omega) (ok.so.uT (by decide) U_refl)
  rw [m.fi ok (by omega) (hA _ u) 128]
  exact ⟨(d3 i hi).1, (d3 i hi).2.1.mo ok m k (fun y hy => hA y (U_trans u hy)), (d3 i hi).2.2⟩
end FRAMES
def fixJ (fl : List (List Nat × List Nat)) (x y : Int64) : Int := srF (fun i => hd (fP fl i) == x && tl (fP fl i) == y) fl.length 0
def fix (fl : List (List Nat × List Nat)) (n : List Nat) : Int := srF (fun i => fP fl i == n) fl.length 0
def gixJ (gs : List (List Nat × Nat)) (x : Int64) : Int := srF (fun i => hd (gN gs i) == x) gs.length 0
def gix (gs : List (List Nat × Nat)) (n : List Nat) : Int := srF (fun i => gN gs i == n) gs.length 0
def tixJ (ts : List (Bool × TgV)) (x : Int64) : Int := srF (fun i => hd (tgN (tD ts i)) == x) ts.length 0
def tix (ts : List (Bool × TgV)) (n : List Nat) : Int := srF (fun i => tgN (tD ts i) == n) ts.length 0
/-- the number, where it is there -/
def ifH (ts : List (Bool × TgV)) (t : Int) : Int := if 0 ≤ t ∧ tH ts t.toNat = true then t else -1
def tatJ (ts : List (Bool × TgV)) (x : Int64) : Int := ifH ts (tixJ ts x)
def tat (ts : List (Bool × TgV)) (n : List Nat) : Int := ifH ts (tix ts n)
theorem fixJ_eq {fl : List (List Nat × List Nat)} {n : List Nat} (hl : ∀ i, i < fl.length → okP (fP fl i)) (o : okP n) : fixJ fl (hd n) (tl n) = fix fl n := by
  refine srF_congr (fun i hi => ?_)
  have := ht_inj (hl i hi) o
  show (hd (fP fl i) == hd n && tl (fP fl i) == tl n) = (fP fl i == n)
  rw [Bool.eq_iff_iff]
  simp only [Bool.and_eq_true, beq_iff_eq]
  exact this
theorem gixJ_eq {gs : List (List Nat × Nat)} {n : List Nat} (hl : ∀ i, i < gs.length → okN (gN gs i)) (o : okN n) : gixJ gs (hd n) = gix gs n := by
  refine srF_congr (fun i hi => ?_)
  have := hd_inj (hl i hi) o
  show (hd (gN gs i) == hd n) = (gN gs i == n)
  rw [Bool.eq_iff_iff]
  simp only [Bool.and_eq_true, beq_iff_eq]
  exact this
theorem tixJ_eq {ts : List (Bool × TgV)} {n : List Nat} (hl : ∀ i, i < ts.length → okN (tgN (tD ts i))) (o : okN n) : tixJ ts (hd n) = tix ts n := by
  refine srF_congr (fun i hi => ?_)
  have := hd_inj (hl i hi) o
  show (hd (tgN (tD ts i)) == hd n) = (tgN (tD ts i) == n)
  rw [Bool.eq_iff_iff]
  simp only [Bool.and_eq_true, beq_iff_eq]
  exact this
theorem FilC.okp {S : Shp} {h : Hp} {p : Nat} {fl : List (List Nat × List Nat)} (D : FilC S h p fl) : ∀ i, i < fl.length → okP (fP fl i) := fun i hi => by
  obtain ⟨σ, s1, s2, d1, d2, d3⟩ := D
  exact (d3 i hi).2.2.2.1
theorem GsC.okn {S : Shp} {h : Hp} {p : Nat} {gs : List (List Nat × Nat)} (D : GsC S h p gs) : ∀ i, i < gs.length → okN (gN gs i) := fun i hi => (D.2.2 i hi).2.2.1
theorem TsC.okn {S : Shp} {h : Hp} {p : Nat} {ts : List (Bool × TgV)} (D : TsC S h p ts) : ∀ i, i < ts.length → okN (tgN (tD ts i)) := fun i hi => (D.2.2 i hi).2.1.2.2.2.2.2.2.2.2.2.1
theorem fixJ_rg (fl : List (List Nat × List Nat)) (x y : Int64) : -1 ≤ fixJ fl x y ∧ fixJ fl x y < fl.length := by
  rcases srF_rg (p := fun i => hd (fP fl i) == x && tl (fP fl i) == y) (n := fl.length) (i := 0) with e | ⟨j, -, j2, e, -⟩
  · unfold fixJ; omega
  · unfold fixJ; omega
theorem gixJ_rg (gs : List (List Nat × Nat)) (x : Int64) : -1 ≤ gixJ gs x ∧ gixJ gs x < gs.length := by
  rcases srF_rg (p := fun i => hd (gN gs i) == x) (n := gs.length) (i := 0) with e | ⟨j, -, j2, e, -⟩
  · unfold gixJ; omega
  · unfold gixJ; omega
theorem tixJ_rg (ts : List (Bool × TgV)) (x : Int64) : -1 ≤ tixJ ts x ∧ tixJ ts x < ts.length := by
  rcases srF_rg (p := fun i => hd (tgN (tD ts i)) == x) (n := ts.length) (i := 0) with e | ⟨j, -, j2, e, -⟩
  · unfold tixJ; omega
  · unfold tixJ; omega
theorem tatJ_rg (ts : List (Bool × TgV)) (x : Int64) : -1 ≤ tatJ ts x ∧ tatJ ts x < ts.length := by
  have := tixJ_rg ts x
  unfold tatJ ifH
  split <;> omega
/-- how many of the first n are there -/
def cntH (ts : List (Bool × TgV)) : Nat → Nat
  | 0 => 0
  | n + 1 => cntH ts n + (if tH ts n then 1 else 0)
theorem cntH_le (ts : List (Bool × TgV)) : ∀ n, cntH ts n ≤ n
  | 0 => Nat.le_refl _
  | n + 1 => by
    have := cntH_le ts n
    unfold cntH
    split <;> omega
theorem d69_0 : dc 69 0 = some (.iconst 0, 1) := by decide +kernel
theorem d69_1 : dc 69 1 = some (.istore 5, 3) := by decide +kernel
theorem d69_3 : dc 69 3 = some (.iload 5, 5) := by decide +kernel
theorem d69_5 : dc 69 5 = some (.aload_n 0, 6) := by decide +kernel
theorem d69_6 : dc 69 6 = some (.getfield 384, 9) := by decide +kernel
theorem d69_9 : dc 69 9 = some (.if_icmp .ge ((45 : Nat) : Int), 12) := by decide +kernel
theorem d69_12 : dc 69 12 = some (.aload_n 0, 13) := by decide +kernel
theorem d69_13 : dc 69 13 = some (.dload 385, 16) := by decide +kernel
theorem d69_16 : dc 69 16 = some (.iload 5, 18) := by decide +kernel
theorem d69_18 : dc 69 18 = some (.laload, 19) := by decide +kernel
theorem d69_19 : dc 69 19 = some (.lload_n 1, 20) := by decide +kernel
theorem d69_20 : dc 69 20 = some (.lcmp, 21) := by decide +kernel
theorem d69_21 : dc 69 21 = some (.ifCond .ne ((39 : Nat) : Int), 24) := by decide +kernel
theorem d69_24 : dc 69 24 = some (.aload_n 0, 25) := by decide +kernel
theorem d69_25 : dc 69 25 = some (.dload 386, 28) := by decide +kernel
theorem d69_28 : dc 69 28 = some (.iload 5, 30) := by decide +kernel
theorem d69_30 : dc 69 30 = some (.laload, 31) := by decide +kernel
theorem d69_31 : dc 69 31 = some (.lload_n 3, 32) := by decide +kernel
theorem d69_32 : dc 69 32 = some (.lcmp, 33) := by decide +kernel
theorem d69_33 : dc 69 33 = some (.ifCond .ne ((39 : Nat) : Int), 36) := by decide +kernel
theorem d69_36 : dc 69 36 = some (.iload 5, 38) := by decide +kernel
theorem d69_38 : dc 69 38 = some (.ireturn, 39) := by decide +kernel
theorem d69_39 : dc 69 39 = some (.iinc 5 1, 42) := by decide +kernel
theorem d69_42 : dc 69 42 = some (.goto ((3 : Nat) : Int), 45) := by decide +kernel
theorem d69_45 : dc 69 45 = some (.iconst (-1), 46) := by decide +kernel
theorem d69_46 : dc 69 46 = some (.ireturn, 47) := by decide +kernel
theorem k_Plan_fileAt {S : Shp} {G : Nat → Option Nat} {d : Nat} {h : Hp} {Q : Option MV → Hp → Prop} {p : Nat} {x : Int64} {y : Int64}  (ok : Ok S h) (h1 : 0 ≤ d) (hp : sK S p = 4) {fl : List (List Nat × List Nat)} (fc : FilC S h p fl)
    (kk : Q (some (vI (fixJ fl x y))) h) : Cl G d 69 [vR (some p), vJ x, vJ y] h Q := by
  show Wp G d 69 0 [some (vR (some p)), some (vJ x), none, some (vJ y), none, none] [] h Q
  obtain ⟨σ, s1, s2, q1, q2, q3⟩ := fc
  refine w_iconst d69_0 (by decide) ?_
  refine w_istore5 d69_1 rfl ?_
  have L3 : ∀ (m3 : Nat) (i : Nat), fl.length - i = m3 → (i ≤ fl.length) → (srF (fun i => hd (fP fl i) == x && tl (fP fl i) == y) fl.length 0 = srF (fun i => hd (fP fl i) == x && tl (fP fl i) == y) fl.length i) → Wp G d 69 3 [some (vR (some p)), some (vJ x), none, some (vJ y), none, some (vI (i : Nat))] [] h Q := by
    intro m3
    induction m3 using Nat.strongRecOn with | ind m3 IH3 => ?_
    intro i hm3 i1 i2
    refine w_iload d69_3 rfl ?_
    refine w_aload_n d69_5 rfl ?_
    refine w_getI (x := (fl.length : Int)) d69_6 (ok.kd hp) q1 ?_
    refine w_icmpge d69_9 (fun c9 => ?_) (fun c9 => ?_)
    · refine w_iconst d69_45 (by decide) ?_
      refine w_ireturn d69_46 ?_
      unfold fixJ at kk
      rw [i2, srF_end (by omega)] at kk
      exact kk
    · have hi : i < fl.length := by omega
      obtain ⟨a1, a2, a3⟩ := q3 i hi
      refine w_aload_n d69_12 rfl ?_
      refine w_dloadS d69_13 (ok.kd hp) (fr385 ok hp) ?_
      refine w_iload d69_16 rfl ?_
      refine w_laloadV (x := (hd (fP fl i))) d69_18 (gi385 ok hp (by omega)) a1 ?_
      refine w_lload_n d69_19 rfl ?_
      refine w_lcmp d69_20 ?_
      refine w_ifne d69_21 (fun c21 => ?_) (fun c21 => ?_)
      · have z : (hd (fP fl i) == x && tl (fP fl i) == y) = false := by simp; intro q; exact absurd (lcmp0.mpr q) c21
        refine w_iinc5 d69_39 rfl (by constructor <;> omega) ?_
        refine w_goto d69_42 ?_
        refine w_less ?_ (IH3 _ (by omega) (i + 1) rfl (by omega) (by rw [i2, srF_no hi z]))
        exact ⟨Or.inr rfl, Or.inr rfl, Or.inl rfl, Or.inr rfl, Or.inl rfl, Or.inr rfl, trivial⟩
      · have z1 := lcmp0.mp c21
        refine w_aload_n d69_24 rfl ?_
        refine w_dloadS d69_25 (ok.kd hp) (fr386 ok hp) ?_
        refine w_iload d69_28 rfl ?_
        refine w_laloadV (x := (tl (fP fl i))) d69_30 (gi386 ok hp (by omega)) a2 ?_
        refine w_lload_n d69_31 rfl ?_
        refine w_lcmp d69_32 ?_
        refine w_ifne d69_33 (fun c33 => ?_) (fun c33 => ?_)
        · have z : (hd (fP fl i) == x && tl (fP fl i) == y) = false := by simp; intro _ q; exact absurd (lcmp0.mpr q) c33
          refine w_iinc5 d69_39 rfl (by constructor <;> omega) ?_
          refine w_goto d69_42 ?_
          refine w_less ?_ (IH3 _ (by omega) (i + 1) rfl (by omega) (by rw [i2, srF_no hi z]))
          exact ⟨Or.inr rfl, Or.inr rfl, Or.inl rfl, Or.inr rfl, Or.inl rfl, Or.inr rfl, trivial⟩
        · have z : (hd (fP fl i) == x && tl (fP fl i) == y) = true := by simp [z1, lcmp0.mp c33]
          refine w_iload d69_36 rfl ?_
          refine w_ireturn d69_38 ?_
          unfold fixJ at kk
          rw [i2, srF_yes hi z] at kk
          exact kk
  refine w_less ?_ (L3 _ 0 rfl (by omega) rfl)
  exact ⟨Or.inr rfl, Or.inr rfl, Or.inl rfl, Or.inr rfl, Or.inl rfl, Or.inr rfl, trivial⟩
theorem d70_0 : dc 70 0 = some (.iconst 0, 1) := by decide +kernel
theorem d70_1 : dc 70 1 = some (.istore_n 3, 2) := by decide +kernel
theorem d70_2 : dc 70 2 = some (.iload_n 3, 3) := by decide +kernel
theorem d70_3 : dc 70 3 = some (.aload_n 0, 4) := by decide +kernel
theorem d70_4 : dc 70 4 = some (.getfield 388, 7) := by decide +kernel
theorem d70_7 : dc 70 7 = some (.if_icmp .ge ((29 : Nat) : Int), 10) := by decide +kernel
theorem d70_10 : dc 70 10 = some (.aload_n 0, 11) := by decide +kernel
theorem d70_11 : dc 70 11 = some (.dload 389, 14) := by decide +kernel
theorem d70_14 : dc 70 14 = some (.iload_n 3, 15) := by decide +kernel
theorem d70_15 : dc 70 15 = some (.laload, 16) := by decide +kernel
theorem d70_16 : dc 70 16 = some (.lload_n 1, 17) := by decide +kernel
theorem d70_17 : dc 70 17 = some (.lcmp, 18) := by decide +kernel
theorem d70_18 : dc 70 18 = some (.ifCond .ne ((23 : Nat) : Int), 21) := by decide +kernel
theorem d70_21 : dc 70 21 = some (.iload_n 3, 22) := by decide +kernel
theorem d70_22 : dc 70 22 = some (.ireturn, 23) := by decide +kernel
theorem d70_23 : dc 70 23 = some (.iinc 3 1, 26) := by decide +kernel
theorem d70_26 : dc 70 26 = some (.goto ((2 : Nat) : Int), 29) := by decide +kernel
theorem d70_29 : dc 70 29 = some (.iconst (-1), 30) := by decide +kernel
theorem d70_30 : dc 70 30 = some (.ireturn, 31) := by decide +kernel
theorem k_Plan_flagAt {S : Shp} {G : Nat → Option Nat} {d : Nat} {h : Hp} {Q : Option MV → Hp → Prop} {p : Nat} {x : Int64}  (ok : Ok S h) (h1 : 0 ≤ d) (hp : sK S p = 4) {gs : List (List Nat × Nat)} (gc : GsC S h p gs)
    (kk : Q (some (vI (gixJ gs x))) h) : Cl G d 70 [vR (some p), vJ x] h Q := by
  show Wp G d 70 0 [some (vR (some p)), some (vJ x), none, none] [] h Q
  obtain ⟨q1, q2, q3⟩ := gc
  refine w_iconst d70_0 (by decide) ?_
  refine w_istore3 d70_1 rfl ?_
  have L2 : ∀ (m2 : Nat) (i : Nat), gs.length - i = m2 → (i ≤ gs.length) → (srF (fun i => hd (gN gs i) == x) gs.length 0 = srF (fun i => hd (gN gs i) == x) gs.length i) → Wp G d 70 2 [some (vR (some p)), some (vJ x), none, some (vI (i : Nat))] [] h Q := by
    intro m2
    induction m2 using Nat.strongRecOn with | ind m2 IH2 => ?_
    intro i hm2 i1 i2
    refine w_iload_n d70_2 rfl ?_
    refine w_aload_n d70_3 rfl ?_
    refine w_getI (x := (gs.length : Int)) d70_4 (ok.kd hp) q1 ?_
    refine w_icmpge d70_7 (fun c7 => ?_) (fun c7 => ?_)
    · refine w_iconst d70_29 (by decide) ?_
      refine w_ireturn d70_30 ?_
      unfold gixJ at kk
      rw [i2, srF_end (by omega)] at kk
      exact kk
    · have hi : i < gs.length := by omega
      obtain ⟨a1, a2, a3⟩ := q3 i hi
      refine w_aload_n d70_10 rfl ?_
      refine w_dloadS d70_11 (ok.kd hp) (fr389 ok hp) ?_
      refine w_iload_n d70_14 rfl ?_
      refine w_laloadV (x := (hd (gN gs i))) d70_15 (gi389 ok hp (by omega)) a1 ?_
      refine w_lload_n d70_16 rfl ?_
      refine w_lcmp d70_17 ?_
      refine w_ifne d70_18 (fun c18 => ?_) (fun c18 => ?_)
      · have z : (hd (gN gs i) == x) = false := by simp; intro q; exact absurd (lcmp0.mpr q) c18
        refine w_iinc3 d70_23 rfl (by constructor <;> omega) ?_
        refine w_goto d70_26 ?_
        refine w_less ?_ (IH2 _ (by omega) (i + 1) rfl (by omega) (by rw [i2, srF_no hi z]))
        exact ⟨Or.inr rfl, Or.inr rfl, Or.inl rfl, Or.inr rfl, trivial⟩
      · have z : (hd (gN gs i) == x) = true := by simp [lcmp0.mp c18]
        refine w_iload_n d70_21 rfl ?_
        refine w_ireturn d70_22 ?_
        unfold gixJ at kk
        rw [i2, srF_yes hi z] at kk
        exact kk
  refine w_less ?_ (L2 _ 0 rfl (by omega) rfl)
  exact ⟨Or.inr rfl, Or.inr rfl, Or.inl rfl, Or.inr rfl, trivial⟩
theorem d74_0 : dc 74 0 = some (.iconst 0, 1) := by decide +kernel
theorem d74_1 : dc 74 1 = some (.istore_n 3, 2) := by decide +kernel
theorem d74_2 : dc 74 2 = some (.iload_n 3, 3) := by decide +kernel
theorem d74_3 : dc 74 3 = some (.aload_n 0, 4) := by decide +kernel
theorem d74_4 : dc 74 4 = some (.getfield 391, 7) := by decide +kernel
theorem d74_7 : dc 74 7 = some (.if_icmp .ge ((32 : Nat) : Int), 10) := by decide +kernel
theorem d74_10 : dc 74 10 = some (.aload_n 0, 11) := by decide +kernel
theorem d74_11 : dc 74 11 = some (.dload 392, 14) := by decide +kernel
theorem d74_14 : dc 74 14 = some (.iload_n 3, 15) := by decide +kernel
theorem d74_15 : dc 74 15 = some (.aaload, 16) := by decide +kernel
theorem d74_16 : dc 74 16 = some (.fload 129, 19) := by decide +kernel
theorem d74_19 : dc 74 19 = some (.lload_n 1, 20) := by decide +kernel
theorem d74_20 : dc 74 20 = some (.lcmp, 21) := by decide +kernel
theorem d74_21 : dc 74 21 = some (.ifCond .ne ((26 : Nat) : Int), 24) := by decide +kernel
theorem d74_24 : dc 74 24 = some (.iload_n 3, 25) := by decide +kernel
theorem d74_25 : dc 74 25 = some (.ireturn, 26) := by decide +kernel
theorem d74_26 : dc 74 26 = some (.iinc 3 1, 29) := by decide +kernel
theorem d74_29 : dc 74 29 = some (.goto ((2 : Nat) : Int), 32) := by decide +kernel
theorem d74_32 : dc 74 32 = some (.iconst (-1), 33) := by decide +kernel
theorem d74_33 : dc 74 33 = some (.ireturn, 34) := by decide +kernel
theorem k_Plan_numberOf {S : Shp} {G : Nat → Option Nat} {d : Nat} {h : Hp} {Q : Option MV → Hp → Prop} {p : Nat} {x : Int64}  (ok : Ok S h) (h1 : 0 ≤ d) (hp : sK S p = 4) {ts : List (Bool × TgV)} (tc : TsC S h p ts)
    (kk : Q (some (vI (tixJ ts x))) h) : Cl G d 74 [vR (some p), vJ x] h Q := by
  show Wp G d 74 0 [some (vR (some p)), some (vJ x), none, none] [] h Q
  obtain ⟨q1, q2, q3⟩ := tc
  refine w_iconst d74_0 (by decide) ?_
  refine w_istore3 d74_1 rfl ?_
  have L2 : ∀ (m2 : Nat) (i : Nat), ts.length - i = m2 → (i ≤ ts.length) → (srF (fun i => hd (tgN (tD ts i)) == x) ts.length 0 = srF (fun i => hd (tgN (tD ts i)) == x) ts.length i) → Wp G d 74 2 [some (vR (some p)), some (vJ x), none, some (vI (i : Nat))] [] h Q := by
    intro m2
    induction m2 using Nat.strongRecOn with | ind m2 IH2 => ?_
    intro i hm2 i1 i2
    refine w_iload_n d74_2 rfl ?_
    refine w_aload_n d74_3 rfl ?_
    refine w_getI (x := (ts.length : Int)) d74_4 (ok.kd hp) q1 ?_
    refine w_icmpge d74_7 (fun c7 => ?_) (fun c7 => ?_)
    · refine w_iconst d74_32 (by decide) ?_
      refine w_ireturn d74_33 ?_
      unfold tixJ at kk
      rw [i2, srF_end (by omega)] at kk
      exact kk
    · have hi : i < ts.length := by omega
      obtain ⟨a1, a2, a3⟩ := q3 i hi
      refine w_aload_n d74_10 rfl ?_
      refine w_dloadS d74_11 (ok.kd hp) (fr392 ok hp) ?_
      refine w_iload_n d74_14 rfl ?_
      have k15 := kE392 ok hp (j := i) (by omega)
      refine w_aaloadSN d74_15 (gi392 ok hp (by omega)) (er392 ok hp (by omega)) ?_
      refine w_floadV (x := (hd (tgN (tD ts i)))) d74_16 (ok.kd k15) a2.1 ?_
      refine w_lload_n d74_19 rfl ?_
      refine w_lcmp d74_20 ?_
      refine w_ifne d74_21 (fun c21 => ?_) (fun c21 => ?_)
      · have z : (hd (tgN (tD ts i)) == x) = false := by simp; intro q; exact absurd (lcmp0.mpr q) c21
        refine w_iinc3 d74_26 rfl (by constructor <;> omega) ?_
        refine w_goto d74_29 ?_
        refine w_less ?_ (IH2 _ (by omega) (i + 1) rfl (by omega) (by rw [i2, srF_no hi z]))
        exact ⟨Or.inr rfl, Or.inr rfl, Or.inl rfl, Or.inr rfl, trivial⟩
      · have z : (hd (tgN (tD ts i)) == x) = true := by simp [lcmp0.mp c21]
        refine w_iload_n d74_24 rfl ?_
        refine w_ireturn d74_25 ?_
        unfold tixJ at kk
        rw [i2, srF_yes hi z] at kk
        exact kk
  refine w_less ?_ (L2 _ 0 rfl (by omega) rfl)
  exact ⟨Or.inr rfl, Or.inr rfl, Or.inl rfl, Or.inr rfl, trivial⟩
theorem d79_0 : dc 79 0 = some (.iconst 0, 1) := by decide +kernel
theorem d79_1 : dc 79 1 = some (.istore_n 3, 2) := by decide +kernel
theorem d79_2 : dc 79 2 = some (.iload_n 3, 3) := by decide +kernel
theorem d79_3 : dc 79 3 = some (.aload_n 0, 4) := by decide +kernel
theorem d79_4 : dc 79 4 = some (.getfield 391, 7) := by decide +kernel
theorem d79_7 : dc 79 7 = some (.if_icmp .ge ((48 : Nat) : Int), 10) := by decide +kernel
theorem d79_10 : dc 79 10 = some (.aload_n 0, 11) := by decide +kernel
theorem d79_11 : dc 79 11 = some (.dload 392, 14) := by decide +kernel
theorem d79_14 : dc 79 14 = some (.iload_n 3, 15) := by decide +kernel
theorem d79_15 : dc 79 15 = some (.aaload, 16) := by decide +kernel
theorem d79_16 : dc 79 16 = some (.fload 129, 19) := by decide +kernel
theorem d79_19 : dc 79 19 = some (.lload_n 1, 20) := by decide +kernel
theorem d79_20 : dc 79 20 = some (.lcmp, 21) := by decide +kernel
theorem d79_21 : dc 79 21 = some (.ifCond .ne ((42 : Nat) : Int), 24) := by decide +kernel
theorem d79_24 : dc 79 24 = some (.aload_n 0, 25) := by decide +kernel
theorem d79_25 : dc 79 25 = some (.dload 392, 28) := by decide +kernel
theorem d79_28 : dc 79 28 = some (.iload_n 3, 29) := by decide +kernel
theorem d79_29 : dc 79 29 = some (.aaload, 30) := by decide +kernel
theorem d79_30 : dc 79 30 = some (.getfield 128, 33) := by decide +kernel
theorem d79_33 : dc 79 33 = some (.ifCond .eq ((40 : Nat) : Int), 36) := by decide +kernel
theorem d79_36 : dc 79 36 = some (.iload_n 3, 37) := by decide +kernel
theorem d79_37 : dc 79 37 = some (.goto ((41 : Nat) : Int), 40) := by decide +kernel
theorem d79_40 : dc 79 40 = some (.iconst (-1), 41) := by decide +kernel
theorem d79_41 : dc 79 41 = some (.ireturn, 42) := by decide +kernel
theorem d79_42 : dc 79 42 = some (.iinc 3 1, 45) := by decide +kernel
theorem d79_45 : dc 79 45 = some (.goto ((2 : Nat) : Int), 48) := by decide +kernel
theorem d79_48 : dc 79 48 = some (.iconst (-1), 49) := by decide +kernel
theorem d79_49 : dc 79 49 = some (.ireturn, 50) := by decide +kernel
theorem k_Plan_targetAt {S : Shp} {G : Nat → Option Nat} {d : Nat} {h : Hp} {Q : Option MV → Hp → Prop} {p : Nat} {x : Int64}  (ok : Ok S h) (h1 : 0 ≤ d) (hp : sK S p = 4) {ts : List (Bool × TgV)} (tc : TsC S h p ts)
    (kk : Q (some (vI (tatJ ts x))) h) : Cl G d 79 [vR (some p), vJ x] h Q := by
  show Wp G d 79 0 [some (vR (some p)), some (vJ x), none, none] [] h Q
  obtain ⟨q1, q2, q3⟩ := tc
  refine w_iconst d79_0 (by decide) ?_
  refine w_istore3 d79_1 rfl ?_
  have L2 : ∀ (m2 : Nat) (i : Nat), ts.length - i = m2 → (i ≤ ts.length) → (srF (fun i => hd (tgN (tD ts i)) == x) ts.length 0 = srF (fun i => hd (tgN (tD ts i)) == x) ts.length i) → Wp G d 79 2 [some (vR (some p)), some (vJ x), none, some (vI (i : Nat))] [] h Q := by
    intro m2
    induction m2 using Nat.strongRecOn with | ind m2 IH2 => ?_
    intro i hm2 i1 i2
    refine w_iload_n d79_2 rfl ?_
    refine w_aload_n d79_3 rfl ?_
    refine w_getI (x := (ts.length : Int)) d79_4 (ok.kd hp) q1 ?_
    refine w_icmpge d79_7 (fun c7 => ?_) (fun c7 => ?_)
    · refine w_iconst d79_48 (by decide) ?_
      refine w_ireturn d79_49 ?_
      unfold tatJ tixJ at kk
      rw [i2, srF_end (by omega)] at kk
      exact kk
    · have hi : i < ts.length := by omega
      obtain ⟨a1, a2, a3⟩ := q3 i hi
      refine w_aload_n d79_10 rfl ?_
      refine w_dloadS d79_11 (ok.kd hp) (fr392 ok hp) ?_
      refine w_iload_n d79_14 rfl ?_
      have k15 := kE392 ok hp (j := i) (by omega)
      refine w_aaloadSN d79_15 (gi392 ok hp (by omega)) (er392 ok hp (by omega)) ?_
      refine w_floadV (x := (hd (tgN (tD ts i)))) d79_16 (ok.kd k15) a2.1 ?_
      refine w_lload_n d79_19 rfl ?_
      refine w_lcmp d79_20 ?_
      refine w_ifne d79_21 (fun c21 => ?_) (fun c21 => ?_)
      · have z : (hd (tgN (tD ts i)) == x) = false := by simp; intro q; exact absurd (lcmp0.mpr q) c21
        refine w_iinc3 d79_42 rfl (by constructor <;> omega) ?_
        refine w_goto d79_45 ?_
        refine w_less ?_ (IH2 _ (by omega) (i + 1) rfl (by omega) (by rw [i2, srF_no hi z]))
        exact ⟨Or.inr rfl, Or.inr rfl, Or.inl rfl, Or.inr rfl, trivial⟩
      · have z : (hd (tgN (tD ts i)) == x) = true := by simp [lcmp0.mp c21]
        refine w_aload_n d79_24 rfl ?_
        refine w_dloadS d79_25 (ok.kd hp) (fr392 ok hp) ?_
        refine w_iload_n d79_28 rfl ?_
        have k29 := kE392 ok hp (j := i) (by omega)
        refine w_aaloadSN d79_29 (gi392 ok hp (by omega)) (er392 ok hp (by omega)) ?_
        refine w_getI (x := (b2i (tH ts i))) d79_30 (ok.kd k29) a1 ?_
        refine w_ifeq d79_33 (fun c33 => ?_) (fun c33 => ?_)
        · have b := b2i_f.mp c33
          refine w_iconst d79_40 (by decide) ?_
          refine w_ireturn d79_41 ?_
          unfold tatJ tixJ at kk
          rw [i2, srF_yes hi z] at kk
          refine qI ?_ kk
          unfold ifH
          rw [if_neg]
          intro q
          rw [show ((i : Nat) : Int).toNat = i from rfl, b] at q
          exact absurd q.2 (by decide)
        · have b : tH ts i = true := by cases q : tH ts i <;> simp_all [b2i]
          refine w_iload_n d79_36 rfl ?_
          refine w_goto d79_37 ?_
          refine w_ireturn d79_41 ?_
          unfold tatJ tixJ at kk
          rw [i2, srF_yes hi z] at kk
          refine qI ?_ kk
          unfold ifH
          rw [if_pos ⟨by omega, b⟩]
  refine w_less ?_ (L2 _ 0 rfl (by omega) rfl)
  exact ⟨Or.inr rfl, Or.inr rfl, Or.inl rfl, Or.inr rfl, trivial⟩
theorem d73_0 : dc 73 0 = some (.aload_n 0, 1) := by decide +kernel
theorem d73_1 : dc 73 1 = some (.lload_n 1, 2) := by decide +kernel
theorem d73_2 : dc 73 2 = some (.invokevirtual 74, 5) := by decide +kernel
theorem d73_5 : dc 73 5 = some (.ifCond .ge ((21 : Nat) : Int), 8) := by decide +kernel
theorem d73_8 : dc 73 8 = some (.aload_n 0, 9) := by decide +kernel
theorem d73_9 : dc 73 9 = some (.getfield 391, 12) := by decide +kernel
theorem d73_12 : dc 73 12 = some (.bipush 14, 14) := by decide +kernel
theorem d73_14 : dc 73 14 = some (.if_icmp .lt ((21 : Nat) : Int), 17) := by decide +kernel
theorem d73_17 : dc 73 17 = some (.iconst 1, 18) := by decide +kernel
theorem d73_18 : dc 73 18 = some (.goto ((22 : Nat) : Int), 21) := by decide +kernel
theorem d73_21 : dc 73 21 = some (.iconst 0, 22) := by decide +kernel
theorem d73_22 : dc 73 22 = some (.freturn, 23) := by decide +kernel
theorem k_Plan_hasNoRoom {S : Shp} {G : Nat → Option Nat} {d : Nat} {h : Hp} {Q : Option MV → Hp → Prop} {p : Nat} {x : Int64}  (ok : Ok S h) (h1 : 1 ≤ d) (hp : sK S p = 4) {ts : List (Bool × TgV)} (tc : TsC S h p ts)
    (kk : Q (some (vI (if tixJ ts x < 0 ∧ 14 ≤ ts.length then 1 else 0))) h) : Cl G d 73 [vR (some p), vJ x] h Q := by
  show Wp G d 73 0 [some (vR (some p)), some (vJ x), none] [] h Q
  refine w_aload_n d73_0 rfl ?_
  refine w_lload_n d73_1 rfl ?_
  refine w_callv2 d73_2 (by omega) rfl (ok.kd hp) (by simp) (Nat.le_of_ble_eq_true rfl) ?_
  refine k_Plan_numberOf ok (by omega) hp tc ?_
  refine w_ifge d73_5 (fun c5 => ?_) (fun c5 => ?_)
  · refine w_iconst d73_21 (by decide) ?_
    refine w_zreturn d73_22 (by decide) ?_
    refine qI ?_ kk
    split <;> omega
  · refine w_aload_n d73_8 rfl ?_
    refine w_getI (x := (ts.length : Int)) d73_9 (ok.kd hp) tc.1 ?_
    refine w_bipush d73_12 (by decide) ?_
    refine w_icmplt d73_14 (fun c14 => ?_) (fun c14 => ?_)
    · refine w_iconst d73_21 (by decide) ?_
      refine w_zreturn d73_22 (by decide) ?_
      refine qI ?_ kk
      split <;> omega
    · refine w_iconst d73_17 (by decide) ?_
      refine w_goto d73_18 ?_
      refine w_zreturn d73_22 (by decide) ?_
      refine qI ?_ kk
      split <;> omega
theorem d136_0 : dc 136 0 = some (.iload_n 1, 1) := by decide +kernel
theorem d136_1 : dc 136 1 = some (.ifCond .lt ((24 : Nat) : Int), 4) := by decide +kernel
theorem d136_4 : dc 136 4 = some (.iload_n 1, 5) := by decide +kernel
theorem d136_5 : dc 136 5 = some (.aload_n 0, 6) := by decide +kernel
theorem d136_6 : dc 136 6 = some (.getfield 391, 9) := by decide +kernel
theorem d136_9 : dc 136 9 = some (.if_icmp .ge ((24 : Nat) : Int), 12) := by decide +kernel
theorem d136_12 : dc 136 12 = some (.aload_n 0, 13) := by decide +kernel
theorem d136_13 : dc 136 13 = some (.dload 392, 16) := by decide +kernel
theorem d136_16 : dc 136 16 = some (.iload_n 1, 17) := by decide +kernel
theorem d136_17 : dc 136 17 = some (.aaload, 18) := by decide +kernel
theorem d136_18 : dc 136 18 = some (.fload 129, 21) := by decide +kernel
theorem d136_21 : dc 136 21 = some (.goto ((25 : Nat) : Int), 24) := by decide +kernel
theorem d136_24 : dc 136 24 = some (.lconst 0, 25) := by decide +kernel
theorem d136_25 : dc 136 25 = some (.lreturn, 26) := by decide +kernel
theorem k_Plan_nameOf {S : Shp} {G : Nat → Option Nat} {d : Nat} {h : Hp} {Q : Option MV → Hp → Prop} {p : Nat} {t : Int}  (ok : Ok S h) (h1 : 0 ≤ d) (hp : sK S p = 4) {ts : List (Bool × TgV)} (tc : TsC S h p ts)
    (kk : Q (some (vJ (if 0 ≤ t ∧ t < ts.length then hd (tgN (tD ts t.toNat)) else 0))) h) : Cl G d 136 [vR (some p), vI t] h Q := by
  show Wp G d 136 0 [some (vR (some p)), some (vI t)] [] h Q
  obtain ⟨q1, q2, q3⟩ := tc
  refine w_iload_n d136_0 rfl ?_
  refine w_iflt d136_1 (fun c1 => ?_) (fun c1 => ?_)
  · refine w_lconst d136_24 ?_
    refine w_lreturn d136_25 ?_
    by_cases z : 0 ≤ t ∧ t < ts.length
    · rw [if_pos z] at kk; first | exact kk | (exfalso; omega)
    · rw [if_neg z] at kk; first | exact kk | (exfalso; omega)
  · refine w_iload_n d136_4 rfl ?_
    refine w_aload_n d136_5 rfl ?_
    refine w_getI (x := (ts.length : Int)) d136_6 (ok.kd hp) q1 ?_
    refine w_icmpge d136_9 (fun c9 => ?_) (fun c9 => ?_)
    · refine w_lconst d136_24 ?_
      refine w_lreturn d136_25 ?_
      by_cases z : 0 ≤ t ∧ t < ts.length
      · rw [if_pos z] at kk; first | exact kk | (exfalso; omega)
      · rw [if_neg z] at kk; first | exact kk | (exfalso; omega)
    · refine w_aload_n d136_12 rfl ?_
      refine w_dloadS d136_13 (ok.kd hp) (fr392 ok hp) ?_
      refine w_iload_n d136_16 rfl ?_
      refine w_aaloadS d136_17 (gi392 ok hp (by omega)) (er392 ok hp (by omega)) ?_
      refine w_floadV (x := (hd (tgN (tD ts t.toNat)))) d136_18 (ok.kd (kE392 ok hp (j := t.toNat) (by omega))) (q3 t.toNat (by omega)).2.1.1 ?_
      refine w_goto d136_21 ?_
      refine w_lreturn d136_25 ?_
      by_cases z : 0 ≤ t ∧ t < ts.length
      · rw [if_pos z] at kk; first | exact kk | (exfalso; omega)
      · rw [if_neg z] at kk; first | exact kk | (exfalso; omega)
theorem d182_0 : dc 182 0 = some (.iconst 0, 1) := by decide +kernel
theorem d182_1 : dc 182 1 = some (.istore_n 1, 2) := by decide +kernel
theorem d182_2 : dc 182 2 = some (.iconst 0, 3) := by decide +kernel
theorem d182_3 : dc 182 3 = some (.istore_n 2, 4) := by decide +kernel
theorem d182_4 : dc 182 4 = some (.iload_n 2, 5) := by decide +kernel
theorem d182_5 : dc 182 5 = some (.aload_n 0, 6) := by decide +kernel
theorem d182_6 : dc 182 6 = some (.getfield 391, 9) := by decide +kernel
theorem d182_9 : dc 182 9 = some (.if_icmp .ge ((38 : Nat) : Int), 12) := by decide +kernel
theorem d182_12 : dc 182 12 = some (.iload_n 1, 13) := by decide +kernel
theorem d182_13 : dc 182 13 = some (.aload_n 0, 14) := by decide +kernel
theorem d182_14 : dc 182 14 = some (.dload 392, 17) := by decide +kernel
theorem d182_17 : dc 182 17 = some (.iload_n 2, 18) := by decide +kernel
theorem d182_18 : dc 182 18 = some (.aaload, 19) := by decide +kernel
theorem d182_19 : dc 182 19 = some (.getfield 128, 22) := by decide +kernel
theorem d182_22 : dc 182 22 = some (.ifCond .eq ((29 : Nat) : Int), 25) := by decide +kernel
theorem d182_25 : dc 182 25 = some (.iconst 1, 26) := by decide +kernel
theorem d182_26 : dc 182 26 = some (.goto ((30 : Nat) : Int), 29) := by decide +kernel
theorem d182_29 : dc 182 29 = some (.iconst 0, 30) := by decide +kernel
theorem d182_30 : dc 182 30 = some (.iadd, 31) := by decide +kernel
theorem d182_31 : dc 182 31 = some (.istore_n 1, 32) := by decide +kernel
theorem d182_32 : dc 182 32 = some (.iinc 2 1, 35) := by decide +kernel
theorem d182_35 : dc 182 35 = some (.goto ((4 : Nat) : Int), 38) := by decide +kernel
theorem d182_38 : dc 182 38 = some (.iload_n 1, 39) := by decide +kernel
theorem d182_39 : dc 182 39 = some (.ireturn, 40) := by decide +kernel
theorem k_Plan_targetsThere {S : Shp} {G : Nat → Option Nat} {d : Nat} {h : Hp} {Q : Option MV → Hp → Prop} {p : Nat}  (ok : Ok S h) (h1 : 0 ≤ d) (hp : sK S p = 4) {ts : List (Bool × TgV)} (tc : TsC S h p ts)
    (kk : Q (some (vI (cntH ts ts.length : Nat))) h) : Cl G d 182 [vR (some p)] h Q := by
  show Wp G d 182 0 [some (vR (some p)), none, none] [] h Q
  obtain ⟨q1, q2, q3⟩ := tc
  refine w_iconst d182_0 (by decide) ?_
  refine w_istore1 d182_1 rfl ?_
  refine w_iconst d182_2 (by decide) ?_
  refine w_istore2 d182_3 rfl ?_
  have L4 : ∀ (m4 : Nat) (i : Nat), ts.length - i = m4 → (i ≤ ts.length) → Wp G d 182 4 [some (vR (some p)), some (vI (cntH ts i : Nat)), some (vI (i : Nat))] [] h Q := by
    intro m4
    induction m4 using Nat.strongRecOn with | ind m4 IH4 => ?_
    intro i hm4 i1
    have hc := cntH_le ts i
    refine w_iload_n d182_4 rfl ?_
    refine w_aload_n d182_5 rfl ?_
    refine w_getI (x := (ts.length : Int)) d182_6 (ok.kd hp) q1 ?_
    refine w_icmpge d182_9 (fun c9 => ?_) (fun c9 => ?_)
    · refine w_iload_n d182_38 rfl ?_
      refine w_ireturn d182_39 ?_
      rw [show ts.length = i by omega] at kk
      exact kk
    · have hi : i < ts.length := by omega
      obtain ⟨a1, a2, a3⟩ := q3 i hi
      refine w_iload_n d182_12 rfl ?_
      refine w_aload_n d182_13 rfl ?_
      refine w_dloadS d182_14 (ok.kd hp) (fr392 ok hp) ?_
      refine w_iload_n d182_17 rfl ?_
      have k18 := kE392 ok hp (j := i) (by omega)
      refine w_aaloadSN d182_18 (gi392 ok hp (by omega)) (er392 ok hp (by omega)) ?_
      refine w_getI (x := (b2i (tH ts i))) d182_19 (ok.kd k18) a1 ?_
      refine w_ifeq d182_22 (fun c22 => ?_) (fun c22 => ?_)
      · have b := b2i_f.mp c22
        have z : cntH ts (i + 1) = cntH ts i := by rw [cntH, b]; rfl
        refine w_iconst d182_29 (by decide) ?_
        refine w_iadd d182_30 (by constructor <;> omega) ?_
        refine w_istore1 d182_31 rfl ?_
        refine w_iinc2 d182_32 rfl (by constructor <;> omega) ?_
        refine w_goto d182_35 ?_
        refine w_less ?_ (IH4 _ (by omega) (i + 1) rfl (by omega))
        exact ⟨Or.inr rfl, Or.inr (by rw [z]; first | rfl | (show some (vI (((cntH ts i : Nat) : Int) + 0)) = _; rw [Int.add_zero])), Or.inr rfl, trivial⟩
      · have b : tH ts i = true := by cases q : tH ts i <;> simp_all [b2i]
        have z : cntH ts (i + 1) = cntH ts i + 1 := by rw [cntH, b]; rfl
        refine w_iconst d182_25 (by decide) ?_
        refine w_goto d182_26 ?_
        refine w_iadd d182_30 (by constructor <;> omega) ?_
        refine w_istore1 d182_31 rfl ?_
        refine w_iinc2 d182_32 rfl (by constructor <;> omega) ?_
        refine w_goto d182_35 ?_
        refine w_less ?_ (IH4 _ (by omega) (i + 1) rfl (by omega))
        exact ⟨Or.inr rfl, Or.inr (by rw [z]; first | rfl | (show some (vI (((cntH ts i : Nat) : Int) + 0)) = _; rw [Int.add_zero])), Or.inr rfl, trivial⟩
  refine w_less ?_ (L4 _ 0 rfl (by omega))
  exact ⟨Or.inr rfl, Or.inr rfl, Or.inr rfl, trivial⟩
