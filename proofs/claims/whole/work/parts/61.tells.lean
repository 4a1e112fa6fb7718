/-! what a plan tells -/
/-- the chosen ones of the first n targets, told -/
def mkTxt (ts : List (Bool × TgV)) (sel : Nat → Bool) : Nat → List Nat
  | 0 => []
  | n + 1 => mkTxt ts sel n ++ (if sel n = true then tgN (tD ts n) ++ [59] else [])
def flTxt (fl : List (List Nat × List Nat)) : Nat → List Nat
  | 0 => []
  | n + 1 => flTxt fl n ++ (fP fl n ++ 32 :: dec (fB fl n).length ++ [59])
def tsTxt (ts : List (Bool × TgV)) : Nat → List Nat
  | 0 => []
  | n + 1 => tsTxt ts n ++ (if tH ts n = true then tgTxt (tD ts n) ++ [59] else [])
/-- the condition of a target is not met -/
def gval (gs : List (List Nat × Nat)) (n : List Nat) : Nat := if gix gs n < 0 then 0 else gK gs (gix gs n).toNat
def unmet (gs : List (List Nat × Nat)) (t : TgV) : Prop := tgC t ≠ [] ∧ gval gs (tgC t) ≠ tgK t
def misP (F : List Nat → Int) (ts : List (Bool × TgV)) (t : TgV) (i : Nat) : Bool := if inB (tgI t) i then decide (tat ts (inN (tgI t) i) < 0) else decide (F (inN (tgI t) i) < 0)
/-- the first input that is not there; -1 when all are; F finds files -/
def misI (F : List Nat → Int) (ts : List (Bool × TgV)) (t : TgV) : Int := srF (misP F ts t) (tgI t).length 0
/-- why an action fails ahead: nothing when it does not -/
def ahead (F : List Nat → Int) (gs : List (List Nat × Nat)) (ts : List (Bool × TgV)) (t : TgV) : List Nat :=
  if tgC t ≠ [] ∧ gval gs (tgC t) ≠ tgK t then txt 1 else if misI F ts t < 0 then [] else (if inB (tgI t) (misI F ts t).toNat = true then txt 2 else txt 3) ++ inN (tgI t) (misI F ts t).toNat
theorem addBs3 (n : Nat) (l a b : List Nat) : addBs n (addBs n l a) b = addBs n l (a ++ b) := (addBs_app n l a b).symm
theorem d150_0 : dc 150 0 = some (.iconst 0, 1) := by decide +kernel
theorem d150_1 : dc 150 1 = some (.istore_n 3, 2) := by decide +kernel
theorem d150_2 : dc 150 2 = some (.iload_n 3, 3) := by decide +kernel
theorem d150_3 : dc 150 3 = some (.aload_n 0, 4) := by decide +kernel
theorem d150_4 : dc 150 4 = some (.getfield 391, 7) := by decide +kernel
theorem d150_7 : dc 150 7 = some (.if_icmp .ge ((50 : Nat) : Int), 10) := by decide +kernel
theorem d150_10 : dc 150 10 = some (.aload_n 0, 11) := by decide +kernel
theorem d150_11 : dc 150 11 = some (.dload 393, 14) := by decide +kernel
theorem d150_14 : dc 150 14 = some (.iload_n 3, 15) := by decide +kernel
theorem d150_15 : dc 150 15 = some (.iaload, 16) := by decide +kernel
theorem d150_16 : dc 150 16 = some (.iconst 1, 17) := by decide +kernel
theorem d150_17 : dc 150 17 = some (.if_icmp .ne ((44 : Nat) : Int), 20) := by decide +kernel
theorem d150_20 : dc 150 20 = some (.iload_n 3, 21) := by decide +kernel
theorem d150_21 : dc 150 21 = some (.iload_n 1, 22) := by decide +kernel
theorem d150_22 : dc 150 22 = some (.if_icmp .eq ((44 : Nat) : Int), 25) := by decide +kernel
theorem d150_25 : dc 150 25 = some (.aload_n 2, 26) := by decide +kernel
theorem d150_26 : dc 150 26 = some (.aload_n 0, 27) := by decide +kernel
theorem d150_27 : dc 150 27 = some (.dload 392, 30) := by decide +kernel
theorem d150_30 : dc 150 30 = some (.iload_n 3, 31) := by decide +kernel
theorem d150_31 : dc 150 31 = some (.aaload, 32) := by decide +kernel
theorem d150_32 : dc 150 32 = some (.fload 129, 35) := by decide +kernel
theorem d150_35 : dc 150 35 = some (.invokevirtual 104, 38) := by decide +kernel
theorem d150_38 : dc 150 38 = some (.aload_n 2, 39) := by decide +kernel
theorem d150_39 : dc 150 39 = some (.bipush 59, 41) := by decide +kernel
theorem d150_41 : dc 150 41 = some (.invokevirtual 15, 44) := by decide +kernel
theorem d150_44 : dc 150 44 = some (.iinc 3 1, 47) := by decide +kernel
theorem d150_47 : dc 150 47 = some (.goto ((2 : Nat) : Int), 50) := by decide +kernel
theorem d150_50 : dc 150 50 = some (.return_, 51) := by decide +kernel
theorem k_Plan_tellMarked {S : Shp} {G : Nat → Option Nat} {d : Nat} {h : Hp} {Q : Option MV → Hp → Prop} {p : Nat} {b : Int} {r : Nat}  (ok : Ok S h) (h1 : 2 ≤ d) (hp : sK S p = 4) (hr : sK S r = 6) {ts : List (Bool × TgV)} {sel : Nat → Bool} (tc : TsC S h p ts) (hs : ∀ u, u < ts.length → ((AI h (sT S 393 p) u = 1 ∧ (u : Int) ≠ b) ↔ sel u = true)) (hpr : ¬ U S p r)
    (kk : ∀ h', Mo S (fun y => y = r) h h' → rl h' r = addBs (cap h r) (rl h r) (mkTxt ts sel ts.length) → cap h' r = cap h r → Q none h') : Cl G d 150 [vR (some p), vI b, vR (some r)] h Q := by
  show Wp G d 150 0 [some (vR (some p)), some (vI b), some (vR (some r)), none] [] h Q
  have tc0 := tc
  have hl14 := tc.2.1
  have nA : ∀ y, U S p y → ¬ y = r := fun y u q => hpr (q ▸ u)
  have kM := kT393 ok hp
  refine w_iconst d150_0 (by decide) ?_
  refine w_istore3 d150_1 rfl ?_
  have L2 : ∀ (m2 : Nat) (g : Hp) (u : Nat), ts.length - u = m2 → Mo S (fun x => x = r) h g → (u ≤ ts.length) → (rl g r = addBs (cap h r) (rl h r) (mkTxt ts sel u)) → (cap g r = cap h r) → Wp G d 150 2 [some (vR (some p)), some (vI b), some (vR (some r)), some (vI (u : Nat))] [] g Q := by
    intro m2
    induction m2 using Nat.strongRecOn with | ind m2 IH2 => ?_
    intro g u hm2 Mg i1 i2 i3
    have okg := Mg.ok
    have tcg := tc0.mo ok Mg hp nA
    have em : AI g (sT S 393 p) = AI h (sT S 393 p) := Mg.ai ok (by omega) (nA _ (ok.so.uT (by decide) U_refl))
    refine w_iload_n d150_2 rfl ?_
    refine w_aload_n d150_3 rfl ?_
    refine w_getI (x := (ts.length : Int)) d150_4 (okg.kd hp) tcg.1 ?_
    refine w_icmpge d150_7 (fun c7 => ?_) (fun c7 => ?_)
    · have uu : u = ts.length := by omega
      refine w_return d150_50 ?_
      exact kk g Mg (by rw [i2, uu]) i3
    · have hu : u < ts.length := by omega
      obtain ⟨a1, a2, a3⟩ := tcg.2.2 u hu
      have hsu := hs u hu
      have o1 := tcg.okn u hu
      refine w_aload_n d150_10 rfl ?_
      refine w_dloadS d150_11 (okg.kd hp) (fr393 okg hp) ?_
      refine w_iload_n d150_14 rfl ?_
      refine w_ialoadV (x := (AI h (sT S 393 p) u)) d150_15 (gi393 okg hp (by omega)) (congrFun em u) ?_
      refine w_iconst d150_16 (by decide) ?_
      refine w_icmpne d150_17 (fun c17 => ?_) (fun c17 => ?_)
      · have hz : ¬ sel u = true := fun q => absurd (hsu.mpr q).1 c17
        refine w_iinc3 d150_44 rfl (by constructor <;> omega) ?_
        refine w_goto d150_47 ?_
        refine w_less ?_ (IH2 _ (by omega) g (u + 1) rfl Mg (by omega) (by rw [mkTxt, if_neg hz, List.append_nil]; exact i2) i3)
        exact ⟨Or.inr rfl, Or.inr rfl, Or.inr rfl, Or.inr rfl, trivial⟩
      · refine w_iload_n d150_20 rfl ?_
        refine w_iload_n d150_21 rfl ?_
        refine w_icmpeq d150_22 (fun c22 => ?_) (fun c22 => ?_)
        · have hz : ¬ sel u = true := fun q => absurd c22 (hsu.mpr q).2
          refine w_iinc3 d150_44 rfl (by constructor <;> omega) ?_
          refine w_goto d150_47 ?_
          refine w_less ?_ (IH2 _ (by omega) g (u + 1) rfl Mg (by omega) (by rw [mkTxt, if_neg hz, List.append_nil]; exact i2) i3)
          exact ⟨Or.inr rfl, Or.inr rfl, Or.inr rfl, Or.inr rfl, trivial⟩
        · have hz : sel u = true := hsu.mp ⟨c17, c22⟩
          refine w_aload_n d150_25 rfl ?_
          refine w_aload_n d150_26 rfl ?_
          refine w_dloadS d150_27 (okg.kd hp) (fr392 okg hp) ?_
          refine w_iload_n d150_30 rfl ?_
          have k31 := kE392 okg hp (j := u) (by omega)
          refine w_aaloadSN d150_31 (gi392 okg hp (by omega)) (er392 okg hp (by omega)) ?_
          refine w_floadV (x := (hd (tgN (tD ts u)))) d150_32 (okg.kd k31) a2.1 ?_
          refine w_callv2 d150_35 (by omega) rfl (okg.kd hr) (by simp) (Nat.le_of_ble_eq_true rfl) ?_
          refine r_Row_addName (by omega) okg hr (fun h35 m35 e35_1 e35_2 => ?_)
          have ok35 := m35.ok
          have M35 := Mo.tr ok Mg m35 (fun x e => e)
          refine w_aload_n d150_38 rfl ?_
          refine w_bipush d150_39 (by decide) ?_
          refine w_callv2 d150_41 (by omega) rfl (ok35.kd hr) (by simp) (Nat.le_of_ble_eq_true rfl) ?_
          refine r_Row_add ok35 hr (fun h41 m41 e41_1 e41_2 => ?_)
          have ok41 := m41.ok
          have M41 := Mo.tr ok M35 m41 (fun x e => e)
          refine w_iinc3 d150_44 rfl (by constructor <;> omega) ?_
          refine w_goto d150_47 ?_
          refine w_less ?_ (IH2 _ (by omega) h41 (u + 1) rfl M41 (by omega) (by rw [e41_1, e35_1, e35_2, i3, i2, addBs3, addBs3, nm_hd o1, mkTxt, if_pos hz]; rfl) (by rw [e41_2, e35_2, i3]))
          exact ⟨Or.inr rfl, Or.inr rfl, Or.inr rfl, Or.inr rfl, trivial⟩
  have M0_ := Mo.refl (A := (fun x => x = r)) ok
  refine w_less ?_ (L2 _ h 0 rfl M0_ (by omega) rfl rfl)
  exact ⟨Or.inr rfl, Or.inr rfl, Or.inr rfl, Or.inr rfl, trivial⟩
theorem d168_0 : dc 168 0 = some (.iconst 0, 1) := by decide +kernel
theorem d168_1 : dc 168 1 = some (.istore_n 2, 2) := by decide +kernel
theorem d168_2 : dc 168 2 = some (.iload_n 2, 3) := by decide +kernel
theorem d168_3 : dc 168 3 = some (.aload_n 0, 4) := by decide +kernel
theorem d168_4 : dc 168 4 = some (.getfield 384, 7) := by decide +kernel
theorem d168_7 : dc 168 7 = some (.if_icmp .ge ((61 : Nat) : Int), 10) := by decide +kernel
theorem d168_10 : dc 168 10 = some (.aload_n 1, 11) := by decide +kernel
theorem d168_11 : dc 168 11 = some (.aload_n 0, 12) := by decide +kernel
theorem d168_12 : dc 168 12 = some (.dload 385, 15) := by decide +kernel
theorem d168_15 : dc 168 15 = some (.iload_n 2, 16) := by decide +kernel
theorem d168_16 : dc 168 16 = some (.laload, 17) := by decide +kernel
theorem d168_17 : dc 168 17 = some (.invokevirtual 104, 20) := by decide +kernel
theorem d168_20 : dc 168 20 = some (.aload_n 1, 21) := by decide +kernel
theorem d168_21 : dc 168 21 = some (.aload_n 0, 22) := by decide +kernel
theorem d168_22 : dc 168 22 = some (.dload 386, 25) := by decide +kernel
theorem d168_25 : dc 168 25 = some (.iload_n 2, 26) := by decide +kernel
theorem d168_26 : dc 168 26 = some (.laload, 27) := by decide +kernel
theorem d168_27 : dc 168 27 = some (.invokevirtual 104, 30) := by decide +kernel
theorem d168_30 : dc 168 30 = some (.aload_n 1, 31) := by decide +kernel
theorem d168_31 : dc 168 31 = some (.bipush 32, 33) := by decide +kernel
theorem d168_33 : dc 168 33 = some (.invokevirtual 15, 36) := by decide +kernel
theorem d168_36 : dc 168 36 = some (.aload_n 1, 37) := by decide +kernel
theorem d168_37 : dc 168 37 = some (.aload_n 0, 38) := by decide +kernel
theorem d168_38 : dc 168 38 = some (.dload 387, 41) := by decide +kernel
theorem d168_41 : dc 168 41 = some (.iload_n 2, 42) := by decide +kernel
theorem d168_42 : dc 168 42 = some (.aaload, 43) := by decide +kernel
theorem d168_43 : dc 168 43 = some (.invokevirtual 13, 46) := by decide +kernel
theorem d168_46 : dc 168 46 = some (.invokevirtual 124, 49) := by decide +kernel
theorem d168_49 : dc 168 49 = some (.aload_n 1, 50) := by decide +kernel
theorem d168_50 : dc 168 50 = some (.bipush 59, 52) := by decide +kernel
theorem d168_52 : dc 168 52 = some (.invokevirtual 15, 55) := by decide +kernel
theorem d168_55 : dc 168 55 = some (.iinc 2 1, 58) := by decide +kernel
theorem d168_58 : dc 168 58 = some (.goto ((2 : Nat) : Int), 61) := by decide +kernel
theorem d168_61 : dc 168 61 = some (.return_, 62) := by decide +kernel
theorem k_Plan_tellFiles {S : Shp} {G : Nat → Option Nat} {d : Nat} {h : Hp} {Q : Option MV → Hp → Prop} {p : Nat} {r : Nat}  (ok : Ok S h) (h1 : 2 ≤ d) (hp : sK S p = 4) (hr : sK S r = 6) {fl : List (List Nat × List Nat)} (fc : FilC S h p fl) (hpr : ¬ U S p r)
    (kk : ∀ h', Mo S (fun y => y = r) h h' → rl h' r = addBs (cap h r) (rl h r) (flTxt fl fl.length) → cap h' r = cap h r → Q none h') : Cl G d 168 [vR (some p), vR (some r)] h Q := by
  show Wp G d 168 0 [some (vR (some p)), some (vR (some r)), none] [] h Q
  have fc0 := fc
  have nA : ∀ y, U S p y → ¬ y = r := fun y u q => hpr (q ▸ u)
  have kM := kT393 ok hp
  refine w_iconst d168_0 (by decide) ?_
  refine w_istore2 d168_1 rfl ?_
  have L2 : ∀ (m2 : Nat) (g : Hp) (i : Nat), fl.length - i = m2 → Mo S (fun x => x = r) h g → (i ≤ fl.length) → (rl g r = addBs (cap h r) (rl h r) (flTxt fl i)) → (cap g r = cap h r) → Wp G d 168 2 [some (vR (some p)), some (vR (some r)), some (vI (i : Nat))] [] g Q := by
    intro m2
    induction m2 using Nat.strongRecOn with | ind m2 IH2 => ?_
    intro g i hm2 Mg i1 i2 i3
    have okg := Mg.ok
    have fcg := fc0.mo ok Mg hp nA
    obtain ⟨σ, s1, s2, q1, q2, q3⟩ := fcg
    refine w_iload_n d168_2 rfl ?_
    refine w_aload_n d168_3 rfl ?_
    refine w_getI (x := (fl.length : Int)) d168_4 (okg.kd hp) q1 ?_
    refine w_icmpge d168_7 (fun c7 => ?_) (fun c7 => ?_)
    · have uu : i = fl.length := by omega
      refine w_return d168_61 ?_
      exact kk g Mg (by rw [i2, uu]) i3
    · have hi : i < fl.length := by omega
      obtain ⟨a1, a2, a3, a4, a5⟩ := q3 i hi
      have s1i := (s1 i (by omega)).1
      refine w_aload_n d168_10 rfl ?_
      refine w_aload_n d168_11 rfl ?_
      refine w_dloadS d168_12 (okg.kd hp) (fr385 okg hp) ?_
      refine w_iload_n d168_15 rfl ?_
      refine w_laloadV (x := (hd (fP fl i))) d168_16 (gi385 okg hp (by omega)) a1 ?_
      refine w_callv2 d168_17 (by omega) rfl (okg.kd hr) (by simp) (Nat.le_of_ble_eq_true rfl) ?_
      refine r_Row_addName (by omega) okg hr (fun h17 m17 e17_1 e17_2 => ?_)
      have ok17 := m17.ok
      have M17 := Mo.tr ok Mg m17 (fun x e => e)
      refine w_aload_n d168_20 rfl ?_
      refine w_aload_n d168_21 rfl ?_
      refine w_dloadS d168_22 (ok17.kd hp) (fr386 ok17 hp) ?_
      refine w_iload_n d168_25 rfl ?_
      refine w_laloadV (x := (tl (fP fl i))) d168_26 (gi386 ok17 hp (by omega)) (by rw [m17.al okg (by have := kT386 ok hp; omega) (nA _ (ok.so.uT (by decide) U_refl))]; exact a2) ?_
      refine w_callv2 d168_27 (by omega) rfl (ok17.kd hr) (by simp) (Nat.le_of_ble_eq_true rfl) ?_
      refine r_Row_addName (by omega) ok17 hr (fun h27 m27 e27_1 e27_2 => ?_)
      have ok27 := m27.ok
      have M27 := Mo.tr ok M17 m27 (fun x e => e)
      refine w_aload_n d168_30 rfl ?_
      refine w_bipush d168_31 (by decide) ?_
      refine w_callv2 d168_33 (by omega) rfl (ok27.kd hr) (by simp) (Nat.le_of_ble_eq_true rfl) ?_
      refine r_Row_add ok27 hr (fun h33 m33 e33_1 e33_2 => ?_)
      have ok33 := m33.ok
      have M33 := Mo.tr ok M27 m33 (fun x e => e)
      refine w_aload_n d168_36 rfl ?_
      refine w_aload_n d168_37 rfl ?_
      refine w_dloadS d168_38 (ok33.kd hp) (fr387 ok33 hp) ?_
      refine w_iload_n d168_41 rfl ?_
      refine w_aaloadSN d168_42 (gi387 ok33 hp (by omega)) (by rw [m33.ar ok27 (by have := kT387 ok hp; omega) (nA _ (ok.so.uT (by decide) U_refl)), m27.ar ok17 (by have := kT387 ok hp; omega) (nA _ (ok.so.uT (by decide) U_refl)), m17.ar okg (by have := kT387 ok hp; omega) (nA _ (ok.so.uT (by decide) U_refl))]; exact (s1 i (by omega)).2) ?_
      refine w_callv1 d168_43 (by omega) rfl (ok33.kd (kE387 ok hp (s1 i (by omega)).1)) (by simp) (Nat.le_of_ble_eq_true rfl) ?_
      refine r_Row_size ok33 (kE387 ok hp (s1 i (by omega)).1) ?_
      have e43 : rl h33 (sE S (sT S 387 p) (σ i)) = fB fl i := by
        have kk6 := kE387 ok hp (s1 i (by omega)).1
        have nn := nA _ (ok.so.uE (j := σ i) (by omega) (ok.so.uT (f := 387) (by decide) U_refl))
        rw [m33.rb ok27 kk6 nn, m27.rb ok17 kk6 nn, m17.rb okg kk6 nn]; exact a3
      rw [e43]
      refine w_callv2 d168_46 (by omega) rfl (ok33.kd hr) (by simp) (Nat.le_of_ble_eq_true rfl) ?_
      refine r_Row_addNumber (by omega) ok33 hr (by omega) (fun h46 m46 e46_1 e46_2 => ?_)
      have ok46 := m46.ok
      have M46 := Mo.tr ok M33 m46 (fun x e => e)
      refine w_aload_n d168_49 rfl ?_
      refine w_bipush d168_50 (by decide) ?_
      refine w_callv2 d168_52 (by omega) rfl (ok46.kd hr) (by simp) (Nat.le_of_ble_eq_true rfl) ?_
      refine r_Row_add ok46 hr (fun h52 m52 e52_1 e52_2 => ?_)
      have ok52 := m52.ok
      have M52 := Mo.tr ok M46 m52 (fun x e => e)
      refine w_iinc2 d168_55 rfl (by constructor <;> omega) ?_
      refine w_goto d168_58 ?_
      refine w_less ?_ (IH2 _ (by omega) h52 (i + 1) rfl M52 (by omega) (by rw [e52_1, e46_1, e46_2, e33_1, e33_2, e27_1, e27_2, e17_1, e17_2, i3, i2, addBs3, addBs3, addBs3, addBs3, addBs3, flTxt, ← List.append_assoc (nmB (hd (fP fl i)) 8), nm_back a4]; simp [List.append_assoc]) (by rw [e52_2, e46_2, e33_2, e27_2, e17_2, i3]))
      exact ⟨Or.inr rfl, Or.inr rfl, Or.inr rfl, trivial⟩
  have M0_ := Mo.refl (A := (fun x => x = r)) ok
  refine w_less ?_ (L2 _ h 0 rfl M0_ (by omega) rfl rfl)
  exact ⟨Or.inr rfl, Or.inr rfl, Or.inr rfl, trivial⟩
theorem d171_0 : dc 171 0 = some (.iconst 0, 1) := by decide +kernel
theorem d171_1 : dc 171 1 = some (.istore_n 2, 2) := by decide +kernel
theorem d171_2 : dc 171 2 = some (.iload_n 2, 3) := by decide +kernel
theorem d171_3 : dc 171 3 = some (.aload_n 0, 4) := by decide +kernel
theorem d171_4 : dc 171 4 = some (.getfield 391, 7) := by decide +kernel
theorem d171_7 : dc 171 7 = some (.if_icmp .ge ((47 : Nat) : Int), 10) := by decide +kernel
theorem d171_10 : dc 171 10 = some (.aload_n 0, 11) := by decide +kernel
theorem d171_11 : dc 171 11 = some (.dload 392, 14) := by decide +kernel
theorem d171_14 : dc 171 14 = some (.iload_n 2, 15) := by decide +kernel
theorem d171_15 : dc 171 15 = some (.aaload, 16) := by decide +kernel
theorem d171_16 : dc 171 16 = some (.getfield 128, 19) := by decide +kernel
theorem d171_19 : dc 171 19 = some (.ifCond .eq ((41 : Nat) : Int), 22) := by decide +kernel
theorem d171_22 : dc 171 22 = some (.aload_n 1, 23) := by decide +kernel
theorem d171_23 : dc 171 23 = some (.aload_n 0, 24) := by decide +kernel
theorem d171_24 : dc 171 24 = some (.dload 392, 27) := by decide +kernel
theorem d171_27 : dc 171 27 = some (.iload_n 2, 28) := by decide +kernel
theorem d171_28 : dc 171 28 = some (.aaload, 29) := by decide +kernel
theorem d171_29 : dc 171 29 = some (.dload 139, 32) := by decide +kernel
theorem d171_32 : dc 171 32 = some (.invokevirtual 109, 35) := by decide +kernel
theorem d171_35 : dc 171 35 = some (.aload_n 1, 36) := by decide +kernel
theorem d171_36 : dc 171 36 = some (.bipush 59, 38) := by decide +kernel
theorem d171_38 : dc 171 38 = some (.invokevirtual 15, 41) := by decide +kernel
theorem d171_41 : dc 171 41 = some (.iinc 2 1, 44) := by decide +kernel
theorem d171_44 : dc 171 44 = some (.goto ((2 : Nat) : Int), 47) := by decide +kernel
theorem d171_47 : dc 171 47 = some (.return_, 48) := by decide +kernel
theorem k_Plan_tellTargets {S : Shp} {G : Nat → Option Nat} {d : Nat} {h : Hp} {Q : Option MV → Hp → Prop} {p : Nat} {r : Nat}  (ok : Ok S h) (h1 : 2 ≤ d) (hp : sK S p = 4) (hr : sK S r = 6) {ts : List (Bool × TgV)} (tc : TsC S h p ts) (hpr : ¬ U S p r)
    (kk : ∀ h', Mo S (fun y => y = r) h h' → rl h' r = addBs (cap h r) (rl h r) (tsTxt ts ts.length) → cap h' r = cap h r → Q none h') : Cl G d 171 [vR (some p), vR (some r)] h Q := by
  show Wp G d 171 0 [some (vR (some p)), some (vR (some r)), none] [] h Q
  have tc0 := tc
  have hl14 := tc.2.1
  have nA : ∀ y, U S p y → ¬ y = r := fun y u q => hpr (q ▸ u)
  have kM := kT393 ok hp
  refine w_iconst d171_0 (by decide) ?_
  refine w_istore2 d171_1 rfl ?_
  have L2 : ∀ (m2 : Nat) (g : Hp) (u : Nat), ts.length - u = m2 → Mo S (fun x => x = r) h g → (u ≤ ts.length) → (rl g r = addBs (cap h r) (rl h r) (tsTxt ts u)) → (cap g r = cap h r) → Wp G d 171 2 [some (vR (some p)), some (vR (some r)), some (vI (u : Nat))] [] g Q := by
    intro m2
    induction m2 using Nat.strongRecOn with | ind m2 IH2 => ?_
    intro g u hm2 Mg i1 i2 i3
    have okg := Mg.ok
    have tcg := tc0.mo ok Mg hp nA
    refine w_iload_n d171_2 rfl ?_
    refine w_aload_n d171_3 rfl ?_
    refine w_getI (x := (ts.length : Int)) d171_4 (okg.kd hp) tcg.1 ?_
    refine w_icmpge d171_7 (fun c7 => ?_) (fun c7 => ?_)
    · have uu : u = ts.length := by omega
      refine w_return d171_47 ?_
      exact kk g Mg (by rw [i2, uu]) i3
    · have hu : u < ts.length := by omega
      obtain ⟨a1, a2, a3⟩ := tcg.2.2 u hu
      refine w_aload_n d171_10 rfl ?_
      refine w_dloadS d171_11 (okg.kd hp) (fr392 okg hp) ?_
      refine w_iload_n d171_14 rfl ?_
      have k15 := kE392 okg hp (j := u) (by omega)
      refine w_aaloadSN d171_15 (gi392 okg hp (by omega)) (er392 okg hp (by omega)) ?_
      refine w_getI (x := (b2i (tH ts u))) d171_16 (okg.kd k15) a1 ?_
      refine w_ifeq d171_19 (fun c19 => ?_) (fun c19 => ?_)
      · have hz : ¬ tH ts u = true := by rw [b2i_f.mp c19]; decide
        refine w_iinc2 d171_41 rfl (by constructor <;> omega) ?_
        refine w_goto d171_44 ?_
        refine w_less ?_ (IH2 _ (by omega) g (u + 1) rfl Mg (by omega) (by rw [tsTxt, if_neg hz, List.append_nil]; exact i2) i3)
        exact ⟨Or.inr rfl, Or.inr rfl, Or.inr rfl, trivial⟩
      · have hz : tH ts u = true := by cases q : tH ts u <;> simp_all [b2i]
        refine w_aload_n d171_22 rfl ?_
        refine w_aload_n d171_23 rfl ?_
        refine w_dloadS d171_24 (okg.kd hp) (fr392 okg hp) ?_
        refine w_iload_n d171_27 rfl ?_
        have k28 := kE392 okg hp (j := u) (by omega)
        refine w_aaloadSN d171_28 (gi392 okg hp (by omega)) (er392 okg hp (by omega)) ?_
        refine w_dloadS d171_29 (okg.kd k28) (fr139 okg k28) ?_
        refine w_callv2 d171_32 (by omega) rfl (okg.kd hr) (by simp) (Nat.le_of_ble_eq_true rfl) ?_
        refine r_Row_addRow (by omega) okg hr (kT139 okg k28) (fun q => nA _ (ok.so.uT (f := 139) (by decide) (ok.so.uE (by omega) (ok.so.uT (f := 392) (by decide) U_refl))) q) (fun h32 m32 e32_1 e32_2 => ?_)
        have ok32 := m32.ok
        have M32 := Mo.tr ok Mg m32 (fun x e => e)
        refine w_aload_n d171_35 rfl ?_
        refine w_bipush d171_36 (by decide) ?_
        refine w_callv2 d171_38 (by omega) rfl (ok32.kd hr) (by simp) (Nat.le_of_ble_eq_true rfl) ?_
        refine r_Row_add ok32 hr (fun h38 m38 e38_1 e38_2 => ?_)
        have ok38 := m38.ok
        have M38 := Mo.tr ok M32 m38 (fun x e => e)
        refine w_iinc2 d171_41 rfl (by constructor <;> omega) ?_
        refine w_goto d171_44 ?_
        refine w_less ?_ (IH2 _ (by omega) h38 (u + 1) rfl M38 (by omega) (by rw [e38_1, e32_1, e32_2, i3, i2, addBs3, addBs3, a2.2.2.2.2.2.2.2.2.1, tsTxt, if_pos hz]; rfl) (by rw [e38_2, e32_2, i3]))
        exact ⟨Or.inr rfl, Or.inr rfl, Or.inr rfl, trivial⟩
  have M0_ := Mo.refl (A := (fun x => x = r)) ok
  refine w_less ?_ (L2 _ h 0 rfl M0_ (by omega) rfl rfl)
  exact ⟨Or.inr rfl, Or.inr rfl, Or.inr rfl, trivial⟩
theorem d103_0 : dc 103 0 = some (.iload_n 1, 1) := by decide +kernel
theorem d103_1 : dc 103 1 = some (.ifCond .lt ((12 : Nat) : Int), 4) := by decide +kernel
theorem d103_4 : dc 103 4 = some (.iload_n 1, 5) := by decide +kernel
theorem d103_5 : dc 103 5 = some (.aload_n 0, 6) := by decide +kernel
theorem d103_6 : dc 103 6 = some (.getfield 391, 9) := by decide +kernel
theorem d103_9 : dc 103 9 = some (.if_icmp .lt ((14 : Nat) : Int), 12) := by decide +kernel
theorem d103_14 : dc 103 14 = some (.aload_n 0, 15) := by decide +kernel
theorem d103_15 : dc 103 15 = some (.dload 392, 18) := by decide +kernel
theorem d103_18 : dc 103 18 = some (.iload_n 1, 19) := by decide +kernel
theorem d103_19 : dc 103 19 = some (.aaload, 20) := by decide +kernel
theorem d103_20 : dc 103 20 = some (.astore_n 3, 21) := by decide +kernel
theorem d103_21 : dc 103 21 = some (.aload_n 3, 22) := by decide +kernel
theorem d103_22 : dc 103 22 = some (.fload 137, 25) := by decide +kernel
theorem d103_25 : dc 103 25 = some (.lconst 0, 26) := by decide +kernel
theorem d103_26 : dc 103 26 = some (.lcmp, 27) := by decide +kernel
theorem d103_27 : dc 103 27 = some (.ifCond .eq ((71 : Nat) : Int), 30) := by decide +kernel
theorem d103_30 : dc 103 30 = some (.aload_n 0, 31) := by decide +kernel
theorem d103_31 : dc 103 31 = some (.aload_n 3, 32) := by decide +kernel
theorem d103_32 : dc 103 32 = some (.fload 137, 35) := by decide +kernel
theorem d103_35 : dc 103 35 = some (.invokevirtual 70, 38) := by decide +kernel
theorem d103_38 : dc 103 38 = some (.istore 4, 40) := by decide +kernel
theorem d103_40 : dc 103 40 = some (.iload 4, 42) := by decide +kernel
theorem d103_42 : dc 103 42 = some (.ifCond .ge ((49 : Nat) : Int), 45) := by decide +kernel
theorem d103_45 : dc 103 45 = some (.iconst 0, 46) := by decide +kernel
theorem d103_46 : dc 103 46 = some (.goto ((56 : Nat) : Int), 49) := by decide +kernel
theorem d103_49 : dc 103 49 = some (.aload_n 0, 50) := by decide +kernel
theorem d103_50 : dc 103 50 = some (.dload 390, 53) := by decide +kernel
theorem d103_53 : dc 103 53 = some (.iload 4, 55) := by decide +kernel
theorem d103_55 : dc 103 55 = some (.iaload, 56) := by decide +kernel
theorem d103_56 : dc 103 56 = some (.aload_n 3, 57) := by decide +kernel
theorem d103_57 : dc 103 57 = some (.getfield 138, 60) := by decide +kernel
theorem d103_60 : dc 103 60 = some (.if_icmp .eq ((71 : Nat) : Int), 63) := by decide +kernel
theorem d103_63 : dc 103 63 = some (.aload_n 2, 64) := by decide +kernel
theorem d103_64 : dc 103 64 = some (.getstatic 51, 66) := by decide +kernel
theorem d103_66 : dc 103 66 = some (.invokevirtual 84, 69) := by decide +kernel
theorem d103_69 : dc 103 69 = some (.iconst 1, 70) := by decide +kernel
theorem d103_70 : dc 103 70 = some (.freturn, 71) := by decide +kernel
theorem d103_71 : dc 103 71 = some (.iconst 0, 72) := by decide +kernel
theorem d103_72 : dc 103 72 = some (.istore 4, 74) := by decide +kernel
theorem d103_74 : dc 103 74 = some (.iload 4, 76) := by decide +kernel
theorem d103_76 : dc 103 76 = some (.aload_n 3, 77) := by decide +kernel
theorem d103_77 : dc 103 77 = some (.getfield 133, 80) := by decide +kernel
theorem d103_80 : dc 103 80 = some (.if_icmp .ge ((182 : Nat) : Int), 83) := by decide +kernel
theorem d103_83 : dc 103 83 = some (.aload_n 3, 84) := by decide +kernel
theorem d103_84 : dc 103 84 = some (.dload 134, 87) := by decide +kernel
theorem d103_87 : dc 103 87 = some (.iload 4, 89) := by decide +kernel
theorem d103_89 : dc 103 89 = some (.baload, 90) := by decide +kernel
theorem d103_90 : dc 103 90 = some (.ifCond .eq ((110 : Nat) : Int), 93) := by decide +kernel
theorem d103_93 : dc 103 93 = some (.aload_n 0, 94) := by decide +kernel
theorem d103_94 : dc 103 94 = some (.aload_n 3, 95) := by decide +kernel
theorem d103_95 : dc 103 95 = some (.dload 135, 98) := by decide +kernel
theorem d103_98 : dc 103 98 = some (.iload 4, 100) := by decide +kernel
theorem d103_100 : dc 103 100 = some (.laload, 101) := by decide +kernel
theorem d103_101 : dc 103 101 = some (.invokevirtual 79, 104) := by decide +kernel
theorem d103_104 : dc 103 104 = some (.ifCond .ge ((176 : Nat) : Int), 107) := by decide +kernel
theorem d103_107 : dc 103 107 = some (.goto ((131 : Nat) : Int), 110) := by decide +kernel
theorem d103_110 : dc 103 110 = some (.aload_n 0, 111) := by decide +kernel
theorem d103_111 : dc 103 111 = some (.aload_n 3, 112) := by decide +kernel
theorem d103_112 : dc 103 112 = some (.dload 135, 115) := by decide +kernel
theorem d103_115 : dc 103 115 = some (.iload 4, 117) := by decide +kernel
theorem d103_117 : dc 103 117 = some (.laload, 118) := by decide +kernel
theorem d103_118 : dc 103 118 = some (.aload_n 3, 119) := by decide +kernel
theorem d103_119 : dc 103 119 = some (.dload 136, 122) := by decide +kernel
theorem d103_122 : dc 103 122 = some (.iload 4, 124) := by decide +kernel
theorem d103_124 : dc 103 124 = some (.laload, 125) := by decide +kernel
theorem d103_125 : dc 103 125 = some (.invokevirtual 69, 128) := by decide +kernel
theorem d103_128 : dc 103 128 = some (.ifCond .ge ((176 : Nat) : Int), 131) := by decide +kernel
theorem d103_131 : dc 103 131 = some (.aload_n 2, 132) := by decide +kernel
theorem d103_132 : dc 103 132 = some (.aload_n 3, 133) := by decide +kernel
theorem d103_133 : dc 103 133 = some (.dload 134, 136) := by decide +kernel
theorem d103_136 : dc 103 136 = some (.iload 4, 138) := by decide +kernel
theorem d103_138 : dc 103 138 = some (.baload, 139) := by decide +kernel
theorem d103_139 : dc 103 139 = some (.ifCond .eq ((147 : Nat) : Int), 142) := by decide +kernel
theorem d103_142 : dc 103 142 = some (.getstatic 52, 144) := by decide +kernel
theorem d103_144 : dc 103 144 = some (.goto ((149 : Nat) : Int), 147) := by decide +kernel
theorem d103_147 : dc 103 147 = some (.getstatic 53, 149) := by decide +kernel
theorem d103_149 : dc 103 149 = some (.invokevirtual 84, 152) := by decide +kernel
theorem d103_152 : dc 103 152 = some (.aload_n 2, 153) := by decide +kernel
theorem d103_153 : dc 103 153 = some (.aload_n 3, 154) := by decide +kernel
theorem d103_154 : dc 103 154 = some (.dload 135, 157) := by decide +kernel
theorem d103_157 : dc 103 157 = some (.iload 4, 159) := by decide +kernel
theorem d103_159 : dc 103 159 = some (.laload, 160) := by decide +kernel
theorem d103_160 : dc 103 160 = some (.invokevirtual 104, 163) := by decide +kernel
theorem d103_163 : dc 103 163 = some (.aload_n 2, 164) := by decide +kernel
theorem d103_164 : dc 103 164 = some (.aload_n 3, 165) := by decide +kernel
theorem d103_165 : dc 103 165 = some (.dload 136, 168) := by decide +kernel
theorem d103_168 : dc 103 168 = some (.iload 4, 170) := by decide +kernel
theorem d103_170 : dc 103 170 = some (.laload, 171) := by decide +kernel
theorem d103_171 : dc 103 171 = some (.invokevirtual 104, 174) := by decide +kernel
theorem d103_174 : dc 103 174 = some (.iconst 1, 175) := by decide +kernel
theorem d103_175 : dc 103 175 = some (.freturn, 176) := by decide +kernel
theorem d103_176 : dc 103 176 = some (.iinc 4 1, 179) := by decide +kernel
theorem d103_179 : dc 103 179 = some (.goto ((74 : Nat) : Int), 182) := by decide +kernel
theorem d103_182 : dc 103 182 = some (.iconst 0, 183) := by decide +kernel
theorem d103_183 : dc 103 183 = some (.freturn, 184) := by decide +kernel
theorem k_Plan_failsAhead {S : Shp} {G : Nat → Option Nat} {d : Nat} {h : Hp} {Q : Option MV → Hp → Prop} {p : Nat} {t : Nat} {r : Nat}  (ok : Ok S h) (h1 : 5 ≤ d) (hp : sK S p = 4) (hr : sK S r = 6) {fl : List (List Nat × List Nat)} {gs : List (List Nat × Nat)} {ts : List (Bool × TgV)} (tg : Tg S G) (fc : FilC S h p fl) (gc : GsC S h p gs) (tc : TsC S h p ts) (ht : t < ts.length) (hpr : ¬ U S p r)
    (kk : ∀ h' b, Mo S (fun y => y = r) h h' → (b = true ↔ ahead (fix fl) gs ts (tD ts t) ≠ []) → rl h' r = addBs (cap h r) (rl h r) (ahead (fix fl) gs ts (tD ts t)) → cap h' r = cap h r → Q (some (vI (b2i b))) h') : Cl G d 103 [vR (some p), vI (t : Nat), vR (some r)] h Q := by
  show Wp G d 103 0 [some (vR (some p)), some (vI (t : Nat)), some (vR (some r)), none, none] [] h Q
  have tc0 := tc
  have hl14 := tc.2.1
  have nA : ∀ y, U S p y → ¬ y = r := fun y u q => hpr (q ▸ u)
  obtain ⟨q1, q2, q3⟩ := tc
  obtain ⟨a1, a2, a3⟩ := q3 t ht
  have a20 := a2
  obtain ⟨d1, d2, d3, d4, d5, d6, d7, d8, d9, o1, o2, o3, o4, o5, o6⟩ := a2
  have o40 := o4.1
  have kD := kE392 ok hp (j := t) (by omega)
  have nil : ∀ q, ahead (fix fl) gs ts (tD ts t) = q → q = [] → Q (some (vI 0)) h := fun q e1 e2 => kk h false (Mo.refl ok) (by rw [e1, e2]; simp) (by rw [e1, e2]; rfl) rfl
  have t1n : txt 1 ≠ [] := by decide +kernel
  have t2n : txt 2 ≠ [] := by decide +kernel
  have t3n : txt 3 ≠ [] := by decide +kernel
  refine w_iload_n d103_0 rfl ?_
  refine w_iflt d103_1 (fun c1 => ?_) (fun c1 => ?_)
  · omega
  · refine w_iload_n d103_4 rfl ?_
    refine w_aload_n d103_5 rfl ?_
    refine w_getI (x := (ts.length : Int)) d103_6 (ok.kd hp) q1 ?_
    refine w_icmplt d103_9 (fun c9 => ?_) (fun c9 => ?_)
    · refine w_aload_n d103_14 rfl ?_
      refine w_dloadS d103_15 (ok.kd hp) (fr392 ok hp) ?_
      refine w_iload_n d103_18 rfl ?_
      have k19 := kE392 ok hp (j := t) (by omega)
      refine w_aaloadSN d103_19 (gi392 ok hp (by omega)) (er392 ok hp (by omega)) ?_
      refine w_astore3 d103_20 rfl ?_
      refine w_aload_n d103_21 rfl ?_
      refine w_floadV (x := (hd (tgC (tD ts t)))) d103_22 (ok.kd k19) d7 ?_
      refine w_lconst d103_25 ?_
      have L74 : ∀ (m74 : Nat) (i : Nat), (tgI (tD ts t)).length - i = m74 → (¬ unmet gs (tD ts t)) → (i ≤ (tgI (tD ts t)).length) → (misI (fix fl) ts (tD ts t) = srF (misP (fix fl) ts (tD ts t)) (tgI (tD ts t)).length i) → Wp G d 103 74 [some (vR (some p)), some (vI (t : Nat)), some (vR (some r)), some (vR (some (sE S (sT S 392 p) t))), some (vI (i : Nat))] [] h Q := by
        intro m74
        induction m74 using Nat.strongRecOn with | ind m74 IH74 => ?_
        intro i hm74 hu i1 i2
        refine w_iload d103_74 rfl ?_
        refine w_aload_n d103_76 rfl ?_
        refine w_getI (x := ((tgI (tD ts t)).length : Int)) d103_77 (ok.kd kD) d5 ?_
        refine w_icmpge d103_80 (fun c80 => ?_) (fun c80 => ?_)
        · refine w_iconst d103_182 (by decide) ?_
          refine w_zreturn d103_183 (by decide) ?_
          refine nil [] ?_ rfl
          unfold ahead
          rw [if_neg (show ¬ (tgC (tD ts t) ≠ [] ∧ gval gs (tgC (tD ts t)) ≠ tgK (tD ts t)) from hu), i2, srF_end (by omega)]
          rfl
        · have hi : i < (tgI (tD ts t)).length := by omega
          obtain ⟨b1, b2, b3⟩ := d6 i hi
          obtain ⟨oi1, oi2⟩ := o4.2 i hi
          have eah : misP (fix fl) ts (tD ts t) i = true → ahead (fix fl) gs ts (tD ts t) = (if inB (tgI (tD ts t)) i = true then txt 2 else txt 3) ++ inN (tgI (tD ts t)) i := fun q => by
            unfold ahead
            rw [if_neg (show ¬ (tgC (tD ts t) ≠ [] ∧ gval gs (tgC (tD ts t)) ≠ tgK (tD ts t)) from hu), i2, srF_yes hi q, if_neg (by omega)]
            rfl
          refine w_aload_n d103_83 rfl ?_
          refine w_dloadS d103_84 (ok.kd kD) (fr134 ok kD) ?_
          refine w_iload d103_87 rfl ?_
          refine w_baloadV (x := (b2i (inB (tgI (tD ts t)) i))) d103_89 (gi134 ok kD (by omega)) b1 ?_
          refine w_ifeq d103_90 (fun c90 => ?_) (fun c90 => ?_)
          · have hb := b2i_f.mp c90
            refine w_aload_n d103_110 rfl ?_
            refine w_aload_n d103_111 rfl ?_
            refine w_dloadS d103_112 (ok.kd kD) (fr135 ok kD) ?_
            refine w_iload d103_115 rfl ?_
            refine w_laloadV (x := (hd (inN (tgI (tD ts t)) i))) d103_117 (gi135 ok kD (by omega)) b2 ?_
            refine w_aload_n d103_118 rfl ?_
            refine w_dloadS d103_119 (ok.kd kD) (fr136 ok kD) ?_
            refine w_iload d103_122 rfl ?_
            refine w_laloadV (x := (tl (inN (tgI (tD ts t)) i))) d103_124 (gi136 ok kD (by omega)) b3 ?_
            refine w_callv3 d103_125 (by omega) rfl (ok.kd hp) (by simp) (Nat.le_of_ble_eq_true rfl) ?_
            refine k_Plan_fileAt ok (by omega) hp fc ?_
            rw [fixJ_eq fc.okp oi1]
            refine w_ifge d103_128 (fun c128 => ?_) (fun c128 => ?_)
            · have z : misP (fix fl) ts (tD ts t) i = false := by unfold misP; rw [if_neg (by rw [hb]; decide)]; exact decide_eq_false (by omega)
              refine w_iinc4 d103_176 rfl (by constructor <;> omega) ?_
              refine w_goto d103_179 ?_
              refine w_less ?_ (IH74 _ (by omega) (i + 1) rfl hu (by omega) (by rw [i2, srF_no hi z]))
              exact ⟨Or.inr rfl, Or.inr rfl, Or.inr rfl, Or.inr rfl, Or.inr rfl, trivial⟩
            · have z : misP (fix fl) ts (tD ts t) i = true := by unfold misP; rw [if_neg (by rw [hb]; decide)]; exact decide_eq_true (by omega)
              have ea := eah z
              refine w_aload_n d103_131 rfl ?_
              refine w_aload_n d103_132 rfl ?_
              refine w_dloadS d103_133 (ok.kd kD) (fr134 ok kD) ?_
              refine w_iload d103_136 rfl ?_
              refine w_baloadV (x := (b2i (inB (tgI (tD ts t)) i))) d103_138 (gi134 ok kD (by omega)) b1 ?_
              refine w_ifeq d103_139 (fun c139 => ?_) (fun c139 => ?_)
              · have hb2 := b2i_f.mp c139
                rw [if_neg (by rw [hb2]; decide)] at ea
                obtain ⟨g147, v147, s147⟩ := tg.tx ok 3 (by decide)
                refine w_getstaticS d103_147 v147 ?_
                refine w_callv2 d103_149 (by omega) rfl (ok.kd hr) (by simp) (Nat.le_of_ble_eq_true rfl) ?_
                refine r_Row_addText (by omega) ok hr s147 (fun h149 m149 e149_1 e149_2 => ?_)
                have ok149 := m149.ok
                have M149 := Mo.tr ok (Mo.refl (A := (fun x => x = r)) ok) m149 (fun x e => e)
                refine w_aload_n d103_152 rfl ?_
                refine w_aload_n d103_153 rfl ?_
                refine w_dloadS d103_154 (ok149.kd kD) (fr135 ok149 kD) ?_
                refine w_iload d103_157 rfl ?_
                refine w_laloadV (x := (hd (inN (tgI (tD ts t)) i))) d103_159 (gi135 ok149 kD (by omega)) (by rw [m149.al ok (by have := kT135 ok kD; omega) (nA _ (ok.so.uT (by decide) (ok.so.uE (by omega) (ok.so.uT (by decide) U_refl))))]; exact b2) ?_
                refine w_callv2 d103_160 (by omega) rfl (ok149.kd hr) (by simp) (Nat.le_of_ble_eq_true rfl) ?_
                refine r_Row_addName (by omega) ok149 hr (fun h160 m160 e160_1 e160_2 => ?_)
                have ok160 := m160.ok
                have M160 := Mo.tr ok M149 m160 (fun x e => e)
                refine w_aload_n d103_163 rfl ?_
                refine w_aload_n d103_164 rfl ?_
                refine w_dloadS d103_165 (ok160.kd kD) (fr136 ok160 kD) ?_
                refine w_iload d103_168 rfl ?_
                refine w_laloadV (x := (tl (inN (tgI (tD ts t)) i))) d103_170 (gi136 ok160 kD (by omega)) (by rw [m160.al ok149 (by have := kT136 ok kD; omega) (nA _ (ok.so.uT (by decide) (ok.so.uE (by omega) (ok.so.uT (by decide) U_refl)))), m149.al ok (by have := kT136 ok kD; omega) (nA _ (ok.so.uT (by decide) (ok.so.uE (by omega) (ok.so.uT (by decide) U_refl))))]; exact b3) ?_
                refine w_callv2 d103_171 (by omega) rfl (ok160.kd hr) (by simp) (Nat.le_of_ble_eq_true rfl) ?_
                refine r_Row_addName (by omega) ok160 hr (fun h171 m171 e171_1 e171_2 => ?_)
                have ok171 := m171.ok
                have M171 := Mo.tr ok M160 m171 (fun x e => e)
                refine w_iconst d103_174 (by decide) ?_
                refine w_zreturn d103_175 (by decide) ?_
                refine kk h171 true M171 ⟨fun _ => by rw [ea]; simp [t2n, t3n], fun _ => rfl⟩ ?_ (by rw [e171_2, e160_2, e149_2])
                rw [e171_1, e160_1, e160_2, e149_1, e149_2, addBs3, addBs3, nm_back oi1, ea]
              · have hb2 : inB (tgI (tD ts t)) i = true := by cases q : inB (tgI (tD ts t)) i <;> simp_all [b2i]
                rw [if_pos hb2] at ea
                obtain ⟨g142, v142, s142⟩ := tg.tx ok 2 (by decide)
                refine w_getstaticS d103_142 v142 ?_
                refine w_goto d103_144 ?_
                refine w_callv2 d103_149 (by omega) rfl (ok.kd hr) (by simp) (Nat.le_of_ble_eq_true rfl) ?_
                refine r_Row_addText (by omega) ok hr s142 (fun h149 m149 e149_1 e149_2 => ?_)
                have ok149 := m149.ok
                have M149 := Mo.tr ok (Mo.refl (A := (fun x => x = r)) ok) m149 (fun x e => e)
                refine w_aload_n d103_152 rfl ?_
                refine w_aload_n d103_153 rfl ?_
                refine w_dloadS d103_154 (ok149.kd kD) (fr135 ok149 kD) ?_
                refine w_iload d103_157 rfl ?_
                refine w_laloadV (x := (hd (inN (tgI (tD ts t)) i))) d103_159 (gi135 ok149 kD (by omega)) (by rw [m149.al ok (by have := kT135 ok kD; omega) (nA _ (ok.so.uT (by decide) (ok.so.uE (by omega) (ok.so.uT (by decide) U_refl))))]; exact b2) ?_
                refine w_callv2 d103_160 (by omega) rfl (ok149.kd hr) (by simp) (Nat.le_of_ble_eq_true rfl) ?_
                refine r_Row_addName (by omega) ok149 hr (fun h160 m160 e160_1 e160_2 => ?_)
                have ok160 := m160.ok
                have M160 := Mo.tr ok M149 m160 (fun x e => e)
                refine w_aload_n d103_163 rfl ?_
                refine w_aload_n d103_164 rfl ?_
                refine w_dloadS d103_165 (ok160.kd kD) (fr136 ok160 kD) ?_
                refine w_iload d103_168 rfl ?_
                refine w_laloadV (x := (tl (inN (tgI (tD ts t)) i))) d103_170 (gi136 ok160 kD (by omega)) (by rw [m160.al ok149 (by have := kT136 ok kD; omega) (nA _ (ok.so.uT (by decide) (ok.so.uE (by omega) (ok.so.uT (by decide) U_refl)))), m149.al ok (by have := kT136 ok kD; omega) (nA _ (ok.so.uT (by decide) (ok.so.uE (by omega) (ok.so.uT (by decide) U_refl))))]; exact b3) ?_
                refine w_callv2 d103_171 (by omega) rfl (ok160.kd hr) (by simp) (Nat.le_of_ble_eq_true rfl) ?_
                refine r_Row_addName (by omega) ok160 hr (fun h171 m171 e171_1 e171_2 => ?_)
                have ok171 := m171.ok
                have M171 := Mo.tr ok M160 m171 (fun x e => e)
                refine w_iconst d103_174 (by decide) ?_
                refine w_zreturn d103_175 (by decide) ?_
                refine kk h171 true M171 ⟨fun _ => by rw [ea]; simp [t2n, t3n], fun _ => rfl⟩ ?_ (by rw [e171_2, e160_2, e149_2])
                rw [e171_1, e160_1, e160_2, e149_1, e149_2, addBs3, addBs3, nm_back oi1, ea]
          · have hb : inB (tgI (tD ts t)) i = true := by cases q : inB (tgI (tD ts t)) i <;> simp_all [b2i]
            refine w_aload_n d103_93 rfl ?_
            refine w_aload_n d103_94 rfl ?_
            refine w_dloadS d103_95 (ok.kd kD) (fr135 ok kD) ?_
            refine w_iload d103_98 rfl ?_
            refine w_laloadV (x := (hd (inN (tgI (tD ts t)) i))) d103_100 (gi135 ok kD (by omega)) b2 ?_
            refine w_callv2 d103_101 (by omega) rfl (ok.kd hp) (by simp) (Nat.le_of_ble_eq_true rfl) ?_
            refine k_Plan_targetAt ok (by omega) hp tc0 ?_
            rw [show tatJ ts (hd (inN (tgI (tD ts t)) i)) = tat ts (inN (tgI (tD ts t)) i) by unfold tatJ tat; rw [tixJ_eq tc0.okn (oi2 hb)]]
            refine w_ifge d103_104 (fun c104 => ?_) (fun c104 => ?_)
            · have z : misP (fix fl) ts (tD ts t) i = false := by unfold misP; rw [if_pos hb]; exact decide_eq_false (by omega)
              refine w_iinc4 d103_176 rfl (by constructor <;> omega) ?_
              refine w_goto d103_179 ?_
              refine w_less ?_ (IH74 _ (by omega) (i + 1) rfl hu (by omega) (by rw [i2, srF_no hi z]))
              exact ⟨Or.inr rfl, Or.inr rfl, Or.inr rfl, Or.inr rfl, Or.inr rfl, trivial⟩
            · have z : misP (fix fl) ts (tD ts t) i = true := by unfold misP; rw [if_pos hb]; exact decide_eq_true (by omega)
              refine w_goto d103_107 ?_
              have ea := eah z
              refine w_aload_n d103_131 rfl ?_
              refine w_aload_n d103_132 rfl ?_
              refine w_dloadS d103_133 (ok.kd kD) (fr134 ok kD) ?_
              refine w_iload d103_136 rfl ?_
              refine w_baloadV (x := (b2i (inB (tgI (tD ts t)) i))) d103_138 (gi134 ok kD (by omega)) b1 ?_
              refine w_ifeq d103_139 (fun c139 => ?_) (fun c139 => ?_)
              · have hb2 := b2i_f.mp c139
                rw [if_neg (by rw [hb2]; decide)] at ea
                obtain ⟨g147, v147, s147⟩ := tg.tx ok 3 (by decide)
                refine w_getstaticS d103_147 v147 ?_
                refine w_callv2 d103_149 (by omega) rfl (ok.kd hr) (by simp) (Nat.le_of_ble_eq_true rfl) ?_
                refine r_Row_addText (by omega) ok hr s147 (fun h149 m149 e149_1 e149_2 => ?_)
                have ok149 := m149.ok
                have M149 := Mo.tr ok (Mo.refl (A := (fun x => x = r)) ok) m149 (fun x e => e)
                refine w_aload_n d103_152 rfl ?_
                refine w_aload_n d103_153 rfl ?_
                refine w_dloadS d103_154 (ok149.kd kD) (fr135 ok149 kD) ?_
                refine w_iload d103_157 rfl ?_
                refine w_laloadV (x := (hd (inN (tgI (tD ts t)) i))) d103_159 (gi135 ok149 kD (by omega)) (by rw [m149.al ok (by have := kT135 ok kD; omega) (nA _ (ok.so.uT (by decide) (ok.so.uE (by omega) (ok.so.uT (by decide) U_refl))))]; exact b2) ?_
                refine w_callv2 d103_160 (by omega) rfl (ok149.kd hr) (by simp) (Nat.le_of_ble_eq_true rfl) ?_
                refine r_Row_addName (by omega) ok149 hr (fun h160 m160 e160_1 e160_2 => ?_)
                have ok160 := m160.ok
                have M160 := Mo.tr ok M149 m160 (fun x e => e)
                refine w_aload_n d103_163 rfl ?_
                refine w_aload_n d103_164 rfl ?_
                refine w_dloadS d103_165 (ok160.kd kD) (fr136 ok160 kD) ?_
                refine w_iload d103_168 rfl ?_
                refine w_laloadV (x := (tl (inN (tgI (tD ts t)) i))) d103_170 (gi136 ok160 kD (by omega)) (by rw [m160.al ok149 (by have := kT136 ok kD; omega) (nA _ (ok.so.uT (by decide) (ok.so.uE (by omega) (ok.so.uT (by decide) U_refl)))), m149.al ok (by have := kT136 ok kD; omega) (nA _ (ok.so.uT (by decide) (ok.so.uE (by omega) (ok.so.uT (by decide) U_refl))))]; exact b3) ?_
                refine w_callv2 d103_171 (by omega) rfl (ok160.kd hr) (by simp) (Nat.le_of_ble_eq_true rfl) ?_
                refine r_Row_addName (by omega) ok160 hr (fun h171 m171 e171_1 e171_2 => ?_)
                have ok171 := m171.ok
                have M171 := Mo.tr ok M160 m171 (fun x e => e)
                refine w_iconst d103_174 (by decide) ?_
                refine w_zreturn d103_175 (by decide) ?_
                refine kk h171 true M171 ⟨fun _ => by rw [ea]; simp [t2n, t3n], fun _ => rfl⟩ ?_ (by rw [e171_2, e160_2, e149_2])
                rw [e171_1, e160_1, e160_2, e149_1, e149_2, addBs3, addBs3, nm_back oi1, ea]
              · have hb2 : inB (tgI (tD ts t)) i = true := by cases q : inB (tgI (tD ts t)) i <;> simp_all [b2i]
                rw [if_pos hb2] at ea
                obtain ⟨g142, v142, s142⟩ := tg.tx ok 2 (by decide)
                refine w_getstaticS d103_142 v142 ?_
                refine w_goto d103_144 ?_
                refine w_callv2 d103_149 (by omega) rfl (ok.kd hr) (by simp) (Nat.le_of_ble_eq_true rfl) ?_
                refine r_Row_addText (by omega) ok hr s142 (fun h149 m149 e149_1 e149_2 => ?_)
                have ok149 := m149.ok
                have M149 := Mo.tr ok (Mo.refl (A := (fun x => x = r)) ok) m149 (fun x e => e)
                refine w_aload_n d103_152 rfl ?_
                refine w_aload_n d103_153 rfl ?_
                refine w_dloadS d103_154 (ok149.kd kD) (fr135 ok149 kD) ?_
                refine w_iload d103_157 rfl ?_
                refine w_laloadV (x := (hd (inN (tgI (tD ts t)) i))) d103_159 (gi135 ok149 kD (by omega)) (by rw [m149.al ok (by have := kT135 ok kD; omega) (nA _ (ok.so.uT (by decide) (ok.so.uE (by omega) (ok.so.uT (by decide) U_refl))))]; exact b2) ?_
                refine w_callv2 d103_160 (by omega) rfl (ok149.kd hr) (by simp) (Nat.le_of_ble_eq_true rfl) ?_
                refine r_Row_addName (by omega) ok149 hr (fun h160 m160 e160_1 e160_2 => ?_)
                have ok160 := m160.ok
                have M160 := Mo.tr ok M149 m160 (fun x e => e)
                refine w_aload_n d103_163 rfl ?_
                refine w_aload_n d103_164 rfl ?_
                refine w_dloadS d103_165 (ok160.kd kD) (fr136 ok160 kD) ?_
                refine w_iload d103_168 rfl ?_
                refine w_laloadV (x := (tl (inN (tgI (tD ts t)) i))) d103_170 (gi136 ok160 kD (by omega)) (by rw [m160.al ok149 (by have := kT136 ok kD; omega) (nA _ (ok.so.uT (by decide) (ok.so.uE (by omega) (ok.so.uT (by decide) U_refl)))), m149.al ok (by have := kT136 ok kD; omega) (nA _ (ok.so.uT (by decide) (ok.so.uE (by omega) (ok.so.uT (by decide) U_refl))))]; exact b3) ?_
                refine w_callv2 d103_171 (by omega) rfl (ok160.kd hr) (by simp) (Nat.le_of_ble_eq_true rfl) ?_
                refine r_Row_addName (by omega) ok160 hr (fun h171 m171 e171_1 e171_2 => ?_)
                have ok171 := m171.ok
                have M171 := Mo.tr ok M160 m171 (fun x e => e)
                refine w_iconst d103_174 (by decide) ?_
                refine w_zreturn d103_175 (by decide) ?_
                refine kk h171 true M171 ⟨fun _ => by rw [ea]; simp [t2n, t3n], fun _ => rfl⟩ ?_ (by rw [e171_2, e160_2, e149_2])
                rw [e171_1, e160_1, e160_2, e149_1, e149_2, addBs3, addBs3, nm_back oi1, ea]
      refine w_lcmp d103_26 ?_
      refine w_ifeq d103_27 (fun c27 => ?_) (fun c27 => ?_)
      · have hc : tgC (tD ts t) = [] := (hd_z o5).mp (lcmp0.mp c27)
        have hu : ¬ unmet gs (tD ts t) := fun q => q.1 hc
        refine w_iconst d103_71 (by decide) ?_
        refine w_istore4 d103_72 rfl ?_
        refine w_less ?_ (L74 _ 0 rfl hu (by omega) rfl)
        exact ⟨Or.inr rfl, Or.inr rfl, Or.inr rfl, Or.inr rfl, Or.inr rfl, trivial⟩
      · have hc : tgC (tD ts t) ≠ [] := fun q => c27 (lcmp0.mpr ((hd_z o5).mpr q))
        refine w_aload_n d103_30 rfl ?_
        refine w_aload_n d103_31 rfl ?_
        refine w_floadV (x := (hd (tgC (tD ts t)))) d103_32 (ok.kd k19) d7 ?_
        refine w_callv2 d103_35 (by omega) rfl (ok.kd hp) (by simp) (Nat.le_of_ble_eq_true rfl) ?_
        refine k_Plan_flagAt ok (by omega) hp gc ?_
        rw [gixJ_eq gc.okn o5]
        have gr : -1 ≤ gix gs (tgC (tD ts t)) ∧ gix gs (tgC (tD ts t)) < gs.length := by have := gixJ_rg gs (hd (tgC (tD ts t))); rw [gixJ_eq gc.okn o5] at this; exact this
        have gl := gc.2.1
        refine w_istore4 d103_38 rfl ?_
        refine w_iload d103_40 rfl ?_
        refine w_ifge d103_42 (fun c42 => ?_) (fun c42 => ?_)
        · have gv : gval gs (tgC (tD ts t)) = gK gs (gix gs (tgC (tD ts t))).toNat := by unfold gval; rw [if_neg (by omega)]
          obtain ⟨g1, g2, g3⟩ := gc.2.2 (gix gs (tgC (tD ts t))).toNat (by omega)
          refine w_aload_n d103_49 rfl ?_
          refine w_dloadS d103_50 (ok.kd hp) (fr390 ok hp) ?_
          refine w_iload d103_53 rfl ?_
          refine w_ialoadV (x := ((gK gs (gix gs (tgC (tD ts t))).toNat : Nat) : Int)) d103_55 (gi390 ok hp (by omega)) g2 ?_
          refine w_aload_n d103_56 rfl ?_
          refine w_getI (x := ((tgK (tD ts t) : Nat) : Int)) d103_57 (ok.kd k19) d8 ?_
          refine w_icmpeq d103_60 (fun c60 => ?_) (fun c60 => ?_)
          · have hu : ¬ unmet gs (tD ts t) := fun q => q.2 (by omega)
            refine w_iconst d103_71 (by decide) ?_
            refine w_istore4 d103_72 rfl ?_
            refine w_less ?_ (L74 _ 0 rfl hu (by omega) rfl)
            exact ⟨Or.inr rfl, Or.inr rfl, Or.inr rfl, Or.inr rfl, Or.inr rfl, trivial⟩
          · have hu : tgC (tD ts t) ≠ [] ∧ gval gs (tgC (tD ts t)) ≠ tgK (tD ts t) := ⟨hc, by omega⟩
            have ea : ahead (fix fl) gs ts (tD ts t) = txt 1 := by unfold ahead; rw [if_pos hu]
            refine w_aload_n d103_63 rfl ?_
            obtain ⟨g64, v64, s64⟩ := tg.tx ok 1 (by decide)
            refine w_getstaticS d103_64 v64 ?_
            refine w_callv2 d103_66 (by omega) rfl (ok.kd hr) (by simp) (Nat.le_of_ble_eq_true rfl) ?_
            refine r_Row_addText (by omega) ok hr s64 (fun h66 m66 e66_1 e66_2 => ?_)
            have ok66 := m66.ok
            have M66 := Mo.tr ok (Mo.refl (A := (fun x => x = r)) ok) m66 (fun x e => e)
            refine w_iconst d103_69 (by decide) ?_
            refine w_zreturn d103_70 (by decide) ?_
            exact kk h66 true M66 ⟨fun _ => by rw [ea]; exact t1n, fun _ => rfl⟩ (by rw [ea]; exact e66_1) e66_2
        · have gv : gval gs (tgC (tD ts t)) = 0 := by unfold gval; rw [if_pos (by omega)]
          refine w_iconst d103_45 (by decide) ?_
          refine w_goto d103_46 ?_
          refine w_aload_n d103_56 rfl ?_
          refine w_getI (x := ((tgK (tD ts t) : Nat) : Int)) d103_57 (ok.kd k19) d8 ?_
          refine w_icmpeq d103_60 (fun c60 => ?_) (fun c60 => ?_)
          · have hu : ¬ unmet gs (tD ts t) := fun q => q.2 (by omega)
            refine w_iconst d103_71 (by decide) ?_
            refine w_istore4 d103_72 rfl ?_
            refine w_less ?_ (L74 _ 0 rfl hu (by omega) rfl)
            exact ⟨Or.inr rfl, Or.inr rfl, Or.inr rfl, Or.inr rfl, Or.inr rfl, trivial⟩
          · have hu : tgC (tD ts t) ≠ [] ∧ gval gs (tgC (tD ts t)) ≠ tgK (tD ts t) := ⟨hc, by omega⟩
            have ea : ahead (fix fl) gs ts (tD ts t) = txt 1 := by unfold ahead; rw [if_pos hu]
            refine w_aload_n d103_63 rfl ?_
            obtain ⟨g64, v64, s64⟩ := tg.tx ok 1 (by decide)
            refine w_getstaticS d103_64 v64 ?_
            refine w_callv2 d103_66 (by omega) rfl (ok.kd hr) (by simp) (Nat.le_of_ble_eq_true rfl) ?_
            refine r_Row_addText (by omega) ok hr s64 (fun h66 m66 e66_1 e66_2 => ?_)
            have ok66 := m66.ok
            have M66 := Mo.tr ok (Mo.refl (A := (fun x => x = r)) ok) m66 (fun x e => e)
            refine w_iconst d103_69 (by decide) ?_
            refine w_zreturn d103_70 (by decide) ?_
            exact kk h66 true M66 ⟨fun _ => by rw [ea]; exact t1n, fun _ => rfl⟩ (by rw [ea]; exact e66_1) e66_2
    · omega
