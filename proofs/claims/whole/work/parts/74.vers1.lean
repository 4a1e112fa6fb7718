/-! versions: rules -/
/-- a need's part (-1 of a wish), its version, the other part, low, high -/
abbrev RuV : Type := Int × Nat × Nat × Nat × Nat
def rOf (rs : List RuV) (k : Nat) : Int := (rs.getD k (-1, 0, 0, 0, 0)).1
def rWh (rs : List RuV) (k : Nat) : Nat := (rs.getD k (-1, 0, 0, 0, 0)).2.1
def rPa (rs : List RuV) (k : Nat) : Nat := (rs.getD k (-1, 0, 0, 0, 0)).2.2.1
def rLo (rs : List RuV) (k : Nat) : Nat := (rs.getD k (-1, 0, 0, 0, 0)).2.2.2.1
def rHi (rs : List RuV) (k : Nat) : Nat := (rs.getD k (-1, 0, 0, 0, 0)).2.2.2.2
def VrC (S : Shp) (h : Hp) (v : Nat) (rs : List RuV) : Prop := FI h 1024 v = rs.length ∧ rs.length ≤ 20 ∧ ∀ k, k < rs.length → AI h (sT S 1025 v) k = rOf rs k ∧ AI h (sT S 1026 v) k = (rWh rs k : Nat) ∧ AI h (sT S 1027 v) k = (rPa rs k : Nat) ∧ AI h (sT S 1028 v) k = (rLo rs k : Nat) ∧ AI h (sT S 1029 v) k = (rHi rs k : Nat) ∧
  (-1 ≤ rOf rs k ∧ rOf rs k ≤ 4) ∧ rWh rs k ≤ 3 ∧ rPa rs k ≤ 4 ∧ rLo rs k ≤ 3 ∧ rHi rs k ≤ 3
theorem VrC.fr {S : Shp} {h h' : Hp} {A : Nat → Prop} {v : Nat} {rs : List RuV} (ok : Ok S h) (m : Mo S A h h') (hv : sK S v = 9) (h0 : ¬ A v ∨ FI h' 1024 v = FI h 1024 v) (hT : ∀ f, 1025 ≤ f → f ≤ 1029 → ¬ A (sT S f v)) (D : VrC S h v rs) : VrC S h' v rs := by
  obtain ⟨d1, d2, d3⟩ := D
  have k5 := kT1025 ok hv
  have k6 := kT1026 ok hv
  have k7 := kT1027 ok hv
  have k8 := kT1028 ok hv
  have k9 := kT1029 ok hv
  refine ⟨?_, d2, fun k hk => ?_⟩
  · rcases h0 with h0 | h0
    · rw [m.fi ok (by omega) h0 1024]; exact d1
    · rw [h0]; exact d1
  · rw [m.ai ok (by omega) (hT 1025 (by decide) (by decide)), m.ai ok (by omega) (hT 1026 (by decide) (by decide)), m.ai ok (by omega) (hT 1027 (by decide) (by decide)), m.ai ok (by omega) (hT 1028 (by decide) (by decide)), m.ai ok (by omega) (hT 1029 (by decide) (by decide))]
    exact d3 k hk
theorem VrC.mo {S : Shp} {h h' : Hp} {A : Nat → Prop} {v : Nat} {rs : List RuV} (ok : Ok S h) (m : Mo S A h h') (hv : sK S v = 9) (hA : ∀ y, U S v y → ¬ A y) (D : VrC S h v rs) : VrC S h' v rs := D.fr ok m hv (Or.inl (hA v U_refl)) (fun f h1 h2 => hA _ (ok.so.uT (by omega) U_refl))
/-- is rule k broken by the values? -/
def brk (rs : List RuV) (vl : Nat → Int) (k : Nat) : Bool := decide (k < rs.length ∧ (rOf rs k < 0 ∨ vl (rOf rs k).toNat = (rWh rs k : Nat)) ∧ vl (rPa rs k) ≠ -1 ∧ (vl (rPa rs k) < (rLo rs k : Nat) ∨ (rHi rs k : Nat) < vl (rPa rs k)))
/-- the lowest broken rule; -1 without one -/
def lwb (rs : List RuV) (vl : Nat → Int) : Int := srF (brk rs vl) rs.length 0
theorem lwb_rg (rs : List RuV) (vl : Nat → Int) : -1 ≤ lwb rs vl ∧ lwb rs vl < rs.length := by
  rcases srF_rg (p := brk rs vl) (n := rs.length) (i := 0) with e | ⟨j, -, j2, e, hp⟩ <;> unfold lwb <;> omega
/-- a rule told -/
def ruTxt (rs : List RuV) (k : Nat) : List Nat := (if rOf rs k < 0 then [119] else 110 :: dec (rOf rs k).toNat ++ 32 :: dec (rWh rs k) ++ [32]) ++ dec (rPa rs k) ++ 32 :: dec (rLo rs k) ++ 32 :: dec (rHi rs k) ++ [59]
def rusTxt (rs : List RuV) : Nat → List Nat
  | 0 => []
  | k + 1 => rusTxt rs k ++ ruTxt rs k
/-- which text refuses a rule out of the numbers from a place on: 16 no part, 17 no version, 18 no room, 19 none -/
def rfs (nu : Nat → Int) (f : Nat) (n : Nat) : Nat :=
  if 5 ≤ nu f ∨ 0 < f ∧ 5 ≤ nu 0 then 16 else if nu (f + 1) < 1 ∨ 3 < nu (f + 2) ∨ nu (f + 2) < nu (f + 1) ∨ 0 < f ∧ (nu 1 < 1 ∨ 3 < nu 1) then 17 else if 20 ≤ n then 18 else 19
theorem d54_0 : dc 54 0 = some (.aload_n 0, 1) := by decide +kernel
theorem d54_1 : dc 54 1 = some (.iconst 0, 2) := by decide +kernel
theorem d54_2 : dc 54 2 = some (.putfield 1024, 5) := by decide +kernel
theorem d54_5 : dc 54 5 = some (.return_, 6) := by decide +kernel
theorem k_Vr_clear {S : Shp} {G : Nat → Option Nat} {d : Nat} {h : Hp} {Q : Option MV → Hp → Prop} {v : Nat}  (ok : Ok S h) (h1 : 0 ≤ d) (hv : sK S v = 9) 
    (kk : ∀ h', Mo S (fun y => y = v) h h' → VrC S h' v [] → (∀ f, AI h' (sT S f v) = AI h (sT S f v)) → Q none h') : Cl G d 54 [vR (some v)] h Q := by
  show Wp G d 54 0 [some (vR (some v))] [] h Q
  refine w_aload_n d54_0 rfl ?_
  refine w_iconst d54_1 (by decide) ?_
  refine wf1024 d54_2 ok hv (by omega) (fun h2 e2 m2 => ?_)
  have ok2 := m2.ok
  have M2 := Mo.tr ok (Mo.refl (A := (fun x => x = v)) ok) m2 (fun x e => e)
  refine w_return d54_5 ?_
  exact kk _ m2 ⟨by rw [e2, FI_sFI, if_pos ⟨rfl, rfl⟩]; rfl, by decide, fun k hk => absurd hk (Nat.not_lt_zero _)⟩ (fun f => by rw [e2]; rfl)
theorem d162_0 : dc 162 0 = some (.iload_n 1, 1) := by decide +kernel
theorem d162_1 : dc 162 1 = some (.ifCond .lt ((41 : Nat) : Int), 4) := by decide +kernel
theorem d162_4 : dc 162 4 = some (.iload_n 1, 5) := by decide +kernel
theorem d162_5 : dc 162 5 = some (.aload_n 0, 6) := by decide +kernel
theorem d162_6 : dc 162 6 = some (.getfield 1024, 9) := by decide +kernel
theorem d162_9 : dc 162 9 = some (.if_icmp .ge ((41 : Nat) : Int), 12) := by decide +kernel
theorem d162_12 : dc 162 12 = some (.aload_n 0, 13) := by decide +kernel
theorem d162_13 : dc 162 13 = some (.dload 1025, 16) := by decide +kernel
theorem d162_16 : dc 162 16 = some (.iload_n 1, 17) := by decide +kernel
theorem d162_17 : dc 162 17 = some (.iaload, 18) := by decide +kernel
theorem d162_18 : dc 162 18 = some (.ifCond .lt ((43 : Nat) : Int), 21) := by decide +kernel
theorem d162_21 : dc 162 21 = some (.aload_n 0, 22) := by decide +kernel
theorem d162_22 : dc 162 22 = some (.dload 1030, 25) := by decide +kernel
theorem d162_25 : dc 162 25 = some (.aload_n 0, 26) := by decide +kernel
theorem d162_26 : dc 162 26 = some (.dload 1025, 29) := by decide +kernel
theorem d162_29 : dc 162 29 = some (.iload_n 1, 30) := by decide +kernel
theorem d162_30 : dc 162 30 = some (.iaload, 31) := by decide +kernel
theorem d162_31 : dc 162 31 = some (.iaload, 32) := by decide +kernel
theorem d162_32 : dc 162 32 = some (.aload_n 0, 33) := by decide +kernel
theorem d162_33 : dc 162 33 = some (.dload 1026, 36) := by decide +kernel
theorem d162_36 : dc 162 36 = some (.iload_n 1, 37) := by decide +kernel
theorem d162_37 : dc 162 37 = some (.iaload, 38) := by decide +kernel
theorem d162_38 : dc 162 38 = some (.if_icmp .eq ((43 : Nat) : Int), 41) := by decide +kernel
theorem d162_41 : dc 162 41 = some (.iconst 0, 42) := by decide +kernel
theorem d162_42 : dc 162 42 = some (.freturn, 43) := by decide +kernel
theorem d162_43 : dc 162 43 = some (.aload_n 0, 44) := by decide +kernel
theorem d162_44 : dc 162 44 = some (.dload 1030, 47) := by decide +kernel
theorem d162_47 : dc 162 47 = some (.aload_n 0, 48) := by decide +kernel
theorem d162_48 : dc 162 48 = some (.dload 1027, 51) := by decide +kernel
theorem d162_51 : dc 162 51 = some (.iload_n 1, 52) := by decide +kernel
theorem d162_52 : dc 162 52 = some (.iaload, 53) := by decide +kernel
theorem d162_53 : dc 162 53 = some (.iaload, 54) := by decide +kernel
theorem d162_54 : dc 162 54 = some (.istore_n 2, 55) := by decide +kernel
theorem d162_55 : dc 162 55 = some (.iload_n 2, 56) := by decide +kernel
theorem d162_56 : dc 162 56 = some (.iconst (-1), 57) := by decide +kernel
theorem d162_57 : dc 162 57 = some (.if_icmp .eq ((84 : Nat) : Int), 60) := by decide +kernel
theorem d162_60 : dc 162 60 = some (.iload_n 2, 61) := by decide +kernel
theorem d162_61 : dc 162 61 = some (.aload_n 0, 62) := by decide +kernel
theorem d162_62 : dc 162 62 = some (.dload 1028, 65) := by decide +kernel
theorem d162_65 : dc 162 65 = some (.iload_n 1, 66) := by decide +kernel
theorem d162_66 : dc 162 66 = some (.iaload, 67) := by decide +kernel
theorem d162_67 : dc 162 67 = some (.if_icmp .lt ((80 : Nat) : Int), 70) := by decide +kernel
theorem d162_70 : dc 162 70 = some (.iload_n 2, 71) := by decide +kernel
theorem d162_71 : dc 162 71 = some (.aload_n 0, 72) := by decide +kernel
theorem d162_72 : dc 162 72 = some (.dload 1029, 75) := by decide +kernel
theorem d162_75 : dc 162 75 = some (.iload_n 1, 76) := by decide +kernel
theorem d162_76 : dc 162 76 = some (.iaload, 77) := by decide +kernel
theorem d162_77 : dc 162 77 = some (.if_icmp .le ((84 : Nat) : Int), 80) := by decide +kernel
theorem d162_80 : dc 162 80 = some (.iconst 1, 81) := by decide +kernel
theorem d162_81 : dc 162 81 = some (.goto ((85 : Nat) : Int), 84) := by decide +kernel
theorem d162_84 : dc 162 84 = some (.iconst 0, 85) := by decide +kernel
theorem d162_85 : dc 162 85 = some (.freturn, 86) := by decide +kernel
theorem k_Vr_isBroken {S : Shp} {G : Nat → Option Nat} {d : Nat} {h : Hp} {Q : Option MV → Hp → Prop} {v : Nat} {k : Int}  (ok : Ok S h) (h1 : 0 ≤ d) (hv : sK S v = 9) {rs : List RuV} (vc : VrC S h v rs)
    (kk : Q (some (vI (b2i (if 0 ≤ k then brk rs (AI h (sT S 1030 v)) k.toNat else false)))) h) : Cl G d 162 [vR (some v), vI k] h Q := by
  show Wp G d 162 0 [some (vR (some v)), some (vI k), none] [] h Q
  obtain ⟨q1, q2, q3⟩ := vc
  have ra := ra1030 ok hv
  generalize hb : (if 0 ≤ k then brk rs (AI h (sT S 1030 v)) k.toNat else false) = b at kk
  have un : b = true → 0 ≤ k ∧ (k.toNat < rs.length ∧ (rOf rs k.toNat < 0 ∨ AI h (sT S 1030 v) (rOf rs k.toNat).toNat = (rWh rs k.toNat : Nat)) ∧ AI h (sT S 1030 v) (rPa rs k.toNat) ≠ -1 ∧ (AI h (sT S 1030 v) (rPa rs k.toNat) < (rLo rs k.toNat : Nat) ∨ (rHi rs k.toNat : Nat) < AI h (sT S 1030 v) (rPa rs k.toNat))) := fun z => by
    rw [← hb] at z
    by_cases c : 0 ≤ k
    · rw [if_pos c] at z; exact ⟨c, of_decide_eq_true z⟩
    · rw [if_neg c] at z; cases z
  have yes : (0 ≤ k ∧ (k.toNat < rs.length ∧ (rOf rs k.toNat < 0 ∨ AI h (sT S 1030 v) (rOf rs k.toNat).toNat = (rWh rs k.toNat : Nat)) ∧ AI h (sT S 1030 v) (rPa rs k.toNat) ≠ -1 ∧ (AI h (sT S 1030 v) (rPa rs k.toNat) < (rLo rs k.toNat : Nat) ∨ (rHi rs k.toNat : Nat) < AI h (sT S 1030 v) (rPa rs k.toNat)))) → b = true := fun z => by rw [← hb, if_pos z.1]; exact decide_eq_true z.2
  refine w_iload_n d162_0 rfl ?_
  refine w_iflt d162_1 (fun c1 => ?_) (fun c1 => ?_)
  · refine w_iconst d162_41 (by decide) ?_
    refine w_zreturn d162_42 (by decide) ?_
    have bz : b = false := by
      cases hz : b with
      | true => exact absurd (un hz) (fun z => by omega)
      | false => rfl
    rw [bz] at kk
    exact kk
  · refine w_iload_n d162_4 rfl ?_
    refine w_aload_n d162_5 rfl ?_
    refine w_getI (x := (rs.length : Int)) d162_6 (ok.kd hv) q1 ?_
    refine w_icmpge d162_9 (fun c9 => ?_) (fun c9 => ?_)
    · refine w_iconst d162_41 (by decide) ?_
      refine w_zreturn d162_42 (by decide) ?_
      have bz : b = false := by
        cases hz : b with
        | true => exact absurd (un hz) (fun z => by omega)
        | false => rfl
      rw [bz] at kk
      exact kk
    · obtain ⟨c1, c2, c3, c4, c5, c6, c7, c8, c9, c0⟩ := q3 k.toNat (by omega)
      have pa5 := ra (rPa rs k.toNat)
      refine w_aload_n d162_12 rfl ?_
      refine w_dloadS d162_13 (ok.kd hv) (fr1025 ok hv) ?_
      refine w_iload_n d162_16 rfl ?_
      refine w_ialoadV (x := (rOf rs k.toNat)) d162_17 (gi1025 ok hv (by omega)) c1 ?_
      refine w_iflt d162_18 (fun c18 => ?_) (fun c18 => ?_)
      · have ro : rOf rs k.toNat < 0 ∨ AI h (sT S 1030 v) (rOf rs k.toNat).toNat = (rWh rs k.toNat : Nat) := Or.inl (by omega)
        refine w_aload_n d162_43 rfl ?_
        refine w_dloadS d162_44 (ok.kd hv) (fr1030 ok hv) ?_
        refine w_aload_n d162_47 rfl ?_
        refine w_dloadS d162_48 (ok.kd hv) (fr1027 ok hv) ?_
        refine w_iload_n d162_51 rfl ?_
        refine w_ialoadV (x := ((rPa rs k.toNat : Nat) : Int)) d162_52 (gi1027 ok hv (by omega)) c3 ?_
        refine w_ialoadN d162_53 (gi1030 ok hv (by omega)) ?_
        have r53 := ra1030 ok hv ((rPa rs k.toNat))
        refine w_istore2 d162_54 rfl ?_
        refine w_iload_n d162_55 rfl ?_
        refine w_iconst d162_56 (by decide) ?_
        refine w_icmpeq d162_57 (fun c57 => ?_) (fun c57 => ?_)
        · refine w_iconst d162_84 (by decide) ?_
          refine w_zreturn d162_85 (by decide) ?_
          have bz : b = false := by
            cases hz : b with
            | true => exact absurd (un hz) (fun z => z.2.2.2.1 (by omega))
            | false => rfl
          rw [bz] at kk
          exact kk
        · refine w_iload_n d162_60 rfl ?_
          refine w_aload_n d162_61 rfl ?_
          refine w_dloadS d162_62 (ok.kd hv) (fr1028 ok hv) ?_
          refine w_iload_n d162_65 rfl ?_
          refine w_ialoadV (x := ((rLo rs k.toNat : Nat) : Int)) d162_66 (gi1028 ok hv (by omega)) c4 ?_
          refine w_icmplt d162_67 (fun c67 => ?_) (fun c67 => ?_)
          · refine w_iconst d162_80 (by decide) ?_
            refine w_goto d162_81 ?_
            refine w_zreturn d162_85 (by decide) ?_
            rw [yes ⟨by omega, by omega, ro, by omega, Or.inl (by omega)⟩] at kk
            exact kk
          · refine w_iload_n d162_70 rfl ?_
            refine w_aload_n d162_71 rfl ?_
            refine w_dloadS d162_72 (ok.kd hv) (fr1029 ok hv) ?_
            refine w_iload_n d162_75 rfl ?_
            refine w_ialoadV (x := ((rHi rs k.toNat : Nat) : Int)) d162_76 (gi1029 ok hv (by omega)) c5 ?_
            refine w_icmple d162_77 (fun c77 => ?_) (fun c77 => ?_)
            · refine w_iconst d162_84 (by decide) ?_
              refine w_zreturn d162_85 (by decide) ?_
              have bz : b = false := by
                cases hz : b with
                | true => exact absurd (un hz) (fun z => by have := z.2.2.2.2; omega)
                | false => rfl
              rw [bz] at kk
              exact kk
            · refine w_iconst d162_80 (by decide) ?_
              refine w_goto d162_81 ?_
              refine w_zreturn d162_85 (by decide) ?_
              rw [yes ⟨by omega, by omega, ro, by omega, Or.inr (by omega)⟩] at kk
              exact kk
      · refine w_aload_n d162_21 rfl ?_
        refine w_dloadS d162_22 (ok.kd hv) (fr1030 ok hv) ?_
        refine w_aload_n d162_25 rfl ?_
        refine w_dloadS d162_26 (ok.kd hv) (fr1025 ok hv) ?_
        refine w_iload_n d162_29 rfl ?_
        refine w_ialoadV (x := (rOf rs k.toNat)) d162_30 (gi1025 ok hv (by omega)) c1 ?_
        refine w_iaload d162_31 (gi1030 ok hv (by omega)) ?_
        have r31 := ra1030 ok hv (((rOf rs k.toNat)).toNat)
        refine w_aload_n d162_32 rfl ?_
        refine w_dloadS d162_33 (ok.kd hv) (fr1026 ok hv) ?_
        refine w_iload_n d162_36 rfl ?_
        refine w_ialoadV (x := ((rWh rs k.toNat : Nat) : Int)) d162_37 (gi1026 ok hv (by omega)) c2 ?_
        refine w_icmpeq d162_38 (fun c38 => ?_) (fun c38 => ?_)
        · have ro : rOf rs k.toNat < 0 ∨ AI h (sT S 1030 v) (rOf rs k.toNat).toNat = (rWh rs k.toNat : Nat) := Or.inr (by omega)
          refine w_aload_n d162_43 rfl ?_
          refine w_dloadS d162_44 (ok.kd hv) (fr1030 ok hv) ?_
          refine w_aload_n d162_47 rfl ?_
          refine w_dloadS d162_48 (ok.kd hv) (fr1027 ok hv) ?_
          refine w_iload_n d162_51 rfl ?_
          refine w_ialoadV (x := ((rPa rs k.toNat : Nat) : Int)) d162_52 (gi1027 ok hv (by omega)) c3 ?_
          refine w_ialoadN d162_53 (gi1030 ok hv (by omega)) ?_
          have r53 := ra1030 ok hv ((rPa rs k.toNat))
          refine w_istore2 d162_54 rfl ?_
          refine w_iload_n d162_55 rfl ?_
          refine w_iconst d162_56 (by decide) ?_
          refine w_icmpeq d162_57 (fun c57 => ?_) (fun c57 => ?_)
          · refine w_iconst d162_84 (by decide) ?_
            refine w_zreturn d162_85 (by decide) ?_
            have bz : b = false := by
              cases hz : b with
              | true => exact absurd (un hz) (fun z => z.2.2.2.1 (by omega))
              | false => rfl
            rw [bz] at kk
            exact kk
          · refine w_iload_n d162_60 rfl ?_
            refine w_aload_n d162_61 rfl ?_
            refine w_dloadS d162_62 (ok.kd hv) (fr1028 ok hv) ?_
            refine w_iload_n d162_65 rfl ?_
            refine w_ialoadV (x := ((rLo rs k.toNat : Nat) : Int)) d162_66 (gi1028 ok hv (by omega)) c4 ?_
            refine w_icmplt d162_67 (fun c67 => ?_) (fun c67 => ?_)
            · refine w_iconst d162_80 (by decide) ?_
              refine w_goto d162_81 ?_
              refine w_zreturn d162_85 (by decide) ?_
              rw [yes ⟨by omega, by omega, ro, by omega, Or.inl (by omega)⟩] at kk
              exact kk
            · refine w_iload_n d162_70 rfl ?_
              refine w_aload_n d162_71 rfl ?_
              refine w_dloadS d162_72 (ok.kd hv) (fr1029 ok hv) ?_
              refine w_iload_n d162_75 rfl ?_
              refine w_ialoadV (x := ((rHi rs k.toNat : Nat) : Int)) d162_76 (gi1029 ok hv (by omega)) c5 ?_
              refine w_icmple d162_77 (fun c77 => ?_) (fun c77 => ?_)
              · refine w_iconst d162_84 (by decide) ?_
                refine w_zreturn d162_85 (by decide) ?_
                have bz : b = false := by
                  cases hz : b with
                  | true => exact absurd (un hz) (fun z => by have := z.2.2.2.2; omega)
                  | false => rfl
                rw [bz] at kk
                exact kk
              · refine w_iconst d162_80 (by decide) ?_
                refine w_goto d162_81 ?_
                refine w_zreturn d162_85 (by decide) ?_
                rw [yes ⟨by omega, by omega, ro, by omega, Or.inr (by omega)⟩] at kk
                exact kk
        · refine w_iconst d162_41 (by decide) ?_
          refine w_zreturn d162_42 (by decide) ?_
          have bz : b = false := by
            cases hz : b with
            | true => exact absurd (un hz) (fun z => by have := z.2.2.1; omega)
            | false => rfl
          rw [bz] at kk
          exact kk
theorem d161_0 : dc 161 0 = some (.iconst 0, 1) := by decide +kernel
theorem d161_1 : dc 161 1 = some (.istore_n 1, 2) := by decide +kernel
theorem d161_2 : dc 161 2 = some (.iload_n 1, 3) := by decide +kernel
theorem d161_3 : dc 161 3 = some (.aload_n 0, 4) := by decide +kernel
theorem d161_4 : dc 161 4 = some (.getfield 1024, 7) := by decide +kernel
theorem d161_7 : dc 161 7 = some (.if_icmp .ge ((26 : Nat) : Int), 10) := by decide +kernel
theorem d161_10 : dc 161 10 = some (.aload_n 0, 11) := by decide +kernel
theorem d161_11 : dc 161 11 = some (.iload_n 1, 12) := by decide +kernel
theorem d161_12 : dc 161 12 = some (.invokevirtual 162, 15) := by decide +kernel
theorem d161_15 : dc 161 15 = some (.ifCond .eq ((20 : Nat) : Int), 18) := by decide +kernel
theorem d161_18 : dc 161 18 = some (.iload_n 1, 19) := by decide +kernel
theorem d161_19 : dc 161 19 = some (.ireturn, 20) := by decide +kernel
theorem d161_20 : dc 161 20 = some (.iinc 1 1, 23) := by decide +kernel
theorem d161_23 : dc 161 23 = some (.goto ((2 : Nat) : Int), 26) := by decide +kernel
theorem d161_26 : dc 161 26 = some (.iconst (-1), 27) := by decide +kernel
theorem d161_27 : dc 161 27 = some (.ireturn, 28) := by decide +kernel
theorem k_Vr_lowestBroken {S : Shp} {G : Nat → Option Nat} {d : Nat} {h : Hp} {Q : Option MV → Hp → Prop} {v : Nat}  (ok : Ok S h) (h1 : 1 ≤ d) (hv : sK S v = 9) {rs : List RuV} (vc : VrC S h v rs)
    (kk : Q (some (vI (lwb rs (AI h (sT S 1030 v))))) h) : Cl G d 161 [vR (some v)] h Q := by
  show Wp G d 161 0 [some (vR (some v)), none] [] h Q
  have q1 := vc.1
  have q2 := vc.2.1
  refine w_iconst d161_0 (by decide) ?_
  refine w_istore1 d161_1 rfl ?_
  have L2 : ∀ (m2 : Nat) (i : Nat), rs.length - i = m2 → (i ≤ rs.length) → (srF (brk rs (AI h (sT S 1030 v))) rs.length 0 = srF (brk rs (AI h (sT S 1030 v))) rs.length i) → Wp G d 161 2 [some (vR (some v)), some (vI (i : Nat))] [] h Q := by
    intro m2
    induction m2 using Nat.strongRecOn with | ind m2 IH2 => ?_
    intro i hm2 i1 i2
    refine w_iload_n d161_2 rfl ?_
    refine w_aload_n d161_3 rfl ?_
    refine w_getI (x := (rs.length : Int)) d161_4 (ok.kd hv) q1 ?_
    refine w_icmpge d161_7 (fun c7 => ?_) (fun c7 => ?_)
    · refine w_iconst d161_26 (by decide) ?_
      refine w_ireturn d161_27 ?_
      unfold lwb at kk
      rw [i2, srF_end (by omega)] at kk
      exact kk
    · refine w_aload_n d161_10 rfl ?_
      refine w_iload_n d161_11 rfl ?_
      refine w_callv2 d161_12 (by omega) rfl (ok.kd hv) (by simp) (Nat.le_of_ble_eq_true rfl) ?_
      refine k_Vr_isBroken ok (by omega) hv vc ?_
      rw [if_pos (by omega), show ((i : Nat) : Int).toNat = i from rfl]
      refine w_ifeq d161_15 (fun c15 => ?_) (fun c15 => ?_)
      · have z := b2i_f.mp c15
        refine w_iinc1 d161_20 rfl (by constructor <;> omega) ?_
        refine w_goto d161_23 ?_
        refine w_less ?_ (IH2 _ (by omega) (i + 1) rfl (by omega) (by rw [i2, srF_no (by omega) z]))
        exact ⟨Or.inr rfl, Or.inr rfl, trivial⟩
      · have z := b2i_nz c15
        refine w_iload_n d161_18 rfl ?_
        refine w_ireturn d161_19 ?_
        unfold lwb at kk
        rw [i2, srF_yes (by omega) z] at kk
        exact kk
  refine w_less ?_ (L2 _ 0 rfl (by omega) rfl)
  exact ⟨Or.inr rfl, Or.inr rfl, trivial⟩
theorem d144_0 : dc 144 0 = some (.aload_n 0, 1) := by decide +kernel
theorem d144_1 : dc 144 1 = some (.aload_n 0, 2) := by decide +kernel
theorem d144_2 : dc 144 2 = some (.getfield 1024, 5) := by decide +kernel
theorem d144_5 : dc 144 5 = some (.iconst 1, 6) := by decide +kernel
theorem d144_6 : dc 144 6 = some (.isub, 7) := by decide +kernel
theorem d144_7 : dc 144 7 = some (.iconst 0, 8) := by decide +kernel
theorem d144_8 : dc 144 8 = some (.invokestatic 3, 11) := by decide +kernel
theorem d144_11 : dc 144 11 = some (.putfield 1024, 14) := by decide +kernel
theorem d144_14 : dc 144 14 = some (.return_, 15) := by decide +kernel
theorem k_Vr_removeLatest {S : Shp} {G : Nat → Option Nat} {d : Nat} {h : Hp} {Q : Option MV → Hp → Prop} {v : Nat}  (ok : Ok S h) (h1 : 1 ≤ d) (hv : sK S v = 9) {rs : List RuV} (vc : VrC S h v rs)
    (kk : ∀ h', Mo S (fun y => y = v) h h' → VrC S h' v rs.dropLast → (∀ f, AI h' (sT S f v) = AI h (sT S f v)) → Q none h') : Cl G d 144 [vR (some v)] h Q := by
  show Wp G d 144 0 [some (vR (some v))] [] h Q
  obtain ⟨q1, q2, q3⟩ := vc
  refine w_aload_n d144_0 rfl ?_
  refine w_aload_n d144_1 rfl ?_
  refine w_getI (x := ((rs.length : Nat) : Int)) d144_2 (ok.kd hv) q1 ?_
  refine w_iconst d144_5 (by decide) ?_
  refine w_isub d144_6 (by constructor <;> omega) ?_
  refine w_iconst d144_7 (by decide) ?_
  refine w_max d144_8 (by refine ⟨by simp, ?_⟩; omega) ?_
  refine wf1024 d144_11 ok hv (by split <;> omega) (fun h11 e11 m11 => ?_)
  have ok11 := m11.ok
  have M11 := Mo.tr ok (Mo.refl (A := (fun x => x = v)) ok) m11 (fun x e => e)
  refine w_return d144_14 ?_
  refine kk _ m11 ⟨by rw [e11, FI_sFI, if_pos ⟨rfl, rfl⟩, List.length_dropLast]; split <;> omega, by rw [List.length_dropLast]; omega, fun k hk => ?_⟩ (fun f => by rw [e11]; rfl)
  rw [List.length_dropLast] at hk
  have e : rs.dropLast.getD k (-1, 0, 0, 0, 0) = rs.getD k (-1, 0, 0, 0, 0) := by rw [List.getD_eq_getElem?_getD, List.getD_eq_getElem?_getD, List.getElem?_dropLast, if_pos (by omega)]
  have z := q3 k (by omega)
  unfold rOf rWh rPa rLo rHi at z ⊢
  rw [e, e11]
  exact z
