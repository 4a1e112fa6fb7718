/-! the reference: outcomes copied, compared -/
theorem SgC.set {S : Shp} {h h' : Hp} {b i : Nat} {l : List Nat} {x : Int} (D : SgC S h b 0 (l.take i)) (hi : i < l.length) (e : h' = sAI h b i x) (hx : x = ((l.getD i 0 : Nat) : Int)) (hr : i < sL S b) : SgC S h' b 0 (l.take (i + 1)) := by
  have e1 : (l.take i).length = i := by rw [List.length_take]; omega
  rw [take_succ hi]
  refine D.snoc ?_ (by omega)
  rw [e1, Nat.zero_add, e, hx]
/-- the outcome at o is being made that of y: i, j, k numbers of the three are there -/
def CpI (S : Shp) (h : Hp) (o i j k : Nat) (x : OmV) : Prop := FI h 1537 o = x.1.length ∧ FI h 1539 o = x.2.1.length ∧ FI h 1541 o = x.2.2.length ∧ SgC S h (sT S 1536 o) 0 (x.1.take i) ∧ SgC S h (sT S 1538 o) 0 (x.2.1.take j) ∧ SgC S h (sT S 1540 o) 0 (x.2.2.take k)
section CPF
variable {S : Shp} {h h' : Hp} {o i j k : Nat} {x : OmV} {v : Int}
theorem CpI.w1 (ok : Ok S h) (ho : sK S o = 13) (m : Mo S (fun y => y = sT S 1536 o) h h') (e : h' = sAI h (sT S 1536 o) i v) (hi : i < x.1.length) (hx : v = ((x.1.getD i 0 : Nat) : Int)) (hr : x.1.length ≤ 600) (D : CpI S h o i j k x) : CpI S h' o (i + 1) j k x := by
  obtain ⟨d1, d2, d3, d4, d5, d6⟩ := D
  have s1 := sLT ok (f := 1536) (n := 600) ho (by decide) rfl (by decide)
  have nO : ¬ o = sT S 1536 o := fun z => ok.so.pT (f := 1536) (by decide) z.symm
  exact ⟨(m.fi ok (by omega) nO _).trans d1, (m.fi ok (by omega) nO _).trans d2, (m.fi ok (by omega) nO _).trans d3, d4.set hi e hx (by omega), d5.mo ok m (fun z => absurd ((ok.so.inj (by decide) (by decide)).mp z).1 (by decide)), d6.mo ok m (fun z => absurd ((ok.so.inj (by decide) (by decide)).mp z).1 (by decide))⟩
theorem CpI.w2 (ok : Ok S h) (ho : sK S o = 13) (m : Mo S (fun y => y = sT S 1538 o) h h') (e : h' = sAI h (sT S 1538 o) j v) (hi : j < x.2.1.length) (hx : v = ((x.2.1.getD j 0 : Nat) : Int)) (hr : x.2.1.length ≤ 600) (D : CpI S h o i j k x) : CpI S h' o i (j + 1) k x := by
  obtain ⟨d1, d2, d3, d4, d5, d6⟩ := D
  have s1 := sLT ok (f := 1538) (n := 600) ho (by decide) rfl (by decide)
  have nO : ¬ o = sT S 1538 o := fun z => ok.so.pT (f := 1538) (by decide) z.symm
  exact ⟨(m.fi ok (by omega) nO _).trans d1, (m.fi ok (by omega) nO _).trans d2, (m.fi ok (by omega) nO _).trans d3, d4.mo ok m (fun z => absurd ((ok.so.inj (by decide) (by decide)).mp z).1 (by decide)), d5.set hi e hx (by omega), d6.mo ok m (fun z => absurd ((ok.so.inj (by decide) (by decide)).mp z).1 (by decide))⟩
theorem CpI.w3 (ok : Ok S h) (ho : sK S o = 13) (m : Mo S (fun y => y = sT S 1540 o) h h') (e : h' = sAI h (sT S 1540 o) k v) (hi : k < x.2.2.length) (hx : v = ((x.2.2.getD k 0 : Nat) : Int)) (hr : x.2.2.length ≤ 40) (D : CpI S h o i j k x) : CpI S h' o i j (k + 1) x := by
  obtain ⟨d1, d2, d3, d4, d5, d6⟩ := D
  have s1 := sLT ok (f := 1540) (n := 40) ho (by decide) rfl (by decide)
  have nO : ¬ o = sT S 1540 o := fun z => ok.so.pT (f := 1540) (by decide) z.symm
  exact ⟨(m.fi ok (by omega) nO _).trans d1, (m.fi ok (by omega) nO _).trans d2, (m.fi ok (by omega) nO _).trans d3, d4.mo ok m (fun z => absurd ((ok.so.inj (by decide) (by decide)).mp z).1 (by decide)), d5.mo ok m (fun z => absurd ((ok.so.inj (by decide) (by decide)).mp z).1 (by decide)), d6.set hi e hx (by omega)⟩
end CPF
theorem d263_0 : dc 263 0 = some (.aload_n 0, 1) := by decide +kernel
theorem d263_1 : dc 263 1 = some (.aload_n 1, 2) := by decide +kernel
theorem d263_2 : dc 263 2 = some (.getfield 1537, 5) := by decide +kernel
theorem d263_5 : dc 263 5 = some (.putfield 1537, 8) := by decide +kernel
theorem d263_8 : dc 263 8 = some (.aload_n 0, 9) := by decide +kernel
theorem d263_9 : dc 263 9 = some (.aload_n 1, 10) := by decide +kernel
theorem d263_10 : dc 263 10 = some (.getfield 1539, 13) := by decide +kernel
theorem d263_13 : dc 263 13 = some (.putfield 1539, 16) := by decide +kernel
theorem d263_16 : dc 263 16 = some (.aload_n 0, 17) := by decide +kernel
theorem d263_17 : dc 263 17 = some (.aload_n 1, 18) := by decide +kernel
theorem d263_18 : dc 263 18 = some (.getfield 1541, 21) := by decide +kernel
theorem d263_21 : dc 263 21 = some (.putfield 1541, 24) := by decide +kernel
theorem d263_24 : dc 263 24 = some (.iconst 0, 25) := by decide +kernel
theorem d263_25 : dc 263 25 = some (.istore_n 2, 26) := by decide +kernel
theorem d263_26 : dc 263 26 = some (.iload_n 2, 27) := by decide +kernel
theorem d263_27 : dc 263 27 = some (.aload_n 0, 28) := by decide +kernel
theorem d263_28 : dc 263 28 = some (.getfield 1537, 31) := by decide +kernel
theorem d263_31 : dc 263 31 = some (.if_icmp .ge ((52 : Nat) : Int), 34) := by decide +kernel
theorem d263_34 : dc 263 34 = some (.aload_n 0, 35) := by decide +kernel
theorem d263_35 : dc 263 35 = some (.dload 1536, 38) := by decide +kernel
theorem d263_38 : dc 263 38 = some (.iload_n 2, 39) := by decide +kernel
theorem d263_39 : dc 263 39 = some (.aload_n 1, 40) := by decide +kernel
theorem d263_40 : dc 263 40 = some (.dload 1536, 43) := by decide +kernel
theorem d263_43 : dc 263 43 = some (.iload_n 2, 44) := by decide +kernel
theorem d263_44 : dc 263 44 = some (.iaload, 45) := by decide +kernel
theorem d263_45 : dc 263 45 = some (.iastore, 46) := by decide +kernel
theorem d263_46 : dc 263 46 = some (.iinc 2 1, 49) := by decide +kernel
theorem d263_49 : dc 263 49 = some (.goto ((26 : Nat) : Int), 52) := by decide +kernel
theorem d263_52 : dc 263 52 = some (.iconst 0, 53) := by decide +kernel
theorem d263_53 : dc 263 53 = some (.istore_n 2, 54) := by decide +kernel
theorem d263_54 : dc 263 54 = some (.iload_n 2, 55) := by decide +kernel
theorem d263_55 : dc 263 55 = some (.aload_n 0, 56) := by decide +kernel
theorem d263_56 : dc 263 56 = some (.getfield 1539, 59) := by decide +kernel
theorem d263_59 : dc 263 59 = some (.if_icmp .ge ((80 : Nat) : Int), 62) := by decide +kernel
theorem d263_62 : dc 263 62 = some (.aload_n 0, 63) := by decide +kernel
theorem d263_63 : dc 263 63 = some (.dload 1538, 66) := by decide +kernel
theorem d263_66 : dc 263 66 = some (.iload_n 2, 67) := by decide +kernel
theorem d263_67 : dc 263 67 = some (.aload_n 1, 68) := by decide +kernel
theorem d263_68 : dc 263 68 = some (.dload 1538, 71) := by decide +kernel
theorem d263_71 : dc 263 71 = some (.iload_n 2, 72) := by decide +kernel
theorem d263_72 : dc 263 72 = some (.iaload, 73) := by decide +kernel
theorem d263_73 : dc 263 73 = some (.iastore, 74) := by decide +kernel
theorem d263_74 : dc 263 74 = some (.iinc 2 1, 77) := by decide +kernel
theorem d263_77 : dc 263 77 = some (.goto ((54 : Nat) : Int), 80) := by decide +kernel
theorem d263_80 : dc 263 80 = some (.iconst 0, 81) := by decide +kernel
theorem d263_81 : dc 263 81 = some (.istore_n 2, 82) := by decide +kernel
theorem d263_82 : dc 263 82 = some (.iload_n 2, 83) := by decide +kernel
theorem d263_83 : dc 263 83 = some (.aload_n 0, 84) := by decide +kernel
theorem d263_84 : dc 263 84 = some (.getfield 1541, 87) := by decide +kernel
theorem d263_87 : dc 263 87 = some (.if_icmp .ge ((108 : Nat) : Int), 90) := by decide +kernel
theorem d263_90 : dc 263 90 = some (.aload_n 0, 91) := by decide +kernel
theorem d263_91 : dc 263 91 = some (.dload 1540, 94) := by decide +kernel
theorem d263_94 : dc 263 94 = some (.iload_n 2, 95) := by decide +kernel
theorem d263_95 : dc 263 95 = some (.aload_n 1, 96) := by decide +kernel
theorem d263_96 : dc 263 96 = some (.dload 1540, 99) := by decide +kernel
theorem d263_99 : dc 263 99 = some (.iload_n 2, 100) := by decide +kernel
theorem d263_100 : dc 263 100 = some (.iaload, 101) := by decide +kernel
theorem d263_101 : dc 263 101 = some (.iastore, 102) := by decide +kernel
theorem d263_102 : dc 263 102 = some (.iinc 2 1, 105) := by decide +kernel
theorem d263_105 : dc 263 105 = some (.goto ((82 : Nat) : Int), 108) := by decide +kernel
theorem d263_108 : dc 263 108 = some (.return_, 109) := by decide +kernel
theorem k_O_copy {S : Shp} {G : Nat → Option Nat} {d : Nat} {h : Hp} {Q : Option MV → Hp → Prop} {o : Nat} {y : Nat} {x : OmV} (ok : Ok S h) (h1 : 0 ≤ d) (ho : sK S o = 13) (hy : sK S y = 13) (OM : OmC S h y x) (nyU : ∀ z, U S y z → ¬ U S o z)
    (kk : ∀ h', Mo S (fun y => U S o y) h h' → OmC S h' o (x) → Q none h') : Cl G d 263 [vR (some o), vR (some y)] h Q := by
  show Wp G d 263 0 [some (vR (some o)), some (vR (some y)), none] [] h Q
  have s1 := sLT ok (f := 1536) (n := 600) ho (by decide) rfl (by decide)
  have s2 := sLT ok (f := 1538) (n := 600) ho (by decide) rfl (by decide)
  have s3 := sLT ok (f := 1540) (n := 40) ho (by decide) rfl (by decide)
  have kk1 := kT1536 ok ho
  have kk2 := kT1538 ok ho
  have kk3 := kT1540 ok ho
  have nyo : ¬ y = o := fun z => nyU y U_refl (z ▸ U_refl)
  have le := OM.le ok hy
  refine w_aload_n d263_0 rfl ?_
  refine w_aload_n d263_1 rfl ?_
  refine w_getI (x := ((x.1.length : Nat) : Int)) d263_2 (ok.kd hy) OM.1 ?_
  refine wf1537 d263_5 ok ho (by omega) (fun h5 e5 m5 => ?_)
  have ok5 := m5.ok
  have M5 := Mo.tr ok (Mo.refl (A := (fun ζ => U S o ζ)) ok) m5 (fun ζ e => (e ▸ U_refl))
  refine w_aload_n d263_8 rfl ?_
  refine w_aload_n d263_9 rfl ?_
  refine w_getI (x := ((x.2.1.length : Nat) : Int)) d263_10 (ok5.kd hy) ((m5.fi ok (by omega) nyo 1539).trans OM.2.1) ?_
  refine wf1539 d263_13 ok5 ho (by omega) (fun h13 e13 m13 => ?_)
  have ok13 := m13.ok
  have M13 := Mo.tr ok M5 m13 (fun ζ e => (e ▸ U_refl))
  refine w_aload_n d263_16 rfl ?_
  refine w_aload_n d263_17 rfl ?_
  refine w_getI (x := ((x.2.2.length : Nat) : Int)) d263_18 (ok13.kd hy) ((m13.fi ok5 (by omega) nyo 1541).trans ((m5.fi ok (by omega) nyo 1541).trans OM.2.2.1)) ?_
  refine wf1541 d263_21 ok13 ho (by omega) (fun h21 e21 m21 => ?_)
  have ok21 := m21.ok
  have M21 := Mo.tr ok M13 m21 (fun ζ e => (e ▸ U_refl))
  refine w_iconst d263_24 (by decide) ?_
  refine w_istore2 d263_25 rfl ?_
  have L26 : ∀ (m26 : Nat) (g26 : Hp) (i : Nat), x.1.length - i = m26 → Mo S (fun ζ => U S o ζ) h g26 → (CpI S g26 o i 0 0 x) → Wp G d 263 26 [some (vR (some o)), some (vR (some y)), some (vI (i : Nat))] [] g26 Q := by
    intro m26
    induction m26 using Nat.strongRecOn with | ind m26 IH26 => ?_
    intro g26 i hm26 Mg26 CI
    have okg26 := Mg26.ok
    refine w_iload_n d263_26 rfl ?_
    refine w_aload_n d263_27 rfl ?_
    refine w_getI (x := ((x.1.length : Nat) : Int)) d263_28 (okg26.kd ho) CI.1 ?_
    refine w_icmpge d263_31 (fun c31 => ?_) (fun c31 => ?_)
    · have hi : x.1.length ≤ i := by omega
      refine w_iconst d263_52 (by decide) ?_
      refine w_istore2 d263_53 rfl ?_
      have L54 : ∀ (m54 : Nat) (g54 : Hp) (i : Nat), x.2.1.length - i = m54 → Mo S (fun ζ => U S o ζ) h g54 → (CpI S g54 o x.1.length i 0 x) → Wp G d 263 54 [some (vR (some o)), some (vR (some y)), some (vI (i : Nat))] [] g54 Q := by
        intro m54
        induction m54 using Nat.strongRecOn with | ind m54 IH54 => ?_
        intro g54 i hm54 Mg54 CI
        have okg54 := Mg54.ok
        refine w_iload_n d263_54 rfl ?_
        refine w_aload_n d263_55 rfl ?_
        refine w_getI (x := ((x.2.1.length : Nat) : Int)) d263_56 (okg54.kd ho) CI.2.1 ?_
        refine w_icmpge d263_59 (fun c59 => ?_) (fun c59 => ?_)
        · have hi : x.2.1.length ≤ i := by omega
          refine w_iconst d263_80 (by decide) ?_
          refine w_istore2 d263_81 rfl ?_
          have L82 : ∀ (m82 : Nat) (g82 : Hp) (i : Nat), x.2.2.length - i = m82 → Mo S (fun ζ => U S o ζ) h g82 → (CpI S g82 o x.1.length x.2.1.length i x) → Wp G d 263 82 [some (vR (some o)), some (vR (some y)), some (vI (i : Nat))] [] g82 Q := by
            intro m82
            induction m82 using Nat.strongRecOn with | ind m82 IH82 => ?_
            intro g82 i hm82 Mg82 CI
            have okg82 := Mg82.ok
            refine w_iload_n d263_82 rfl ?_
            refine w_aload_n d263_83 rfl ?_
            refine w_getI (x := ((x.2.2.length : Nat) : Int)) d263_84 (okg82.kd ho) CI.2.2.1 ?_
            refine w_icmpge d263_87 (fun c87 => ?_) (fun c87 => ?_)
            · have hi : x.2.2.length ≤ i := by omega
              refine w_return d263_108 ?_
              obtain ⟨c1, c2, c3, c4, c5, c6⟩ := CI
              rw [List.take_of_length_le (Nat.le_refl _)] at c4 c5
              rw [List.take_of_length_le hi] at c6
              exact kk g82 Mg82 ⟨c1, c2, c3, c4, c5, c6⟩
            · have hi : i < x.2.2.length := by omega
              have Y := OM.u ok Mg82 hy nyU
              have rb := ra1540 okg82 hy i
              rw [Y.2.2.2.2.2.at0 hi] at rb
              refine w_aload_n d263_90 rfl ?_
              refine w_dloadS d263_91 (okg82.kd ho) (fr1540 okg82 ho) ?_
              refine w_iload_n d263_94 rfl ?_
              refine w_aload_n d263_95 rfl ?_
              refine w_dloadS d263_96 (okg82.kd hy) (fr1540 okg82 hy) ?_
              refine w_iload_n d263_99 rfl ?_
              refine w_ialoadV (x := ((x.2.2.getD i 0 : Nat) : Int)) d263_100 (gi1540 okg82 hy (by omega)) (Y.2.2.2.2.2.at0 hi) ?_
              refine wa1540 d263_101 okg82 ho (by omega) (by omega) (fun h101 e101 m101 => ?_)
              have e101 : h101 = sAI g82 (sT S 1540 o) i ((x.2.2.getD i 0 : Nat) : Int) := e101
              have ok101 := m101.ok
              have M101 := Mo.tr ok Mg82 m101 (fun ζ e => (e ▸ (ok.so.uT (by decide) U_refl)))
              refine w_iinc2 d263_102 rfl (by constructor <;> omega) ?_
              refine w_goto d263_105 ?_
              rw [show ((i : Nat) : Int) + 1 = ((i + 1 : Nat) : Int) by omega]
              have CI2 := CI.w3 okg82 ho m101 e101 hi rfl (by omega)
              refine w_less ?_ (IH82 _ (by omega) h101 (i + 1) rfl M101 CI2)
              exact ⟨Or.inr rfl, Or.inr rfl, Or.inr rfl, trivial⟩
          have CI : CpI S g54 o x.1.length x.2.1.length 0 x := by
            obtain ⟨c1, c2, c3, c4, c5, c6⟩ := CI
            rw [List.take_of_length_le hi] at c5
            exact ⟨c1, c2, c3, c4, by rw [List.take_of_length_le (Nat.le_refl _)]; exact c5, c6⟩
          refine w_less ?_ (L82 _ g54 0 rfl Mg54 CI)
          exact ⟨Or.inr rfl, Or.inr rfl, Or.inr rfl, trivial⟩
        · have hi : i < x.2.1.length := by omega
          have Y := OM.u ok Mg54 hy nyU
          have rb := ra1538 okg54 hy i
          rw [Y.2.2.2.2.1.at0 hi] at rb
          refine w_aload_n d263_62 rfl ?_
          refine w_dloadS d263_63 (okg54.kd ho) (fr1538 okg54 ho) ?_
          refine w_iload_n d263_66 rfl ?_
          refine w_aload_n d263_67 rfl ?_
          refine w_dloadS d263_68 (okg54.kd hy) (fr1538 okg54 hy) ?_
          refine w_iload_n d263_71 rfl ?_
          refine w_ialoadV (x := ((x.2.1.getD i 0 : Nat) : Int)) d263_72 (gi1538 okg54 hy (by omega)) (Y.2.2.2.2.1.at0 hi) ?_
          refine wa1538 d263_73 okg54 ho (by omega) (by omega) (fun h73 e73 m73 => ?_)
          have e73 : h73 = sAI g54 (sT S 1538 o) i ((x.2.1.getD i 0 : Nat) : Int) := e73
          have ok73 := m73.ok
          have M73 := Mo.tr ok Mg54 m73 (fun ζ e => (e ▸ (ok.so.uT (by decide) U_refl)))
          refine w_iinc2 d263_74 rfl (by constructor <;> omega) ?_
          refine w_goto d263_77 ?_
          rw [show ((i : Nat) : Int) + 1 = ((i + 1 : Nat) : Int) by omega]
          have CI2 := CI.w2 okg54 ho m73 e73 hi rfl (by omega)
          refine w_less ?_ (IH54 _ (by omega) h73 (i + 1) rfl M73 CI2)
          exact ⟨Or.inr rfl, Or.inr rfl, Or.inr rfl, trivial⟩
      have CI : CpI S g26 o x.1.length 0 0 x := by
        obtain ⟨c1, c2, c3, c4, c5, c6⟩ := CI
        rw [List.take_of_length_le hi] at c4
        exact ⟨c1, c2, c3, by rw [List.take_of_length_le (Nat.le_refl _)]; exact c4, c5, c6⟩
      refine w_less ?_ (L54 _ g26 0 rfl Mg26 CI)
      exact ⟨Or.inr rfl, Or.inr rfl, Or.inr rfl, trivial⟩
    · have hi : i < x.1.length := by omega
      have Y := OM.u ok Mg26 hy nyU
      have rb := ra1536 okg26 hy i
      rw [Y.2.2.2.1.at0 hi] at rb
      refine w_aload_n d263_34 rfl ?_
      refine w_dloadS d263_35 (okg26.kd ho) (fr1536 okg26 ho) ?_
      refine w_iload_n d263_38 rfl ?_
      refine w_aload_n d263_39 rfl ?_
      refine w_dloadS d263_40 (okg26.kd hy) (fr1536 okg26 hy) ?_
      refine w_iload_n d263_43 rfl ?_
      refine w_ialoadV (x := ((x.1.getD i 0 : Nat) : Int)) d263_44 (gi1536 okg26 hy (by omega)) (Y.2.2.2.1.at0 hi) ?_
      refine wa1536 d263_45 okg26 ho (by omega) (by omega) (fun h45 e45 m45 => ?_)
      have e45 : h45 = sAI g26 (sT S 1536 o) i ((x.1.getD i 0 : Nat) : Int) := e45
      have ok45 := m45.ok
      have M45 := Mo.tr ok Mg26 m45 (fun ζ e => (e ▸ (ok.so.uT (by decide) U_refl)))
      refine w_iinc2 d263_46 rfl (by constructor <;> omega) ?_
      refine w_goto d263_49 ?_
      rw [show ((i : Nat) : Int) + 1 = ((i + 1 : Nat) : Int) by omega]
      have CI2 := CI.w1 okg26 ho m45 e45 hi rfl (by omega)
      refine w_less ?_ (IH26 _ (by omega) h45 (i + 1) rfl M45 CI2)
      exact ⟨Or.inr rfl, Or.inr rfl, Or.inr rfl, trivial⟩
  have CI : CpI S h21 o 0 0 0 x := ⟨by rw [e21, FI_sFI, if_neg (by simp), e13, FI_sFI, if_neg (by simp), e5, FI_sFI, if_pos ⟨rfl, rfl⟩], by rw [e21, FI_sFI, if_neg (by simp), e13, FI_sFI, if_pos ⟨rfl, rfl⟩], by rw [e21, FI_sFI, if_pos ⟨rfl, rfl⟩], SgC.nil kk1 (Nat.zero_le _) (by omega), SgC.nil kk2 (Nat.zero_le _) (by omega), SgC.nil kk3 (Nat.zero_le _) (by omega)⟩
  refine w_less ?_ (L26 _ h21 0 rfl M21 CI)
  exact ⟨Or.inr rfl, Or.inr rfl, Or.inr rfl, trivial⟩
theorem d308_0 : dc 308 0 = some (.aload_n 0, 1) := by decide +kernel
theorem d308_1 : dc 308 1 = some (.getfield 1537, 4) := by decide +kernel
theorem d308_4 : dc 308 4 = some (.aload_n 1, 5) := by decide +kernel
theorem d308_5 : dc 308 5 = some (.getfield 1537, 8) := by decide +kernel
theorem d308_8 : dc 308 8 = some (.if_icmp .ne ((22 : Nat) : Int), 11) := by decide +kernel
theorem d308_11 : dc 308 11 = some (.aload_n 0, 12) := by decide +kernel
theorem d308_12 : dc 308 12 = some (.getfield 1539, 15) := by decide +kernel
theorem d308_15 : dc 308 15 = some (.aload_n 1, 16) := by decide +kernel
theorem d308_16 : dc 308 16 = some (.getfield 1539, 19) := by decide +kernel
theorem d308_19 : dc 308 19 = some (.if_icmp .eq ((24 : Nat) : Int), 22) := by decide +kernel
theorem d308_22 : dc 308 22 = some (.iconst 0, 23) := by decide +kernel
theorem d308_23 : dc 308 23 = some (.freturn, 24) := by decide +kernel
theorem d308_24 : dc 308 24 = some (.iconst 0, 25) := by decide +kernel
theorem d308_25 : dc 308 25 = some (.istore_n 2, 26) := by decide +kernel
theorem d308_26 : dc 308 26 = some (.iload_n 2, 27) := by decide +kernel
theorem d308_27 : dc 308 27 = some (.aload_n 0, 28) := by decide +kernel
theorem d308_28 : dc 308 28 = some (.getfield 1537, 31) := by decide +kernel
theorem d308_31 : dc 308 31 = some (.if_icmp .ge ((57 : Nat) : Int), 34) := by decide +kernel
theorem d308_34 : dc 308 34 = some (.aload_n 0, 35) := by decide +kernel
theorem d308_35 : dc 308 35 = some (.dload 1536, 38) := by decide +kernel
theorem d308_38 : dc 308 38 = some (.iload_n 2, 39) := by decide +kernel
theorem d308_39 : dc 308 39 = some (.iaload, 40) := by decide +kernel
theorem d308_40 : dc 308 40 = some (.aload_n 1, 41) := by decide +kernel
theorem d308_41 : dc 308 41 = some (.dload 1536, 44) := by decide +kernel
theorem d308_44 : dc 308 44 = some (.iload_n 2, 45) := by decide +kernel
theorem d308_45 : dc 308 45 = some (.iaload, 46) := by decide +kernel
theorem d308_46 : dc 308 46 = some (.if_icmp .eq ((51 : Nat) : Int), 49) := by decide +kernel
theorem d308_49 : dc 308 49 = some (.iconst 0, 50) := by decide +kernel
theorem d308_50 : dc 308 50 = some (.freturn, 51) := by decide +kernel
theorem d308_51 : dc 308 51 = some (.iinc 2 1, 54) := by decide +kernel
theorem d308_54 : dc 308 54 = some (.goto ((26 : Nat) : Int), 57) := by decide +kernel
theorem d308_57 : dc 308 57 = some (.iconst 0, 58) := by decide +kernel
theorem d308_58 : dc 308 58 = some (.istore_n 2, 59) := by decide +kernel
theorem d308_59 : dc 308 59 = some (.iload_n 2, 60) := by decide +kernel
theorem d308_60 : dc 308 60 = some (.aload_n 0, 61) := by decide +kernel
theorem d308_61 : dc 308 61 = some (.getfield 1539, 64) := by decide +kernel
theorem d308_64 : dc 308 64 = some (.if_icmp .ge ((90 : Nat) : Int), 67) := by decide +kernel
theorem d308_67 : dc 308 67 = some (.aload_n 0, 68) := by decide +kernel
theorem d308_68 : dc 308 68 = some (.dload 1538, 71) := by decide +kernel
theorem d308_71 : dc 308 71 = some (.iload_n 2, 72) := by decide +kernel
theorem d308_72 : dc 308 72 = some (.iaload, 73) := by decide +kernel
theorem d308_73 : dc 308 73 = some (.aload_n 1, 74) := by decide +kernel
theorem d308_74 : dc 308 74 = some (.dload 1538, 77) := by decide +kernel
theorem d308_77 : dc 308 77 = some (.iload_n 2, 78) := by decide +kernel
theorem d308_78 : dc 308 78 = some (.iaload, 79) := by decide +kernel
theorem d308_79 : dc 308 79 = some (.if_icmp .eq ((84 : Nat) : Int), 82) := by decide +kernel
theorem d308_82 : dc 308 82 = some (.iconst 0, 83) := by decide +kernel
theorem d308_83 : dc 308 83 = some (.freturn, 84) := by decide +kernel
theorem d308_84 : dc 308 84 = some (.iinc 2 1, 87) := by decide +kernel
theorem d308_87 : dc 308 87 = some (.goto ((59 : Nat) : Int), 90) := by decide +kernel
theorem d308_90 : dc 308 90 = some (.iconst 1, 91) := by decide +kernel
theorem d308_91 : dc 308 91 = some (.freturn, 92) := by decide +kernel
theorem k_O_isSame {S : Shp} {G : Nat → Option Nat} {d : Nat} {h : Hp} {Q : Option MV → Hp → Prop} {o : Nat} {y : Nat} {x z : OmV} (ok : Ok S h) (h1 : 0 ≤ d) (ho : sK S o = 13) (hy : sK S y = 13) (OX : OmC S h o x) (OZ : OmC S h y z)
    (kk : Q (some (vI (b2i (decide (x.1 = z.1 ∧ x.2.1 = z.2.1))))) h) : Cl G d 308 [vR (some o), vR (some y)] h Q := by
  show Wp G d 308 0 [some (vR (some o)), some (vR (some y)), none] [] h Q
  have lx := OX.le ok ho
  refine w_aload_n d308_0 rfl ?_
  refine w_getI (x := ((x.1.length : Nat) : Int)) d308_1 (ok.kd ho) OX.1 ?_
  refine w_aload_n d308_4 rfl ?_
  refine w_getI (x := ((z.1.length : Nat) : Int)) d308_5 (ok.kd hy) OZ.1 ?_
  refine w_icmpne d308_8 (fun c8 => ?_) (fun c8 => ?_)
  · have e : b2i (decide (x.1 = z.1 ∧ x.2.1 = z.2.1)) = 0 := b2i_decN (fun w => c8 (by rw [w.1]))
    rw [e] at kk
    refine w_iconst d308_22 (by decide) ?_
    refine w_zreturn d308_23 (by decide) ?_
    exact kk
  · have l1 : x.1.length = z.1.length := by omega
    refine w_aload_n d308_11 rfl ?_
    refine w_getI (x := ((x.2.1.length : Nat) : Int)) d308_12 (ok.kd ho) OX.2.1 ?_
    refine w_aload_n d308_15 rfl ?_
    refine w_getI (x := ((z.2.1.length : Nat) : Int)) d308_16 (ok.kd hy) OZ.2.1 ?_
    refine w_icmpeq d308_19 (fun c19 => ?_) (fun c19 => ?_)
    · have l2 : x.2.1.length = z.2.1.length := by omega
      refine w_iconst d308_24 (by decide) ?_
      refine w_istore2 d308_25 rfl ?_
      have L26 : ∀ (m26 : Nat) (i : Nat), x.1.length - i = m26 → (∀ j, j < i → x.1.getD j 0 = z.1.getD j 0) → Wp G d 308 26 [some (vR (some o)), some (vR (some y)), some (vI (i : Nat))] [] h Q := by
        intro m26
        induction m26 using Nat.strongRecOn with | ind m26 IH26 => ?_
        intro i hm26 hp
        refine w_iload_n d308_26 rfl ?_
        refine w_aload_n d308_27 rfl ?_
        refine w_getI (x := ((x.1.length : Nat) : Int)) d308_28 (ok.kd ho) OX.1 ?_
        refine w_icmpge d308_31 (fun c31 => ?_) (fun c31 => ?_)
        · have w1 : x.1 = z.1 := list_ext l1 (fun j hj => hp j (by omega))
          refine w_iconst d308_57 (by decide) ?_
          refine w_istore2 d308_58 rfl ?_
          have L59 : ∀ (m59 : Nat) (i : Nat), x.2.1.length - i = m59 → (∀ j, j < i → x.2.1.getD j 0 = z.2.1.getD j 0) → Wp G d 308 59 [some (vR (some o)), some (vR (some y)), some (vI (i : Nat))] [] h Q := by
            intro m59
            induction m59 using Nat.strongRecOn with | ind m59 IH59 => ?_
            intro i hm59 hp
            refine w_iload_n d308_59 rfl ?_
            refine w_aload_n d308_60 rfl ?_
            refine w_getI (x := ((x.2.1.length : Nat) : Int)) d308_61 (ok.kd ho) OX.2.1 ?_
            refine w_icmpge d308_64 (fun c64 => ?_) (fun c64 => ?_)
            · have e : b2i (decide (x.1 = z.1 ∧ x.2.1 = z.2.1)) = 1 := b2i_dec ⟨w1, list_ext l2 (fun j hj => hp j (by omega))⟩
              rw [e] at kk
              refine w_iconst d308_90 (by decide) ?_
              refine w_zreturn d308_91 (by decide) ?_
              exact kk
            · have hi : i < x.2.1.length := by omega
              have hi2 : i < z.2.1.length := by omega
              refine w_aload_n d308_67 rfl ?_
              refine w_dloadS d308_68 (ok.kd ho) (fr1538 ok ho) ?_
              refine w_iload_n d308_71 rfl ?_
              refine w_ialoadV (x := ((x.2.1.getD i 0 : Nat) : Int)) d308_72 (gi1538 ok ho (by omega)) (OX.2.2.2.2.1.at0 hi) ?_
              refine w_aload_n d308_73 rfl ?_
              refine w_dloadS d308_74 (ok.kd hy) (fr1538 ok hy) ?_
              refine w_iload_n d308_77 rfl ?_
              refine w_ialoadV (x := ((z.2.1.getD i 0 : Nat) : Int)) d308_78 (gi1538 ok hy (by omega)) (OZ.2.2.2.2.1.at0 hi2) ?_
              refine w_icmpeq d308_79 (fun c79 => ?_) (fun c79 => ?_)
              · refine w_iinc2 d308_84 rfl (by constructor <;> omega) ?_
                refine w_goto d308_87 ?_
                rw [show ((i : Nat) : Int) + 1 = ((i + 1 : Nat) : Int) by omega]
                refine w_less ?_ (IH59 _ (by omega) (i + 1) rfl (fun j hj => by rcases Nat.lt_or_ge j i with w | w; exact hp j w; rw [show j = i by omega]; omega))
                exact ⟨Or.inr rfl, Or.inr rfl, Or.inr rfl, trivial⟩
              · have e : b2i (decide (x.1 = z.1 ∧ x.2.1 = z.2.1)) = 0 := b2i_decN (fun w => c79 (by rw [w.2]))
                rw [e] at kk
                refine w_iconst d308_82 (by decide) ?_
                refine w_zreturn d308_83 (by decide) ?_
                exact kk
          refine w_less ?_ (L59 _ 0 rfl (fun j hj => absurd hj (Nat.not_lt_zero _)))
          exact ⟨Or.inr rfl, Or.inr rfl, Or.inr rfl, trivial⟩
        · have hi : i < x.1.length := by omega
          have hi2 : i < z.1.length := by omega
          refine w_aload_n d308_34 rfl ?_
          refine w_dloadS d308_35 (ok.kd ho) (fr1536 ok ho) ?_
          refine w_iload_n d308_38 rfl ?_
          refine w_ialoadV (x := ((x.1.getD i 0 : Nat) : Int)) d308_39 (gi1536 ok ho (by omega)) (OX.2.2.2.1.at0 hi) ?_
          refine w_aload_n d308_40 rfl ?_
          refine w_dloadS d308_41 (ok.kd hy) (fr1536 ok hy) ?_
          refine w_iload_n d308_44 rfl ?_
          refine w_ialoadV (x := ((z.1.getD i 0 : Nat) : Int)) d308_45 (gi1536 ok hy (by omega)) (OZ.2.2.2.1.at0 hi2) ?_
          refine w_icmpeq d308_46 (fun c46 => ?_) (fun c46 => ?_)
          · refine w_iinc2 d308_51 rfl (by constructor <;> omega) ?_
            refine w_goto d308_54 ?_
            rw [show ((i : Nat) : Int) + 1 = ((i + 1 : Nat) : Int) by omega]
            refine w_less ?_ (IH26 _ (by omega) (i + 1) rfl (fun j hj => by rcases Nat.lt_or_ge j i with w | w; exact hp j w; rw [show j = i by omega]; omega))
            exact ⟨Or.inr rfl, Or.inr rfl, Or.inr rfl, trivial⟩
          · have e : b2i (decide (x.1 = z.1 ∧ x.2.1 = z.2.1)) = 0 := b2i_decN (fun w => c46 (by rw [w.1]))
            rw [e] at kk
            refine w_iconst d308_49 (by decide) ?_
            refine w_zreturn d308_50 (by decide) ?_
            exact kk
      refine w_less ?_ (L26 _ 0 rfl (fun j hj => absurd hj (Nat.not_lt_zero _)))
      exact ⟨Or.inr rfl, Or.inr rfl, Or.inr rfl, trivial⟩
    · have e : b2i (decide (x.1 = z.1 ∧ x.2.1 = z.2.1)) = 0 := b2i_decN (fun w => c19 (by rw [w.2]))
      rw [e] at kk
      refine w_iconst d308_22 (by decide) ?_
      refine w_zreturn d308_23 (by decide) ?_
      exact kk
theorem d252_0 : dc 252 0 = some (.aload_n 0, 1) := by decide +kernel
theorem d252_1 : dc 252 1 = some (.dload 1429, 4) := by decide +kernel
theorem d252_4 : dc 252 4 = some (.iload_n 1, 5) := by decide +kernel
theorem d252_5 : dc 252 5 = some (.iaload, 6) := by decide +kernel
theorem d252_6 : dc 252 6 = some (.ifCond .ne ((11 : Nat) : Int), 9) := by decide +kernel
theorem d252_9 : dc 252 9 = some (.iconst 1, 10) := by decide +kernel
theorem d252_10 : dc 252 10 = some (.freturn, 11) := by decide +kernel
theorem d252_11 : dc 252 11 = some (.aload_n 0, 12) := by decide +kernel
theorem d252_12 : dc 252 12 = some (.aload_n 0, 13) := by decide +kernel
theorem d252_13 : dc 252 13 = some (.dload 1428, 16) := by decide +kernel
theorem d252_16 : dc 252 16 = some (.bipush 8, 18) := by decide +kernel
theorem d252_18 : dc 252 18 = some (.iload_n 1, 19) := by decide +kernel
theorem d252_19 : dc 252 19 = some (.imul, 20) := by decide +kernel
theorem d252_20 : dc 252 20 = some (.aload_n 0, 21) := by decide +kernel
theorem d252_21 : dc 252 21 = some (.dload 1429, 24) := by decide +kernel
theorem d252_24 : dc 252 24 = some (.iload_n 1, 25) := by decide +kernel
theorem d252_25 : dc 252 25 = some (.iaload, 26) := by decide +kernel
theorem d252_26 : dc 252 26 = some (.invokevirtual 226, 29) := by decide +kernel
theorem d252_29 : dc 252 29 = some (.istore_n 2, 30) := by decide +kernel
theorem d252_30 : dc 252 30 = some (.iload_n 2, 31) := by decide +kernel
theorem d252_31 : dc 252 31 = some (.ifCond .ge ((38 : Nat) : Int), 34) := by decide +kernel
theorem d252_34 : dc 252 34 = some (.iconst 0, 35) := by decide +kernel
theorem d252_35 : dc 252 35 = some (.goto ((44 : Nat) : Int), 38) := by decide +kernel
theorem d252_38 : dc 252 38 = some (.aload_n 0, 39) := by decide +kernel
theorem d252_39 : dc 252 39 = some (.dload 1416, 42) := by decide +kernel
theorem d252_42 : dc 252 42 = some (.iload_n 2, 43) := by decide +kernel
theorem d252_43 : dc 252 43 = some (.iaload, 44) := by decide +kernel
theorem d252_44 : dc 252 44 = some (.aload_n 0, 45) := by decide +kernel
theorem d252_45 : dc 252 45 = some (.dload 1430, 48) := by decide +kernel
theorem d252_48 : dc 252 48 = some (.iload_n 1, 49) := by decide +kernel
theorem d252_49 : dc 252 49 = some (.iaload, 50) := by decide +kernel
theorem d252_50 : dc 252 50 = some (.if_icmp .ne ((57 : Nat) : Int), 53) := by decide +kernel
theorem d252_53 : dc 252 53 = some (.iconst 1, 54) := by decide +kernel
theorem d252_54 : dc 252 54 = some (.goto ((58 : Nat) : Int), 57) := by decide +kernel
theorem d252_57 : dc 252 57 = some (.iconst 0, 58) := by decide +kernel
theorem d252_58 : dc 252 58 = some (.freturn, 59) := by decide +kernel
theorem k_D_isMet {S : Shp} {G : Nat → Option Nat} {d : Nat} {h : Hp} {Q : Option MV → Hp → Prop} {d0 : Nat} {t : Nat} {gs : List (List Nat × Nat)} {ts : List (Bool × TgV)} (ok : Ok S h) (h1 : 2 ≤ d) (hd0 : sK S d0 = 12) (DG : DGs S h d0 gs) (DT : DTs S h d0 ts) (ht : t < ts.length)
    (kk : Q (some (vI (b2i (decide (tgC (tD ts t) = [] ∨ gval gs (tgC (tD ts t)) = tgK (tD ts t)))))) h) : Cl G d 252 [vR (some d0), vI (t : Nat)] h Q := by
  show Wp G d 252 0 [some (vR (some d0)), some (vI (t : Nat)), none] [] h Q
  obtain ⟨d1, d2, d3⟩ := id DT
  obtain ⟨a1, a2, a3, a4, a5, a6, a7, a8, a9, a10, a11, a12, a13, a14, a15, a16, a17⟩ := d3 t ht
  refine w_aload_n d252_0 rfl ?_
  refine w_dloadS d252_1 (ok.kd hd0) (fr1429 ok hd0) ?_
  refine w_iload_n d252_4 rfl ?_
  refine w_ialoadV (x := ((tgC (tD ts t)).length : Int)) d252_5 (gi1429 ok hd0 (by omega)) a13 ?_
  refine w_ifne d252_6 (fun c6 => ?_) (fun c6 => ?_)
  · have nc : tgC (tD ts t) ≠ [] := fun z => by rw [z] at c6; exact c6 rfl
    refine w_aload_n d252_11 rfl ?_
    refine w_aload_n d252_12 rfl ?_
    refine w_dloadS d252_13 (ok.kd hd0) (fr1428 ok hd0) ?_
    refine w_bipush d252_16 (by decide) ?_
    refine w_iload_n d252_18 rfl ?_
    refine w_imul d252_19 (by constructor <;> omega) ?_
    rw [show (8 : Int) * ((t : Nat) : Int) = ((8 * t : Nat) : Int) by omega]
    refine w_aload_n d252_20 rfl ?_
    refine w_dloadS d252_21 (ok.kd hd0) (fr1429 ok hd0) ?_
    refine w_iload_n d252_24 rfl ?_
    refine w_ialoadV (x := ((tgC (tD ts t)).length : Int)) d252_25 (gi1429 ok hd0 (by omega)) a13 ?_
    refine w_callv4 d252_26 (by omega) rfl (ok.kd hd0) (by simp) (Nat.le_of_ble_eq_true rfl) ?_
    refine k_D_flagOf ok (by omega) hd0 DG rfl a15 ?_
    refine w_istore2 d252_29 rfl ?_
    refine w_iload_n d252_30 rfl ?_
    refine w_ifge d252_31 (fun c31 => ?_) (fun c31 => ?_)
    · have gr : gix gs (tgC (tD ts t)) = -1 ∨ ∃ j, 0 ≤ j ∧ j < gs.length ∧ gix gs (tgC (tD ts t)) = (j : Int) ∧ _ := srF_rg (p := fun i => gN gs i == tgC (tD ts t)) (n := gs.length) (i := 0)
      obtain ⟨u, hul, hu⟩ : ∃ u : Nat, u < gs.length ∧ gix gs (tgC (tD ts t)) = (u : Int) := by
        rcases gr with z | ⟨j, j1, j2, j3, j4⟩
        · omega
        · exact ⟨j, j2, j3⟩
      have gv : gval gs (tgC (tD ts t)) = gK gs u := by unfold gval; rw [if_neg (by omega), hu]; rfl
      rw [hu]
      refine w_aload_n d252_38 rfl ?_
      refine w_dloadS d252_39 (ok.kd hd0) (fr1416 ok hd0) ?_
      refine w_iload_n d252_42 rfl ?_
      refine w_ialoadV (x := ((gK gs u : Nat) : Int)) d252_43 (gi1416 ok hd0 (by have := DG.2.1; omega)) ((DG.2.2 u hul).2.2.2.1) ?_
      refine w_aload_n d252_44 rfl ?_
      refine w_dloadS d252_45 (ok.kd hd0) (fr1430 ok hd0) ?_
      refine w_iload_n d252_48 rfl ?_
      refine w_ialoadV (x := ((tgK (tD ts t) : Nat) : Int)) d252_49 (gi1430 ok hd0 (by omega)) a16 ?_
      refine w_icmpne d252_50 (fun c50 => ?_) (fun c50 => ?_)
      · have e : b2i (decide (tgC (tD ts t) = [] ∨ gval gs (tgC (tD ts t)) = tgK (tD ts t))) = 0 := b2i_decN (fun z => z.elim nc (fun z => by omega))
        rw [e] at kk
        refine w_iconst d252_57 (by decide) ?_
        refine w_zreturn d252_58 (by decide) ?_
        exact kk
      · have e : b2i (decide (tgC (tD ts t) = [] ∨ gval gs (tgC (tD ts t)) = tgK (tD ts t))) = 1 := b2i_dec (Or.inr (by omega))
        rw [e] at kk
        refine w_iconst d252_53 (by decide) ?_
        refine w_goto d252_54 ?_
        refine w_zreturn d252_58 (by decide) ?_
        exact kk
    · have gv : gval gs (tgC (tD ts t)) = 0 := if_pos (by omega)
      refine w_iconst d252_34 (by decide) ?_
      refine w_goto d252_35 ?_
      refine w_aload_n d252_44 rfl ?_
      refine w_dloadS d252_45 (ok.kd hd0) (fr1430 ok hd0) ?_
      refine w_iload_n d252_48 rfl ?_
      refine w_ialoadV (x := ((tgK (tD ts t) : Nat) : Int)) d252_49 (gi1430 ok hd0 (by omega)) a16 ?_
      refine w_icmpne d252_50 (fun c50 => ?_) (fun c50 => ?_)
      · have e : b2i (decide (tgC (tD ts t) = [] ∨ gval gs (tgC (tD ts t)) = tgK (tD ts t))) = 0 := b2i_decN (fun z => z.elim nc (fun z => by omega))
        rw [e] at kk
        refine w_iconst d252_57 (by decide) ?_
        refine w_zreturn d252_58 (by decide) ?_
        exact kk
      · have e : b2i (decide (tgC (tD ts t) = [] ∨ gval gs (tgC (tD ts t)) = tgK (tD ts t))) = 1 := b2i_dec (Or.inr (by omega))
        rw [e] at kk
        refine w_iconst d252_53 (by decide) ?_
        refine w_goto d252_54 ?_
        refine w_zreturn d252_58 (by decide) ?_
        exact kk
  · have e : b2i (decide (tgC (tD ts t) = [] ∨ gval gs (tgC (tD ts t)) = tgK (tD ts t))) = 1 := b2i_dec (Or.inl (List.length_eq_zero_iff.mp (by omega)))
    rw [e] at kk
    refine w_iconst d252_9 (by decide) ?_
    refine w_zreturn d252_10 (by decide) ?_
    exact kk
theorem misP_eq {fs : List (List Nat × List Nat)} {ts : List (Bool × TgV)} {t i : Nat} : misP (fix fs) ts (tD ts t) i = decide (taT ts t i < 0 ∧ fiT fs ts t i < 0) := by
  unfold misP taT fiT
  by_cases q : inB (tgI (tD ts t)) i = true
  · simp [q]
  · simp [q]
theorem d250_0 : dc 250 0 = some (.iconst 0, 1) := by decide +kernel
theorem d250_1 : dc 250 1 = some (.istore_n 2, 2) := by decide +kernel
theorem d250_2 : dc 250 2 = some (.iload_n 2, 3) := by decide +kernel
theorem d250_3 : dc 250 3 = some (.aload_n 0, 4) := by decide +kernel
theorem d250_4 : dc 250 4 = some (.dload 1424, 7) := by decide +kernel
theorem d250_7 : dc 250 7 = some (.iload_n 1, 8) := by decide +kernel
theorem d250_8 : dc 250 8 = some (.iaload, 9) := by decide +kernel
theorem d250_9 : dc 250 9 = some (.if_icmp .ge ((38 : Nat) : Int), 12) := by decide +kernel
theorem d250_12 : dc 250 12 = some (.aload_n 0, 13) := by decide +kernel
theorem d250_13 : dc 250 13 = some (.iload_n 1, 14) := by decide +kernel
theorem d250_14 : dc 250 14 = some (.iload_n 2, 15) := by decide +kernel
theorem d250_15 : dc 250 15 = some (.invokevirtual 231, 18) := by decide +kernel
theorem d250_18 : dc 250 18 = some (.ifCond .ge ((32 : Nat) : Int), 21) := by decide +kernel
theorem d250_21 : dc 250 21 = some (.aload_n 0, 22) := by decide +kernel
theorem d250_22 : dc 250 22 = some (.iload_n 1, 23) := by decide +kernel
theorem d250_23 : dc 250 23 = some (.iload_n 2, 24) := by decide +kernel
theorem d250_24 : dc 250 24 = some (.invokevirtual 251, 27) := by decide +kernel
theorem d250_27 : dc 250 27 = some (.ifCond .ge ((32 : Nat) : Int), 30) := by decide +kernel
theorem d250_30 : dc 250 30 = some (.iload_n 2, 31) := by decide +kernel
theorem d250_31 : dc 250 31 = some (.ireturn, 32) := by decide +kernel
theorem d250_32 : dc 250 32 = some (.iinc 2 1, 35) := by decide +kernel
theorem d250_35 : dc 250 35 = some (.goto ((2 : Nat) : Int), 38) := by decide +kernel
theorem d250_38 : dc 250 38 = some (.iconst (-1), 39) := by decide +kernel
theorem d250_39 : dc 250 39 = some (.ireturn, 40) := by decide +kernel
theorem k_M_missing {S : Shp} {G : Nat → Option Nat} {d : Nat} {h : Hp} {Q : Option MV → Hp → Prop} {d0 : Nat} {t : Nat} {fs : List (List Nat × List Nat)} {ts : List (Bool × TgV)} (ok : Ok S h) (h1 : 3 ≤ d) (hd0 : sK S d0 = 12) (DF : DFi S h d0 fs) (DT : DTs S h d0 ts) (ht : t < ts.length)
    (kk : Q (some (vI (misI (fix fs) ts (tD ts t)))) h) : Cl G d 250 [vR (some d0), vI (t : Nat)] h Q := by
  show Wp G d 250 0 [some (vR (some d0)), some (vI (t : Nat)), none] [] h Q
  obtain ⟨d1, d2, d3⟩ := id DT
  obtain ⟨a1, a2, a3, a4, a5, a6, a7, a8, a9, a10, a11, a12, a13, a14, a15, a16, a17⟩ := d3 t ht
  refine w_iconst d250_0 (by decide) ?_
  refine w_istore2 d250_1 rfl ?_
  have L2 : ∀ (m2 : Nat) (i : Nat), (tgI (tD ts t)).length - i = m2 → (srF (misP (fix fs) ts (tD ts t)) (tgI (tD ts t)).length i = misI (fix fs) ts (tD ts t)) → Wp G d 250 2 [some (vR (some d0)), some (vI (t : Nat)), some (vI (i : Nat))] [] h Q := by
    intro m2
    induction m2 using Nat.strongRecOn with | ind m2 IH2 => ?_
    intro i hm2 hp
    refine w_iload_n d250_2 rfl ?_
    refine w_aload_n d250_3 rfl ?_
    refine w_dloadS d250_4 (ok.kd hd0) (fr1424 ok hd0) ?_
    refine w_iload_n d250_7 rfl ?_
    refine w_ialoadV (x := ((tgI (tD ts t)).length : Int)) d250_8 (gi1424 ok hd0 (by omega)) a10 ?_
    refine w_icmpge d250_9 (fun c9 => ?_) (fun c9 => ?_)
    · rw [srF_end (by omega)] at hp
      rw [← hp] at kk
      refine w_iconst d250_38 (by decide) ?_
      refine w_ireturn d250_39 ?_
      exact kk
    · have hi : i < (tgI (tD ts t)).length := by omega
      refine w_aload_n d250_12 rfl ?_
      refine w_iload_n d250_13 rfl ?_
      refine w_iload_n d250_14 rfl ?_
      refine w_callv3 d250_15 (by omega) rfl (ok.kd hd0) (by simp) (Nat.le_of_ble_eq_true rfl) ?_
      refine k_D_targetAt ok (by omega) hd0 DT ht hi ?_
      refine w_ifge d250_18 (fun c18 => ?_) (fun c18 => ?_)
      · rw [srF_no hi (by rw [misP_eq]; exact decide_eq_false (fun z => by omega))] at hp
        refine w_iinc2 d250_32 rfl (by constructor <;> omega) ?_
        refine w_goto d250_35 ?_
        rw [show ((i : Nat) : Int) + 1 = ((i + 1 : Nat) : Int) by omega]
        refine w_less ?_ (IH2 _ (by omega) (i + 1) rfl hp)
        exact ⟨Or.inr rfl, Or.inr rfl, Or.inr rfl, trivial⟩
      · refine w_aload_n d250_21 rfl ?_
        refine w_iload_n d250_22 rfl ?_
        refine w_iload_n d250_23 rfl ?_
        refine w_callv3 d250_24 (by omega) rfl (ok.kd hd0) (by simp) (Nat.le_of_ble_eq_true rfl) ?_
        refine k_D_fileAt ok (by omega) hd0 DF DT ht hi ?_
        refine w_ifge d250_27 (fun c27 => ?_) (fun c27 => ?_)
        · rw [srF_no hi (by rw [misP_eq]; exact decide_eq_false (fun z => by omega))] at hp
          refine w_iinc2 d250_32 rfl (by constructor <;> omega) ?_
          refine w_goto d250_35 ?_
          rw [show ((i : Nat) : Int) + 1 = ((i + 1 : Nat) : Int) by omega]
          refine w_less ?_ (IH2 _ (by omega) (i + 1) rfl hp)
          exact ⟨Or.inr rfl, Or.inr rfl, Or.inr rfl, trivial⟩
        · rw [srF_yes hi (by rw [misP_eq]; exact decide_eq_true ⟨by omega, by omega⟩)] at hp
          rw [← hp] at kk
          refine w_iload_n d250_30 rfl ?_
          refine w_ireturn d250_31 ?_
          exact kk
  refine w_less ?_ (L2 _ 0 rfl rfl)
  exact ⟨Or.inr rfl, Or.inr rfl, Or.inr rfl, trivial⟩
