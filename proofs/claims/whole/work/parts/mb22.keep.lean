/-! the reference: outcomes kept -/
def kM (ks : List (Int64 × OmV)) (i : Nat) : Int64 := (ks.getD i (0, ([], [], []))).1
def oM (ks : List (Int64 × OmV)) (i : Nat) : OmV := (ks.getD i (0, ([], [], []))).2
def kfM (ks : List (Int64 × OmV)) (x : Int64) : Int := srF (fun i => kM ks i == x) ks.length 0
theorem kfM_rg (ks : List (Int64 × OmV)) (x : Int64) : -1 ≤ kfM ks x ∧ kfM ks x < ks.length := by
  unfold kfM
  rcases srF_rg (p := fun i => kM ks i == x) (n := ks.length) (i := 0) with e | ⟨j, -, j2, e, -⟩ <;> rw [e] <;> omega
def kpM (ks : List (Int64 × OmV)) (x : Int64) (v : OmV) : List (Int64 × OmV) := if 0 ≤ kfM ks x then ks.eraseIdx (kfM ks x).toNat ++ [(x, v)] else if ks.length < 24 then ks ++ [(x, v)] else ks.eraseIdx 0 ++ [(x, v)]
def KpR (S : Shp) (h : Hp) (m : Nat) (ks : List (Int64 × OmV)) : Prop := FI h 1701 m = ks.length ∧ ks.length ≤ 24 ∧ ∃ σ : Nat → Nat, (∀ i, i < 24 → σ i < 24 ∧ AR h (sT S 1703 m) i = some (sE S (sT S 1703 m) (σ i))) ∧ (∀ i j, i < 24 → j < 24 → σ i = σ j → i = j) ∧ ∀ i, i < ks.length → AL h (sT S 1702 m) i = kM ks i ∧ OmC S h (sE S (sT S 1703 m) (σ i)) (oM ks i)
theorem KpR.r {S : Shp} {m : Nat} {F : List Nat} {h h' : Hp} {ks : List (Int64 × OmV)} (D : KpR S h m ks) (fr : Fr S m F h h') (hm : sK S m = 14) (h1 : 1701 ∉ F ∧ 1702 ∉ F ∧ 1703 ∉ F ∧ ltF4 F := by decide) : KpR S h' m ks := by
  obtain ⟨d1, d2, σ, d3, d4, d5⟩ := D
  have kk := kT1702 fr.1 hm
  have ko := kT1703 fr.1 hm
  refine ⟨(fr.i 1701 h1.1).trans d1, d2, σ, fun i hi => ⟨(d3 i hi).1, by rw [fr.mo.ar fr.1 (by omega) (fr.no (by decide) h1.2.2.1 h1.2.2.2 U_refl)]; exact (d3 i hi).2⟩, d4, fun i hi => ⟨by rw [fr.al (by omega) (by decide) h1.2.1 h1.2.2.2]; exact (d5 i hi).1, ?_⟩⟩
  exact (d5 i hi).2.u fr.1 fr.mo (kE1703 fr.1 hm (d3 i (by omega)).1) (fun y u => fr.no (by decide) h1.2.2.1 h1.2.2.2 (U_trans (fr.1.so.uE (by have := (d3 i (by omega)).1; omega) U_refl) u))
theorem up2_ax {α : Type} {f : Nat → Nat → α} {a b i : Nat} {x : α} : up2 f a b x a i = if i = b then x else f a i := by
  unfold up2
  by_cases q : i = b
  · rw [if_pos ⟨rfl, q⟩, if_pos q]
  · rw [if_neg (fun z => q z.2), if_neg q]
theorem nUE {S : Shp} (so : SOk S) {b i j y : Nat} (hi : i < 4096) (hj : j < 4096) (ne : i ≠ j) (u : U S (sE S b i) y) : ¬ U S (sE S b j) y := fun v => by
  rcases U_tree u v with z | z
  · rcases (so.U_E hj).mp z with z | z
    · exact ne ((so.injE hi hj).mp z).2
    · have := so.uLe z
      have := so.ltE (b := b) (j := i) hi
      omega
  · rcases (so.U_E hi).mp z with z | z
    · exact ne ((so.injE hj hi).mp z).2.symm
    · have := so.uLe z
      have := so.ltE (b := b) (j := j) hj
      omega
theorem d262_0 : dc 262 0 = some (.iconst 0, 1) := by decide +kernel
theorem d262_1 : dc 262 1 = some (.istore_n 3, 2) := by decide +kernel
theorem d262_2 : dc 262 2 = some (.iload_n 3, 3) := by decide +kernel
theorem d262_3 : dc 262 3 = some (.aload_n 0, 4) := by decide +kernel
theorem d262_4 : dc 262 4 = some (.getfield 1701, 7) := by decide +kernel
theorem d262_7 : dc 262 7 = some (.if_icmp .ge ((29 : Nat) : Int), 10) := by decide +kernel
theorem d262_10 : dc 262 10 = some (.aload_n 0, 11) := by decide +kernel
theorem d262_11 : dc 262 11 = some (.dload 1702, 14) := by decide +kernel
theorem d262_14 : dc 262 14 = some (.iload_n 3, 15) := by decide +kernel
theorem d262_15 : dc 262 15 = some (.laload, 16) := by decide +kernel
theorem d262_16 : dc 262 16 = some (.lload_n 1, 17) := by decide +kernel
theorem d262_17 : dc 262 17 = some (.lcmp, 18) := by decide +kernel
theorem d262_18 : dc 262 18 = some (.ifCond .ne ((23 : Nat) : Int), 21) := by decide +kernel
theorem d262_21 : dc 262 21 = some (.iload_n 3, 22) := by decide +kernel
theorem d262_22 : dc 262 22 = some (.ireturn, 23) := by decide +kernel
theorem d262_23 : dc 262 23 = some (.iinc 3 1, 26) := by decide +kernel
theorem d262_26 : dc 262 26 = some (.goto ((2 : Nat) : Int), 29) := by decide +kernel
theorem d262_29 : dc 262 29 = some (.iconst (-1), 30) := by decide +kernel
theorem d262_30 : dc 262 30 = some (.ireturn, 31) := by decide +kernel
theorem k_M_keptOf {S : Shp} {G : Nat → Option Nat} {d : Nat} {h : Hp} {Q : Option MV → Hp → Prop} {m : Nat} {x : Int64} {ks : List (Int64 × OmV)} (ok : Ok S h) (h1 : 0 ≤ d) (hm : sK S m = 14) (KP : KpR S h m ks) 
    (kk : Q (some (vI (kfM ks x))) h) : Cl G d 262 [vR (some m), vJ x] h Q := by
  show Wp G d 262 0 [some (vR (some m)), some (vJ x), none, none] [] h Q
  have KP_0 := KP
  obtain ⟨q1, q2, σ, s1, s2, q3⟩ := id KP
  refine w_iconst d262_0 (by decide) ?_
  refine w_istore3 d262_1 rfl ?_
  have L2 : ∀ (m2 : Nat) (i : Nat), ks.length - i = m2 → (srF (fun i => kM ks i == x) ks.length i = kfM ks x) → Wp G d 262 2 [some (vR (some m)), some (vJ x), none, some (vI (i : Nat))] [] h Q := by
    intro m2
    induction m2 using Nat.strongRecOn with | ind m2 IH2 => ?_
    intro i hm2 hp
    refine w_iload_n d262_2 rfl ?_
    refine w_aload_n d262_3 rfl ?_
    refine w_getI (x := ((ks.length : Nat) : Int)) d262_4 (ok.kd hm) q1 ?_
    refine w_icmpge d262_7 (fun c7 => ?_) (fun c7 => ?_)
    · rw [srF_end (by omega)] at hp
      rw [← hp] at kk
      refine w_iconst d262_29 (by decide) ?_
      refine w_ireturn d262_30 ?_
      exact kk
    · have hi : i < ks.length := by omega
      refine w_aload_n d262_10 rfl ?_
      refine w_dloadS d262_11 (ok.kd hm) (fr1702 ok hm) ?_
      refine w_iload_n d262_14 rfl ?_
      refine w_laloadV (x := (kM ks i)) d262_15 (gi1702 ok hm (by omega)) (q3 i hi).1 ?_
      refine w_lload_n d262_16 rfl ?_
      refine w_lcmp d262_17 ?_
      refine w_ifne d262_18 (fun c18 => ?_) (fun c18 => ?_)
      · have e : (fun i => kM ks i == x) i = false := beq_eq_false_iff_ne.mpr (fun z => c18 (by rw [if_neg (by rw [z]; exact Int64.lt_irrefl), if_pos z]))
        rw [srF_no hi e] at hp
        refine w_iinc3 d262_23 rfl (by constructor <;> omega) ?_
        refine w_goto d262_26 ?_
        rw [show ((i : Nat) : Int) + 1 = ((i + 1 : Nat) : Int) by omega]
        refine w_less ?_ (IH2 _ (by omega) (i + 1) rfl hp)
        exact ⟨Or.inr rfl, Or.inr rfl, Or.inl rfl, Or.inr rfl, trivial⟩
      · have e : (fun i => kM ks i == x) i = true := by
          refine beq_iff_eq.mpr ?_
          by_cases z : kM ks i = x
          · exact z
          · exfalso
            (repeat' split at c18) <;> first | omega | exact z (by assumption)
        rw [srF_yes hi e] at hp
        rw [← hp] at kk
        refine w_iload_n d262_21 rfl ?_
        refine w_ireturn d262_22 ?_
        exact kk
  refine w_less ?_ (L2 _ 0 rfl rfl)
  exact ⟨Or.inr rfl, Or.inr rfl, Or.inl rfl, Or.inr rfl, trivial⟩
theorem d291_0 : dc 291 0 = some (.aload_n 0, 1) := by decide +kernel
theorem d291_1 : dc 291 1 = some (.lload_n 1, 2) := by decide +kernel
theorem d291_2 : dc 291 2 = some (.invokevirtual 262, 5) := by decide +kernel
theorem d291_5 : dc 291 5 = some (.istore 4, 7) := by decide +kernel
theorem d291_7 : dc 291 7 = some (.iload 4, 9) := by decide +kernel
theorem d291_9 : dc 291 9 = some (.ifCond .ge ((24 : Nat) : Int), 12) := by decide +kernel
theorem d291_12 : dc 291 12 = some (.aload_n 0, 13) := by decide +kernel
theorem d291_13 : dc 291 13 = some (.getfield 1701, 16) := by decide +kernel
theorem d291_16 : dc 291 16 = some (.bipush 24, 18) := by decide +kernel
theorem d291_18 : dc 291 18 = some (.if_icmp .ne ((24 : Nat) : Int), 21) := by decide +kernel
theorem d291_21 : dc 291 21 = some (.iconst 0, 22) := by decide +kernel
theorem d291_22 : dc 291 22 = some (.istore 4, 24) := by decide +kernel
theorem d291_24 : dc 291 24 = some (.iload 4, 26) := by decide +kernel
theorem d291_26 : dc 291 26 = some (.ifCond .ge ((45 : Nat) : Int), 29) := by decide +kernel
theorem d291_29 : dc 291 29 = some (.aload_n 0, 30) := by decide +kernel
theorem d291_30 : dc 291 30 = some (.getfield 1701, 33) := by decide +kernel
theorem d291_33 : dc 291 33 = some (.istore 4, 35) := by decide +kernel
theorem d291_35 : dc 291 35 = some (.aload_n 0, 36) := by decide +kernel
theorem d291_36 : dc 291 36 = some (.dup, 37) := by decide +kernel
theorem d291_37 : dc 291 37 = some (.getfield 1701, 40) := by decide +kernel
theorem d291_40 : dc 291 40 = some (.iconst 1, 41) := by decide +kernel
theorem d291_41 : dc 291 41 = some (.iadd, 42) := by decide +kernel
theorem d291_42 : dc 291 42 = some (.putfield 1701, 45) := by decide +kernel
theorem d291_45 : dc 291 45 = some (.aload_n 0, 46) := by decide +kernel
theorem d291_46 : dc 291 46 = some (.dload 1703, 49) := by decide +kernel
theorem d291_49 : dc 291 49 = some (.iload 4, 51) := by decide +kernel
theorem d291_51 : dc 291 51 = some (.aaload, 52) := by decide +kernel
theorem d291_52 : dc 291 52 = some (.astore 5, 54) := by decide +kernel
theorem d291_54 : dc 291 54 = some (.iload 4, 56) := by decide +kernel
theorem d291_56 : dc 291 56 = some (.istore 6, 58) := by decide +kernel
theorem d291_58 : dc 291 58 = some (.iload 6, 60) := by decide +kernel
theorem d291_60 : dc 291 60 = some (.iconst 1, 61) := by decide +kernel
theorem d291_61 : dc 291 61 = some (.iadd, 62) := by decide +kernel
theorem d291_62 : dc 291 62 = some (.aload_n 0, 63) := by decide +kernel
theorem d291_63 : dc 291 63 = some (.getfield 1701, 66) := by decide +kernel
theorem d291_66 : dc 291 66 = some (.if_icmp .ge ((107 : Nat) : Int), 69) := by decide +kernel
theorem d291_69 : dc 291 69 = some (.aload_n 0, 70) := by decide +kernel
theorem d291_70 : dc 291 70 = some (.dload 1702, 73) := by decide +kernel
theorem d291_73 : dc 291 73 = some (.iload 6, 75) := by decide +kernel
theorem d291_75 : dc 291 75 = some (.aload_n 0, 76) := by decide +kernel
theorem d291_76 : dc 291 76 = some (.dload 1702, 79) := by decide +kernel
theorem d291_79 : dc 291 79 = some (.iload 6, 81) := by decide +kernel
theorem d291_81 : dc 291 81 = some (.iconst 1, 82) := by decide +kernel
theorem d291_82 : dc 291 82 = some (.iadd, 83) := by decide +kernel
theorem d291_83 : dc 291 83 = some (.laload, 84) := by decide +kernel
theorem d291_84 : dc 291 84 = some (.lastore, 85) := by decide +kernel
theorem d291_85 : dc 291 85 = some (.aload_n 0, 86) := by decide +kernel
theorem d291_86 : dc 291 86 = some (.dload 1703, 89) := by decide +kernel
theorem d291_89 : dc 291 89 = some (.iload 6, 91) := by decide +kernel
theorem d291_91 : dc 291 91 = some (.aload_n 0, 92) := by decide +kernel
theorem d291_92 : dc 291 92 = some (.dload 1703, 95) := by decide +kernel
theorem d291_95 : dc 291 95 = some (.iload 6, 97) := by decide +kernel
theorem d291_97 : dc 291 97 = some (.iconst 1, 98) := by decide +kernel
theorem d291_98 : dc 291 98 = some (.iadd, 99) := by decide +kernel
theorem d291_99 : dc 291 99 = some (.aaload, 100) := by decide +kernel
theorem d291_100 : dc 291 100 = some (.aastore, 101) := by decide +kernel
theorem d291_101 : dc 291 101 = some (.iinc 6 1, 104) := by decide +kernel
theorem d291_104 : dc 291 104 = some (.goto ((58 : Nat) : Int), 107) := by decide +kernel
theorem d291_107 : dc 291 107 = some (.aload_n 0, 108) := by decide +kernel
theorem d291_108 : dc 291 108 = some (.dload 1702, 111) := by decide +kernel
theorem d291_111 : dc 291 111 = some (.aload_n 0, 112) := by decide +kernel
theorem d291_112 : dc 291 112 = some (.getfield 1701, 115) := by decide +kernel
theorem d291_115 : dc 291 115 = some (.iconst 1, 116) := by decide +kernel
theorem d291_116 : dc 291 116 = some (.isub, 117) := by decide +kernel
theorem d291_117 : dc 291 117 = some (.lload_n 1, 118) := by decide +kernel
theorem d291_118 : dc 291 118 = some (.lastore, 119) := by decide +kernel
theorem d291_119 : dc 291 119 = some (.aload_n 0, 120) := by decide +kernel
theorem d291_120 : dc 291 120 = some (.dload 1703, 123) := by decide +kernel
theorem d291_123 : dc 291 123 = some (.aload_n 0, 124) := by decide +kernel
theorem d291_124 : dc 291 124 = some (.getfield 1701, 127) := by decide +kernel
theorem d291_127 : dc 291 127 = some (.iconst 1, 128) := by decide +kernel
theorem d291_128 : dc 291 128 = some (.isub, 129) := by decide +kernel
theorem d291_129 : dc 291 129 = some (.aload 5, 131) := by decide +kernel
theorem d291_131 : dc 291 131 = some (.aastore, 132) := by decide +kernel
theorem d291_132 : dc 291 132 = some (.aload 5, 134) := by decide +kernel
theorem d291_134 : dc 291 134 = some (.aload_n 3, 135) := by decide +kernel
theorem d291_135 : dc 291 135 = some (.invokevirtual 263, 138) := by decide +kernel
theorem d291_138 : dc 291 138 = some (.return_, 139) := by decide +kernel
theorem k_M_keep {S : Shp} {G : Nat → Option Nat} {d : Nat} {h : Hp} {Q : Option MV → Hp → Prop} {m : Nat} {x : Int64} {o : Nat} {ks : List (Int64 × OmV)} {v : OmV} (ok : Ok S h) (h1 : 2 ≤ d) (hm : sK S m = 14) (ho : sK S o = 13) (KP : KpR S h m ks) (OX : OmC S h o v) (nO : ∀ y, U S o y → ¬ MA S m [1701, 1702, 1703] y)
    (kk : ∀ h', Fr S m [1701, 1702, 1703] h h' → KpR S h' m (kpM ks x v) → Q none h') : Cl G d 291 [vR (some m), vJ x, vR (some o)] h Q := by
  show Wp G d 291 0 [some (vR (some m)), some (vJ x), none, some (vR (some o)), none, none, none] [] h Q
  have KP_0 := KP
  obtain ⟨q1, q2, σ, s1, s2, q3⟩ := id KP
  have kr := kfM_rg ks x
  have kk1 := kT1702 ok hm
  have ko1 := kT1703 ok hm
  have nuo : ∀ t y, t < 24 → U S (sE S (sT S 1703 m) t) y → ¬ U S o y := fun t y ht u w => nO y w (Or.inr ⟨1703, by decide, U_trans (ok.so.uE (by omega) U_refl) u⟩)
  refine w_aload_n d291_0 rfl ?_
  refine w_lload_n d291_1 rfl ?_
  refine w_callv2 d291_2 (by omega) rfl (ok.kd hm) (by simp) (Nat.le_of_ble_eq_true rfl) ?_
  refine k_M_keptOf ok (by omega) hm KP ?_
  refine w_istore4 d291_5 rfl ?_
  refine w_iload d291_7 rfl ?_
  have L45 : ∀ (m45 : Nat) (b : Hp) (p c : Nat), 0 = m45 → Fr S m [1701, 1702, 1703] h b → (FI b 1701 m = (c : Nat)) → (p < c ∧ c ≤ 24) → (kpM ks x v = ks.eraseIdx p ++ [(x, v)]) → ((p = ks.length ∧ c = ks.length + 1) ∨ (p < ks.length ∧ c = ks.length)) → (AL b (sT S 1702 m) = AL h (sT S 1702 m) ∧ AR b (sT S 1703 m) = AR h (sT S 1703 m) ∧ ∀ t, t < 24 → ∀ w, OmC S h (sE S (sT S 1703 m) (σ t)) w → OmC S b (sE S (sT S 1703 m) (σ t)) w) → Wp G d 291 45 [some (vR (some m)), some (vJ x), none, some (vR (some o)), some (vI (p : Nat)), none, none] [] b Q := by
    intro m45
    induction m45 using Nat.strongRecOn with | ind m45 IH45 => ?_
    intro b p c hm45 FRb c1 c2 c3 c4 bb
    have okb := FRb.ok
    have hsp := (s1 p (by omega)).1
    have s1g : ∀ i, i < 24 → σ i < 24 ∧ AR b (sT S 1703 m) i = some (sE S (sT S 1703 m) (σ i)) := fun i hi => ⟨(s1 i hi).1, by rw [bb.2.1]; exact (s1 i hi).2⟩
    refine w_aload_n d291_45 rfl ?_
    refine w_dloadS d291_46 (okb.kd hm) (fr1703 okb hm) ?_
    refine w_iload d291_49 rfl ?_
    refine w_aaloadSN d291_51 (gi1703 okb hm (by omega)) ((s1g p (by omega)).2) ?_
    refine w_astore5 d291_52 rfl ?_
    refine w_iload d291_54 rfl ?_
    refine w_istore6 d291_56 rfl ?_
    have L58 : ∀ (m58 : Nat) (g : Hp) (i : Nat), c - i = m58 → Fr S m [1701, 1702, 1703] h g → (p ≤ i ∧ i + 1 ≤ c) → (FI g 1701 m = (c : Nat)) → (∀ j, AL g (sT S 1702 m) j = AL h (sT S 1702 m) (if p ≤ j ∧ j < i then j + 1 else j)) → (∀ j, j < 24 → AR g (sT S 1703 m) j = AR h (sT S 1703 m) (if p ≤ j ∧ j < i then j + 1 else j)) → (∀ t, t < 24 → ∀ w, OmC S h (sE S (sT S 1703 m) (σ t)) w → OmC S g (sE S (sT S 1703 m) (σ t)) w) → Wp G d 291 58 [some (vR (some m)), some (vJ x), none, some (vR (some o)), some (vI (p : Nat)), some (vR (some (sE S (sT S 1703 m) (σ p)))), some (vI (i : Nat))] [] g Q := by
      intro m58
      induction m58 using Nat.strongRecOn with | ind m58 IH58 => ?_
      intro g i hm58 FRg i12 cg al ar om
      have okg := FRg.ok
      have nUk : ∀ t, t < 24 → ∀ y, U S (sE S (sT S 1703 m) (σ t)) y → ¬ y = sT S 1702 m := fun t ht y u z => by
        have a : U S (sT S 1703 m) y := U_trans (ok.so.uE (by have := (s1 t ht).1; omega) U_refl) u
        rw [z] at a
        exact MA.no (F := [1703]) (m := m) ok.so (g := 1702) (by decide) (by decide) (by decide) U_refl (Or.inr ⟨1703, by decide, a⟩)
      refine w_iload d291_58 rfl ?_
      refine w_iconst d291_60 (by decide) ?_
      refine w_iadd d291_61 (by constructor <;> omega) ?_
      rw [show (((i : Nat) : Int) + 1) = ((i + 1 : Nat) : Int) by omega]
      refine w_aload_n d291_62 rfl ?_
      refine w_getI (x := ((c : Nat) : Int)) d291_63 (okg.kd hm) cg ?_
      refine w_icmpge d291_66 (fun c66 => ?_) (fun c66 => ?_)
      · have hil : i + 1 = c := by omega
        refine w_aload_n d291_107 rfl ?_
        refine w_dloadS d291_108 (okg.kd hm) (fr1702 okg hm) ?_
        refine w_aload_n d291_111 rfl ?_
        refine w_getI (x := ((c : Nat) : Int)) d291_112 (okg.kd hm) cg ?_
        refine w_iconst d291_115 (by decide) ?_
        refine w_isub d291_116 (by constructor <;> omega) ?_
        rw [show ((c : Nat) : Int) - 1 = ((i : Nat) : Int) by omega]
        refine w_lload_n d291_117 rfl ?_
        refine wa1702 d291_118 okg hm (by omega) (fun h118 e118 m118 => ?_)
        have e118 : h118 = sAL g (sT S 1702 m) (i) x := e118
        have f118 : Fr S m [1702] _ _ := Fr.wB okg hm m118 (fun ζ e => ⟨1702, by decide, by decide, e ▸ U_refl⟩)
        have ok118 := f118.ok
        have FR118 := Fr.tr (F := [1701, 1702, 1703]) FRg f118 (by decide) (by decide)
        refine w_aload_n d291_119 rfl ?_
        refine w_dloadS d291_120 (ok118.kd hm) (fr1703 ok118 hm) ?_
        refine w_aload_n d291_123 rfl ?_
        refine w_getI (x := ((c : Nat) : Int)) d291_124 (ok118.kd hm) ((f118.i 1701).trans cg) ?_
        refine w_iconst d291_127 (by decide) ?_
        refine w_isub d291_128 (by constructor <;> omega) ?_
        rw [show ((c : Nat) : Int) - 1 = ((i : Nat) : Int) by omega]
        refine w_aload d291_129 rfl ?_
        refine p_AR (f := 1703) (i := σ p) (n := 24) (e := 13) d291_131 ok118 hm rfl (by decide) (sLT ok118 (f := 1703) (n := 24) hm (by decide) rfl (by decide)) hsp (by omega) (fun h131 e131 m131 => ?_)
        have e131 : h131 = sAR h118 (sT S 1703 m) (i) (some (sE S (sT S 1703 m) ((σ p)))) := e131
        have f131 : Fr S m [1703] _ _ := Fr.wB ok118 hm m131 (fun ζ e => ⟨1703, by decide, by decide, e ▸ U_refl⟩)
        have ok131 := f131.ok
        have FR131 := Fr.tr (F := [1701, 1702, 1703]) FR118 f131 (by decide) (by decide)
        refine w_aload d291_132 rfl ?_
        refine w_aload_n d291_134 rfl ?_
        have OX2 : OmC S h131 o v := OX.u ok (FR131).mo ho nO
        refine w_callv2 d291_135 (by omega) rfl (ok131.kd (kE1703 ok hm hsp)) (by simp) (Nat.le_of_ble_eq_true rfl) ?_
        refine k_O_copy ok131 (by omega) (kE1703 ok hm hsp) ho OX2 (fun y u w => nuo (σ p) y hsp w u) (fun h135 m135 OC => ?_)
        have f135 : Fr S m [1703] _ _ := Fr.wB ok131 hm m135 (fun ζ u => ⟨1703, by decide, by decide, U_trans (ok.so.uE (by omega) U_refl) u⟩)
        have ok135 := f135.ok
        have FR135 := Fr.tr (F := [1701, 1702, 1703]) FR131 f135 (by decide) (by decide)
        refine w_return d291_138 ?_
        rw [c3] at kk
        have le : (ks.eraseIdx p ++ [(x, v)]).length = c := by rw [List.length_append, List.length_eraseIdx]; split <;> simp <;> omega
        have eK : ∀ j, kM (ks.eraseIdx p ++ [(x, v)]) j = if j = i then x else if j < p then kM ks j else kM ks (j + 1) := fun j => by
          unfold kM
          rw [getD_snoc, getD_erase]
          rw [show (ks.eraseIdx p).length = i by rw [List.length_append] at le; simp at le; omega]
          (repeat' split) <;> rfl
        have eO : ∀ j, oM (ks.eraseIdx p ++ [(x, v)]) j = if j = i then v else if j < p then oM ks j else oM ks (j + 1) := fun j => by
          unfold oM
          rw [getD_snoc, getD_erase]
          rw [show (ks.eraseIdx p).length = i by rw [List.length_append] at le; simp at le; omega]
          (repeat' split) <;> rfl
        have ne1 : ¬ (sT S 1703 m) = (sT S 1702 m) := fun z => absurd ((ok.so.inj (by decide) (by decide)).mp z).1 (by decide)
        have uE0 : ¬ U S (sE S (sT S 1703 m) (σ p)) (sT S 1703 m) := fun z => by have := ok.so.uLe z; have := ok.so.ltE (b := (sT S 1703 m)) (j := σ p) (by omega); omega
        have uEk : ¬ U S (sE S (sT S 1703 m) (σ p)) (sT S 1702 m) := fun z => by
          rcases (ok.so.U_T (by decide)).mp z with z | z
          · exact ok.so.neE (by decide) (by omega) z.symm
          · have := ok.so.uLe z
            have := ok.so.ltE (b := (sT S 1703 m)) (j := σ p) (by omega)
            have := ok.so.ltT (f := 1703) (a := m) (by decide)
            omega
        have uEm : ¬ U S (sE S (sT S 1703 m) (σ p)) m := fun z => by
          have := ok.so.uLe z
          have := ok.so.ltE (b := (sT S 1703 m)) (j := σ p) (by omega)
          have := ok.so.ltT (f := 1703) (a := m) (by decide)
          omega
        have ALf : ∀ j, AL h135 (sT S 1702 m) j = if j = i then x else AL h (sT S 1702 m) (if p ≤ j ∧ j < i then j + 1 else j) := fun j => by
          rw [m135.al ok131 (by omega) uEk, m131.al ok118 (by omega) (fun z => ne1 z.symm), e118]
          show up2 _ _ _ _ _ _ = _
          rw [up2_ax]
          by_cases q : j = i
          · rw [if_pos q, if_pos q]
          · rw [if_neg q, if_neg q]; exact al j
        have ARf : ∀ j, j < 24 → AR h135 (sT S 1703 m) j = if j = i then some (sE S (sT S 1703 m) (σ p)) else some (sE S (sT S 1703 m) (σ (if p ≤ j ∧ j < i then j + 1 else j))) := fun j hj => by
          rw [m135.ar ok131 (by omega) uE0, e131, AR_sAR]
          by_cases q : j = i
          · rw [if_pos ⟨rfl, q⟩, if_pos q]
          · rw [if_neg (fun z => q z.2), if_neg q, m118.ar okg (by omega) (fun z => ne1 z), ar j hj]
            exact (s1 _ (by split <;> omega)).2
        have OMf : ∀ t, t < 24 → t ≠ p → ∀ w, OmC S h (sE S (sT S 1703 m) (σ t)) w → OmC S h135 (sE S (sT S 1703 m) (σ t)) w := fun t ht nt w D => by
          have st := (s1 t ht).1
          have D2 := om t ht w D
          have k13 := kE1703 ok hm st
          have D3 := D2.u okg m118 k13 (fun y u z => nUk t ht y u z)
          have D4 := D3.u ok118 m131 k13 (fun y u z => by
            have := ok.so.uLe u
            have := ok.so.ltE (b := (sT S 1703 m)) (j := σ t) (by omega)
            omega)
          exact D4.u ok131 m135 k13 (fun y u => nUE ok.so (by omega) (by omega) (fun z => nt (s2 t p ht (by omega) z)) u)
        refine kk h135 FR135 ⟨?_, by rw [le]; omega, fun j => if j = i then σ p else σ (if p ≤ j ∧ j < i then j + 1 else j), fun j hj => ?_, fun j t hj ht e => ?_, fun j hj => ?_⟩
        · rw [m135.fi ok131 (by omega) uEm 1701, m131.fi ok118 (by omega) (fun z => ok.so.pT (by decide) z.symm) 1701, (f118.i 1701), cg, le]
        · dsimp only
          rw [ARf j hj]
          by_cases q : j = i
          · rw [if_pos q, if_pos q]; exact ⟨hsp, rfl⟩
          · rw [if_neg q, if_neg q]; exact ⟨(s1 _ (by split <;> omega)).1, rfl⟩
        · dsimp only at e
          have key : ∀ j, j < 24 → ∃ t, t < 24 ∧ (if j = i then σ p else σ (if p ≤ j ∧ j < i then j + 1 else j)) = σ t ∧ t = (if j = i then p else if p ≤ j ∧ j < i then j + 1 else j) := fun j hj => by
            by_cases q : j = i
            · exact ⟨p, by omega, by rw [if_pos q], by rw [if_pos q]⟩
            · exact ⟨if p ≤ j ∧ j < i then j + 1 else j, by split <;> omega, by rw [if_neg q], by rw [if_neg q]⟩
          obtain ⟨t1, t2, t3, t4⟩ := key j hj
          obtain ⟨u1, u2, u3, u4⟩ := key t ht
          rw [t3, u3] at e
          have z := s2 t1 u1 t2 u2 e
          rw [t4, u4] at z
          (repeat' split at z) <;> omega
        · rw [le] at hj
          rw [eK, eO, ALf]
          dsimp only
          by_cases q : j = i
          · rw [if_pos q, if_pos q, if_pos q, if_pos q]
            exact ⟨rfl, OC⟩
          · rw [if_neg q, if_neg q, if_neg q, if_neg q]
            by_cases q2 : j < p
            · rw [if_neg (by omega), if_pos q2, if_pos q2]
              exact ⟨(q3 j (by omega)).1, OMf j (by omega) (by omega) _ (q3 j (by omega)).2⟩
            · rw [if_pos ⟨by omega, by omega⟩, if_neg q2, if_neg q2]
              exact ⟨(q3 (j + 1) (by omega)).1, OMf (j + 1) (by omega) (by omega) _ (q3 (j + 1) (by omega)).2⟩
      · have hil : i + 1 < c := by omega
        refine w_aload_n d291_69 rfl ?_
        refine w_dloadS d291_70 (okg.kd hm) (fr1702 okg hm) ?_
        refine w_iload d291_73 rfl ?_
        refine w_aload_n d291_75 rfl ?_
        refine w_dloadS d291_76 (okg.kd hm) (fr1702 okg hm) ?_
        refine w_iload d291_79 rfl ?_
        refine w_iconst d291_81 (by decide) ?_
        refine w_iadd d291_82 (by constructor <;> omega) ?_
        rw [show (((i : Nat) : Int) + 1) = ((i + 1 : Nat) : Int) by omega]
        refine w_laloadV (x := (AL h (sT S 1702 m) (i + 1))) d291_83 (gi1702 okg hm (by omega)) ((al (i + 1)).trans (by rw [if_neg (by omega)])) ?_
        refine wa1702 d291_84 okg hm (by omega) (fun h84 e84 m84 => ?_)
        have e84 : h84 = sAL g (sT S 1702 m) i (AL h (sT S 1702 m) (i + 1)) := e84
        have f84 : Fr S m [1702] _ _ := Fr.wB okg hm m84 (fun ζ e => ⟨1702, by decide, by decide, e ▸ U_refl⟩)
        have ok84 := f84.ok
        have FR84 := Fr.tr (F := [1701, 1702, 1703]) FRg f84 (by decide) (by decide)
        refine w_aload_n d291_85 rfl ?_
        refine w_dloadS d291_86 (ok84.kd hm) (fr1703 ok84 hm) ?_
        refine w_iload d291_89 rfl ?_
        refine w_aload_n d291_91 rfl ?_
        refine w_dloadS d291_92 (ok84.kd hm) (fr1703 ok84 hm) ?_
        refine w_iload d291_95 rfl ?_
        refine w_iconst d291_97 (by decide) ?_
        refine w_iadd d291_98 (by constructor <;> omega) ?_
        rw [show (((i : Nat) : Int) + 1) = ((i + 1 : Nat) : Int) by omega]
        refine w_aaloadSN d291_99 (gi1703 ok84 hm (by omega)) (by rw [m84.ar okg (by omega) (fun z => absurd ((ok.so.inj (by decide) (by decide)).mp z).1 (by decide)), ar (i + 1) (by omega), if_neg (by omega)]; exact (s1 (i + 1) (by omega)).2) ?_
        refine p_AR (f := 1703) (i := σ (i + 1)) (n := 24) (e := 13) d291_100 ok84 hm rfl (by decide) (sLT ok84 (f := 1703) (n := 24) hm (by decide) rfl (by decide)) (s1 (i + 1) (by omega)).1 (by omega) (fun h100 e100 m100 => ?_)
        have e100 : h100 = sAR h84 (sT S 1703 m) i (some (sE S (sT S 1703 m) ((σ (i + 1))))) := e100
        have f100 : Fr S m [1703] _ _ := Fr.wB ok84 hm m100 (fun ζ e => ⟨1703, by decide, by decide, e ▸ U_refl⟩)
        have ok100 := f100.ok
        have FR100 := Fr.tr (F := [1701, 1702, 1703]) FR84 f100 (by decide) (by decide)
        refine w_iinc6 d291_101 rfl (by constructor <;> omega) ?_
        refine w_goto d291_104 ?_
        rw [show (((i : Nat) : Int) + 1) = ((i + 1 : Nat) : Int) by omega]
        have sc : ∀ j, j ≠ i → (if p ≤ j ∧ j < i + 1 then j + 1 else j) = (if p ≤ j ∧ j < i then j + 1 else j) := fun j q => by split <;> split <;> omega
        refine w_less ?_ (IH58 _ (by omega) h100 (i + 1) rfl FR100 ⟨by omega, by omega⟩ ((f100.i 1701).trans ((f84.i 1701).trans cg)) (fun j => by rw [m100.al ok84 (by omega) (fun z => absurd ((ok.so.inj (by decide) (by decide)).mp z).1 (by decide)), e84]; show up2 _ _ _ _ _ _ = _; rw [up2_ax]; by_cases q : j = i; rw [if_pos q, if_pos (by omega), q]; rw [if_neg q, al j, sc j q]) (fun j hj => by rw [e100, AR_sAR]; by_cases q : j = i; rw [if_pos ⟨rfl, q⟩, if_pos (by omega), q]; exact (s1 (i + 1) (by omega)).2.symm; rw [if_neg (fun z => q z.2), m84.ar okg (by omega) (fun z => absurd ((ok.so.inj (by decide) (by decide)).mp z).1 (by decide)), ar j hj, sc j q]) (fun t ht w D => ((om t ht w D).u okg m84 (kE1703 ok hm (s1 t ht).1) (fun y u z => nUk t ht y u z)).u ok84 m100 (kE1703 ok hm (s1 t ht).1) (fun y u z => by have := ok.so.uLe u; have := ok.so.ltE (b := (sT S 1703 m)) (j := σ t) (by have := (s1 t ht).1; omega); omega)))
        exact ⟨Or.inr rfl, Or.inr rfl, Or.inl rfl, Or.inr rfl, Or.inr rfl, Or.inr rfl, Or.inr rfl, trivial⟩
    refine w_less ?_ (L58 _ b p rfl FRb ⟨Nat.le_refl _, by omega⟩ c1 (fun j => by rw [bb.1, if_neg (show ¬ (p ≤ j ∧ j < p) by omega)]) (fun j hj => by rw [bb.2.1, if_neg (show ¬ (p ≤ j ∧ j < p) by omega)]) bb.2.2)
    exact ⟨Or.inr rfl, Or.inr rfl, Or.inl rfl, Or.inr rfl, Or.inr rfl, Or.inr rfl, Or.inr rfl, trivial⟩
  refine w_ifge d291_9 (fun c9 => ?_) (fun c9 => ?_)
  · obtain ⟨p0, hp0⟩ : ∃ p0 : Nat, kfM ks x = (p0 : Int) := ⟨(kfM ks x).toNat, by omega⟩
    rw [hp0]
    refine w_iload d291_24 rfl ?_
    refine w_ifge d291_26 (fun c26 => ?_) (fun c26 => ?_)
    · refine w_less ?_ (L45 _ h p0 ks.length rfl (Fr.refl ok) q1 ⟨by omega, by omega⟩ (by unfold kpM; rw [if_pos (by omega), hp0, Int.toNat_natCast]) (Or.inr ⟨by omega, rfl⟩) ⟨rfl, rfl, fun _ _ _ D => D⟩)
      exact ⟨Or.inr rfl, Or.inr rfl, Or.inl rfl, Or.inr rfl, Or.inr rfl, Or.inl rfl, Or.inl rfl, trivial⟩
    · omega
  · have kn : ¬ 0 ≤ kfM ks x := by omega
    refine w_aload_n d291_12 rfl ?_
    refine w_getI (x := ((ks.length : Nat) : Int)) d291_13 (ok.kd hm) q1 ?_
    refine w_bipush d291_16 (by decide) ?_
    refine w_icmpne d291_18 (fun c18 => ?_) (fun c18 => ?_)
    · refine w_iload d291_24 rfl ?_
      refine w_ifge d291_26 (fun c26 => ?_) (fun c26 => ?_)
      · omega
      · refine w_aload_n d291_29 rfl ?_
        refine w_getI (x := ((ks.length : Nat) : Int)) d291_30 (ok.kd hm) q1 ?_
        refine w_istore4 d291_33 rfl ?_
        refine w_aload_n d291_35 rfl ?_
        refine w_dupR d291_36 ?_
        refine w_getI (x := ((ks.length : Nat) : Int)) d291_37 (ok.kd hm) q1 ?_
        refine w_iconst d291_40 (by decide) ?_
        refine w_iadd d291_41 (by constructor <;> omega) ?_
        refine wf1701 d291_42 ok hm (by omega) (fun h42 e42 m42 => ?_)
        have f42 : Fr S m [1701] _ _ := Fr.wF ok m42 (FK.pI e42)
        have ok42 := f42.ok
        have FR42 := Fr.le (F := [1701, 1702, 1703]) f42 (by decide)
        refine w_less ?_ (L45 _ h42 ks.length (ks.length + 1) rfl FR42 (by rw [e42, FI_sFI, if_pos ⟨rfl, rfl⟩]; omega) ⟨by omega, by omega⟩ (by unfold kpM; rw [if_neg kn, if_pos (by omega), List.eraseIdx_of_length_le (Nat.le_refl _)]) (Or.inl ⟨rfl, rfl⟩) ⟨m42.al ok (by omega) (fun z => ok.so.pT (by decide) z), m42.ar ok (by omega) (fun z => ok.so.pT (by decide) z), fun t ht w D => D.u ok m42 (kE1703 ok hm (s1 t ht).1) (fun y u z => by have := ok.so.uLe u; have := ok.so.ltE (b := (sT S 1703 m)) (j := σ t) (by have := (s1 t ht).1; omega); have := ok.so.ltT (f := 1703) (a := m) (by decide); omega)⟩)
        exact ⟨Or.inr rfl, Or.inr rfl, Or.inl rfl, Or.inr rfl, Or.inr rfl, Or.inl rfl, Or.inl rfl, trivial⟩
    · refine w_iconst d291_21 (by decide) ?_
      refine w_istore4 d291_22 rfl ?_
      refine w_iload d291_24 rfl ?_
      refine w_ifge d291_26 (fun c26 => ?_) (fun c26 => ?_)
      · refine w_less ?_ (L45 _ h 0 ks.length rfl (Fr.refl ok) q1 ⟨by omega, by omega⟩ (by unfold kpM; rw [if_neg kn, if_neg (by omega)]) (Or.inr ⟨by omega, rfl⟩) ⟨rfl, rfl, fun _ _ _ D => D⟩)
        exact ⟨Or.inr rfl, Or.inr rfl, Or.inl rfl, Or.inr rfl, Or.inr rfl, Or.inl rfl, Or.inl rfl, trivial⟩
      · omega
