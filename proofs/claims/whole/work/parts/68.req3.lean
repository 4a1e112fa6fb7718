/-! requests: versions, trees, rules, inputs, conditions -/
def isV (c : Nat) : Bool := decide (c = 45) || (decide (49 ≤ c) && decide (c ≤ 51))
theorem isV_t {c : Nat} : isV c = true ↔ c = 45 ∨ 49 ≤ c ∧ c ≤ 51 := by simp [isV]
def vVal (c : Nat) : Nat := if c = 45 then 0 else c - 48
/-- versions from a place on: right, where it ends, they -/
def pVer (l : List Nat) : Nat → Nat → Bool × Nat × List Nat
  | 0, a => (false, a, [])
  | f + 1, a => if a < l.length ∧ isV (l.getD a 0) = true then (if pSign l 32 (a + 1) = true then ((pVer l f (a + 2)).1, (pVer l f (a + 2)).2.1, vVal (l.getD a 0) :: (pVer l f (a + 2)).2.2) else (true, a + 1, [vVal (l.getD a 0)])) else (false, a, [])
/-- trees from a place on, o of them -/
def pTr (l : List Nat) : Nat → Nat → Nat → Bool × Nat
  | 0, o, a => (decide (o = 0), a)
  | f + 1, o, a => if o = 0 then (true, a) else if pSign l 63 a = true then (if pDig l (a + 1) = true then pTr l f (o + 3) (a + 2) else (false, a + 1)) else if pSign l 33 a = true then (if pDig l (a + 1) = true then (if pDig l (a + 2) = true then pTr l f (o - 1) (a + 3) else (false, a + 2)) else (false, a + 1)) else (false, a)
theorem pSign_lt {l : List Nat} {c a : Nat} (h : pSign l c a = true) : a < l.length := (of_decide_eq_true h).1
theorem pDig_lt {l : List Nat} {a : Nat} (h : pDig l a = true) : a < l.length := (of_decide_eq_true h).1
theorem d48_0 : dc 48 0 = some (.iconst 0, 1) := by decide +kernel
theorem d48_1 : dc 48 1 = some (.istore_n 1, 2) := by decide +kernel
theorem d48_2 : dc 48 2 = some (.iload_n 1, 3) := by decide +kernel
theorem d48_3 : dc 48 3 = some (.sipush 4096, 6) := by decide +kernel
theorem d48_6 : dc 48 6 = some (.if_icmp .ge ((86 : Nat) : Int), 9) := by decide +kernel
theorem d48_9 : dc 48 9 = some (.aload_n 0, 10) := by decide +kernel
theorem d48_10 : dc 48 10 = some (.dload 512, 13) := by decide +kernel
theorem d48_13 : dc 48 13 = some (.aload_n 0, 14) := by decide +kernel
theorem d48_14 : dc 48 14 = some (.getfield 516, 17) := by decide +kernel
theorem d48_17 : dc 48 17 = some (.invokevirtual 23, 20) := by decide +kernel
theorem d48_20 : dc 48 20 = some (.istore_n 2, 21) := by decide +kernel
theorem d48_21 : dc 48 21 = some (.iload_n 2, 22) := by decide +kernel
theorem d48_22 : dc 48 22 = some (.bipush 45, 24) := by decide +kernel
theorem d48_24 : dc 48 24 = some (.if_icmp .eq ((41 : Nat) : Int), 27) := by decide +kernel
theorem d48_27 : dc 48 27 = some (.iload_n 2, 28) := by decide +kernel
theorem d48_28 : dc 48 28 = some (.bipush 49, 30) := by decide +kernel
theorem d48_30 : dc 48 30 = some (.if_icmp .lt ((39 : Nat) : Int), 33) := by decide +kernel
theorem d48_33 : dc 48 33 = some (.iload_n 2, 34) := by decide +kernel
theorem d48_34 : dc 48 34 = some (.bipush 51, 36) := by decide +kernel
theorem d48_36 : dc 48 36 = some (.if_icmp .le ((41 : Nat) : Int), 39) := by decide +kernel
theorem d48_39 : dc 48 39 = some (.iconst 0, 40) := by decide +kernel
theorem d48_40 : dc 48 40 = some (.freturn, 41) := by decide +kernel
theorem d48_41 : dc 48 41 = some (.aload_n 0, 42) := by decide +kernel
theorem d48_42 : dc 48 42 = some (.iload_n 2, 43) := by decide +kernel
theorem d48_43 : dc 48 43 = some (.bipush 45, 45) := by decide +kernel
theorem d48_45 : dc 48 45 = some (.if_icmp .ne ((52 : Nat) : Int), 48) := by decide +kernel
theorem d48_48 : dc 48 48 = some (.iconst 0, 49) := by decide +kernel
theorem d48_49 : dc 48 49 = some (.goto ((56 : Nat) : Int), 52) := by decide +kernel
theorem d48_52 : dc 48 52 = some (.iload_n 2, 53) := by decide +kernel
theorem d48_53 : dc 48 53 = some (.bipush 48, 55) := by decide +kernel
theorem d48_55 : dc 48 55 = some (.isub, 56) := by decide +kernel
theorem d48_56 : dc 48 56 = some (.invokevirtual 38, 59) := by decide +kernel
theorem d48_59 : dc 48 59 = some (.aload_n 0, 60) := by decide +kernel
theorem d48_60 : dc 48 60 = some (.dup, 61) := by decide +kernel
theorem d48_61 : dc 48 61 = some (.getfield 516, 64) := by decide +kernel
theorem d48_64 : dc 48 64 = some (.iconst 1, 65) := by decide +kernel
theorem d48_65 : dc 48 65 = some (.iadd, 66) := by decide +kernel
theorem d48_66 : dc 48 66 = some (.putfield 516, 69) := by decide +kernel
theorem d48_69 : dc 48 69 = some (.aload_n 0, 70) := by decide +kernel
theorem d48_70 : dc 48 70 = some (.bipush 32, 72) := by decide +kernel
theorem d48_72 : dc 48 72 = some (.invokevirtual 40, 75) := by decide +kernel
theorem d48_75 : dc 48 75 = some (.ifCond .ne ((80 : Nat) : Int), 78) := by decide +kernel
theorem d48_78 : dc 48 78 = some (.iconst 1, 79) := by decide +kernel
theorem d48_79 : dc 48 79 = some (.freturn, 80) := by decide +kernel
theorem d48_80 : dc 48 80 = some (.iinc 1 1, 83) := by decide +kernel
theorem d48_83 : dc 48 83 = some (.goto ((2 : Nat) : Int), 86) := by decide +kernel
theorem k_Rq_readVersions {S : Shp} {G : Nat → Option Nat} {d : Nat} {h : Hp} {Q : Option MV → Hp → Prop} {q : Nat}  (ok : Ok S h) (h1 : 2 ≤ d) (hq : sK S q = 5) {vb : Option Nat} {l : List Nat} {a : Nat} {ws : List (List Nat)} {ns : List Nat} (R : RqC S h q l a ws ns vb)
    (kk : ∀ h' v a' ns', Mo S (rqA S q) h h' → RqC S h' q l a' ws ns' vb → (v = (pVer l 4096 a).1 ∧ a' = (pVer l 4096 a).2.1 ∧ ns' = ns ++ (pVer l 4096 a).2.2) → Q (some (vI (b2i v))) h') : Cl G d 48 [vR (some q)] h Q := by
  show Wp G d 48 0 [some (vR (some q)), none, none] [] h Q
  have nT : ∀ f, f < 4096 → sT S f q ≠ q := fun f hf => ok.so.pT hf
  generalize hP : pVer l 4096 a = P at kk
  refine w_iconst d48_0 (by decide) ?_
  refine w_istore1 d48_1 rfl ?_
  have L2 : ∀ (m2 : Nat) (g : Hp) (i b : Nat) (vs : List Nat), 4096 - i = m2 → Mo S (fun x => x = q ∨ x = (sT S 517 q) ∨ x = (sT S 518 q) ∨ x = (sT S 520 q)) h g → (i ≤ 4096) → (RqC S g q l b ws (ns ++ vs) vb) → (P = ((pVer l (4096 - i) b).1, (pVer l (4096 - i) b).2.1, vs ++ (pVer l (4096 - i) b).2.2)) → (2 * i ≤ b) → Wp G d 48 2 [some (vR (some q)), some (vI (i : Nat)), none] [] g Q := by
    intro m2
    induction m2 using Nat.strongRecOn with | ind m2 IH2 => ?_
    intro g i b vs hm2 Mg i1 R i3 i4
    have okg := Mg.ok
    have r4 := R.2.2.2.1
    have r2 := R.2.1
    have r1 := R.1
    refine w_iload_n d48_2 rfl ?_
    refine w_sipush d48_3 (by decide) ?_
    refine w_icmpge d48_6 (fun c6 => ?_) (fun c6 => ?_)
    · omega
    · have es : (pVer l (4096 - i) b) = pVer l ((4096 - (i + 1)) + 1) b := by rw [show 4096 - i = (4096 - (i + 1)) + 1 by omega]
      rw [es] at i3
      have va : (b < l.length ∧ atv l ((b : Nat) : Int) = (l.getD b 0 : Nat)) ∨ (¬ b < l.length ∧ atv l ((b : Nat) : Int) = -1) := by
        by_cases c : b < l.length
        · exact Or.inl ⟨c, atvN c⟩
        · refine Or.inr ⟨c, ?_⟩; unfold atv; rw [if_neg (by omega)]
      refine w_aload_n d48_9 rfl ?_
      refine w_dloadS d48_10 (okg.kd hq) (fr512 okg hq) ?_
      refine w_aload_n d48_13 rfl ?_
      refine w_getI (x := ((b : Nat) : Int)) d48_14 (okg.kd hq) R.2.2.1 ?_
      refine w_callv2 d48_17 (by omega) rfl (okg.kd (kT512 okg hq)) (by simp) (Nat.le_of_ble_eq_true rfl) ?_
      refine r_Row_at okg (kT512 okg hq) ?_
      rw [r1]
      refine w_istore2 d48_20 rfl ?_
      refine w_iload_n d48_21 rfl ?_
      refine w_bipush d48_22 (by decide) ?_
      refine w_icmpeq d48_24 (fun c24 => ?_) (fun c24 => ?_)
      · have hv : b < l.length ∧ isV (l.getD b 0) = true := ⟨by omega, isV_t.mpr (Or.inl (by omega))⟩
        have hg : atv l ((b : Nat) : Int) = (l.getD b 0 : Nat) := by omega
        refine w_aload_n d48_41 rfl ?_
        refine w_iload_n d48_42 rfl ?_
        refine w_bipush d48_43 (by decide) ?_
        refine w_icmpne d48_45 (fun c45 => ?_) (fun c45 => ?_)
        · have hw : atv l ((b : Nat) : Int) - 48 = (vVal (l.getD b 0) : Nat) := by have := isV_t.mp hv.2; unfold vVal; split <;> omega
          refine w_iload_n d48_52 rfl ?_
          refine w_bipush d48_53 (by decide) ?_
          refine w_isub d48_55 (by constructor <;> omega) ?_
          first | rw [hw] | (show Wp G d 48 56 _ [vI (0 : Int), _] _ Q; rw [hw])
          refine w_callv2 d48_56 (by omega) rfl (okg.kd hq) (by simp) (Nat.le_of_ble_eq_true rfl) ?_
          refine k_Rq_keepNumber (v := vVal (l.getD b 0)) okg (by omega) hq R (by have := isV_t.mp hv.2; unfold vVal; split <;> omega) (fun h56 m56 _ K56 A56 _ _ => ?_)
          have ok56 := m56.ok
          have M56 := Mo.tr ok Mg m56 (fun x q => q.elim ((fun x e => (Or.inl e)) x) ((fun x q => q.elim ((fun x e => (Or.inr (Or.inl e))) x) ((fun x q => q.elim ((fun x e => (Or.inr (Or.inr (Or.inl e)))) x) ((fun x e => (Or.inr (Or.inr (Or.inr e)))) x)) x)) x))
          refine w_aload_n d48_59 rfl ?_
          refine w_dupR d48_60 ?_
          refine w_getI (x := ((b : Nat) : Int)) d48_61 (ok56.kd hq) A56 ?_
          refine w_iconst d48_64 (by decide) ?_
          refine w_iadd d48_65 (by constructor <;> omega) ?_
          refine wf516 d48_66 ok56 hq (by omega) (fun h66 e66 m66 => ?_)
          have ok66 := m66.ok
          have M66 := Mo.tr ok M56 m66 (fun x e => (Or.inl e))
          have R := K56 h66 (b + 1) m66 e66 (by omega) (by omega)
          refine w_aload_n d48_69 rfl ?_
          refine w_bipush d48_70 (by decide) ?_
          refine w_callv2 d48_72 (by omega) rfl (ok66.kd hq) (by simp) (Nat.le_of_ble_eq_true rfl) ?_
          refine k_Rq_readSign ok66 (by omega) hq R (fun h72 v72 a72 m72 R e72 => ?_)
          have ok72 := m72.ok
          have M72 := Mo.tr ok M66 m72 (fun x e => (Or.inl e))
          refine w_ifne d48_75 (fun c75 => ?_) (fun c75 => ?_)
          · have p75 : pSign l 32 (b + 1) = true := by rw [← e72.1]; exact b2i_nz c75
            have a72e : a72 = b + 2 := by rw [e72.2, b2i_nz c75]; rfl
            have l72 := pSign_lt p75
            refine w_iinc1 d48_80 rfl (by constructor <;> omega) ?_
            refine w_goto d48_83 ?_
            subst a72e
            refine w_less ?_ (IH2 _ (by omega) h72 (i + 1) (b + 2) (vs ++ [vVal (l.getD b 0)]) rfl M72 (by omega) (by rw [← List.append_assoc]; exact R) (by rw [pVer, if_pos hv, if_pos p75] at i3; rw [i3]; simp) (by omega))
            exact ⟨Or.inr rfl, Or.inr rfl, Or.inl rfl, trivial⟩
          · have p75 : pSign l 32 (b + 1) = false := by rw [← e72.1]; exact b2i_f.mp c75
            have a72e : a72 = b + 1 := by rw [e72.2, b2i_f.mp c75]; rfl
            refine w_iconst d48_78 (by decide) ?_
            refine w_zreturn d48_79 (by decide) ?_
            rw [pVer, if_pos hv, if_neg (by rw [p75]; decide)] at i3
            exact kk h72 true a72 _ M72 R ⟨by rw [i3], by rw [i3]; exact a72e, by rw [i3]; simp⟩
        · have hw : (0 : Int) = (vVal (l.getD b 0) : Nat) := by unfold vVal; rw [if_pos (by omega)]; rfl
          refine w_iconst d48_48 (by decide) ?_
          refine w_goto d48_49 ?_
          first | rw [hw] | (show Wp G d 48 56 _ [vI (0 : Int), _] _ Q; rw [hw])
          refine w_callv2 d48_56 (by omega) rfl (okg.kd hq) (by simp) (Nat.le_of_ble_eq_true rfl) ?_
          refine k_Rq_keepNumber (v := vVal (l.getD b 0)) okg (by omega) hq R (by have := isV_t.mp hv.2; unfold vVal; split <;> omega) (fun h56 m56 _ K56 A56 _ _ => ?_)
          have ok56 := m56.ok
          have M56 := Mo.tr ok Mg m56 (fun x q => q.elim ((fun x e => (Or.inl e)) x) ((fun x q => q.elim ((fun x e => (Or.inr (Or.inl e))) x) ((fun x q => q.elim ((fun x e => (Or.inr (Or.inr (Or.inl e)))) x) ((fun x e => (Or.inr (Or.inr (Or.inr e)))) x)) x)) x))
          refine w_aload_n d48_59 rfl ?_
          refine w_dupR d48_60 ?_
          refine w_getI (x := ((b : Nat) : Int)) d48_61 (ok56.kd hq) A56 ?_
          refine w_iconst d48_64 (by decide) ?_
          refine w_iadd d48_65 (by constructor <;> omega) ?_
          refine wf516 d48_66 ok56 hq (by omega) (fun h66 e66 m66 => ?_)
          have ok66 := m66.ok
          have M66 := Mo.tr ok M56 m66 (fun x e => (Or.inl e))
          have R := K56 h66 (b + 1) m66 e66 (by omega) (by omega)
          refine w_aload_n d48_69 rfl ?_
          refine w_bipush d48_70 (by decide) ?_
          refine w_callv2 d48_72 (by omega) rfl (ok66.kd hq) (by simp) (Nat.le_of_ble_eq_true rfl) ?_
          refine k_Rq_readSign ok66 (by omega) hq R (fun h72 v72 a72 m72 R e72 => ?_)
          have ok72 := m72.ok
          have M72 := Mo.tr ok M66 m72 (fun x e => (Or.inl e))
          refine w_ifne d48_75 (fun c75 => ?_) (fun c75 => ?_)
          · have p75 : pSign l 32 (b + 1) = true := by rw [← e72.1]; exact b2i_nz c75
            have a72e : a72 = b + 2 := by rw [e72.2, b2i_nz c75]; rfl
            have l72 := pSign_lt p75
            refine w_iinc1 d48_80 rfl (by constructor <;> omega) ?_
            refine w_goto d48_83 ?_
            subst a72e
            refine w_less ?_ (IH2 _ (by omega) h72 (i + 1) (b + 2) (vs ++ [vVal (l.getD b 0)]) rfl M72 (by omega) (by rw [← List.append_assoc]; exact R) (by rw [pVer, if_pos hv, if_pos p75] at i3; rw [i3]; simp) (by omega))
            exact ⟨Or.inr rfl, Or.inr rfl, Or.inl rfl, trivial⟩
          · have p75 : pSign l 32 (b + 1) = false := by rw [← e72.1]; exact b2i_f.mp c75
            have a72e : a72 = b + 1 := by rw [e72.2, b2i_f.mp c75]; rfl
            refine w_iconst d48_78 (by decide) ?_
            refine w_zreturn d48_79 (by decide) ?_
            rw [pVer, if_pos hv, if_neg (by rw [p75]; decide)] at i3
            exact kk h72 true a72 _ M72 R ⟨by rw [i3], by rw [i3]; exact a72e, by rw [i3]; simp⟩
      · refine w_iload_n d48_27 rfl ?_
        refine w_bipush d48_28 (by decide) ?_
        refine w_icmplt d48_30 (fun c30 => ?_) (fun c30 => ?_)
        · refine w_iconst d48_39 (by decide) ?_
          refine w_zreturn d48_40 (by decide) ?_
          have nv : ¬ (b < l.length ∧ isV (l.getD b 0) = true) := fun z => by
            have := isV_t.mp z.2
            omega
          rw [pVer, if_neg nv] at i3
          exact kk g false b (ns ++ vs) Mg R ⟨by rw [i3], by rw [i3], by rw [i3]; simp⟩
        · refine w_iload_n d48_33 rfl ?_
          refine w_bipush d48_34 (by decide) ?_
          refine w_icmple d48_36 (fun c36 => ?_) (fun c36 => ?_)
          · have hv : b < l.length ∧ isV (l.getD b 0) = true := ⟨by omega, isV_t.mpr (Or.inr ⟨by omega, by omega⟩)⟩
            have hg : atv l ((b : Nat) : Int) = (l.getD b 0 : Nat) := by omega
            refine w_aload_n d48_41 rfl ?_
            refine w_iload_n d48_42 rfl ?_
            refine w_bipush d48_43 (by decide) ?_
            refine w_icmpne d48_45 (fun c45 => ?_) (fun c45 => ?_)
            · have hw : atv l ((b : Nat) : Int) - 48 = (vVal (l.getD b 0) : Nat) := by have := isV_t.mp hv.2; unfold vVal; split <;> omega
              refine w_iload_n d48_52 rfl ?_
              refine w_bipush d48_53 (by decide) ?_
              refine w_isub d48_55 (by constructor <;> omega) ?_
              first | rw [hw] | (show Wp G d 48 56 _ [vI (0 : Int), _] _ Q; rw [hw])
              refine w_callv2 d48_56 (by omega) rfl (okg.kd hq) (by simp) (Nat.le_of_ble_eq_true rfl) ?_
              refine k_Rq_keepNumber (v := vVal (l.getD b 0)) okg (by omega) hq R (by have := isV_t.mp hv.2; unfold vVal; split <;> omega) (fun h56 m56 _ K56 A56 _ _ => ?_)
              have ok56 := m56.ok
              have M56 := Mo.tr ok Mg m56 (fun x q => q.elim ((fun x e => (Or.inl e)) x) ((fun x q => q.elim ((fun x e => (Or.inr (Or.inl e))) x) ((fun x q => q.elim ((fun x e => (Or.inr (Or.inr (Or.inl e)))) x) ((fun x e => (Or.inr (Or.inr (Or.inr e)))) x)) x)) x))
              refine w_aload_n d48_59 rfl ?_
              refine w_dupR d48_60 ?_
              refine w_getI (x := ((b : Nat) : Int)) d48_61 (ok56.kd hq) A56 ?_
              refine w_iconst d48_64 (by decide) ?_
              refine w_iadd d48_65 (by constructor <;> omega) ?_
              refine wf516 d48_66 ok56 hq (by omega) (fun h66 e66 m66 => ?_)
              have ok66 := m66.ok
              have M66 := Mo.tr ok M56 m66 (fun x e => (Or.inl e))
              have R := K56 h66 (b + 1) m66 e66 (by omega) (by omega)
              refine w_aload_n d48_69 rfl ?_
              refine w_bipush d48_70 (by decide) ?_
              refine w_callv2 d48_72 (by omega) rfl (ok66.kd hq) (by simp) (Nat.le_of_ble_eq_true rfl) ?_
              refine k_Rq_readSign ok66 (by omega) hq R (fun h72 v72 a72 m72 R e72 => ?_)
              have ok72 := m72.ok
              have M72 := Mo.tr ok M66 m72 (fun x e => (Or.inl e))
              refine w_ifne d48_75 (fun c75 => ?_) (fun c75 => ?_)
              · have p75 : pSign l 32 (b + 1) = true := by rw [← e72.1]; exact b2i_nz c75
                have a72e : a72 = b + 2 := by rw [e72.2, b2i_nz c75]; rfl
                have l72 := pSign_lt p75
                refine w_iinc1 d48_80 rfl (by constructor <;> omega) ?_
                refine w_goto d48_83 ?_
                subst a72e
                refine w_less ?_ (IH2 _ (by omega) h72 (i + 1) (b + 2) (vs ++ [vVal (l.getD b 0)]) rfl M72 (by omega) (by rw [← List.append_assoc]; exact R) (by rw [pVer, if_pos hv, if_pos p75] at i3; rw [i3]; simp) (by omega))
                exact ⟨Or.inr rfl, Or.inr rfl, Or.inl rfl, trivial⟩
              · have p75 : pSign l 32 (b + 1) = false := by rw [← e72.1]; exact b2i_f.mp c75
                have a72e : a72 = b + 1 := by rw [e72.2, b2i_f.mp c75]; rfl
                refine w_iconst d48_78 (by decide) ?_
                refine w_zreturn d48_79 (by decide) ?_
                rw [pVer, if_pos hv, if_neg (by rw [p75]; decide)] at i3
                exact kk h72 true a72 _ M72 R ⟨by rw [i3], by rw [i3]; exact a72e, by rw [i3]; simp⟩
            · have hw : (0 : Int) = (vVal (l.getD b 0) : Nat) := by unfold vVal; rw [if_pos (by omega)]; rfl
              refine w_iconst d48_48 (by decide) ?_
              refine w_goto d48_49 ?_
              first | rw [hw] | (show Wp G d 48 56 _ [vI (0 : Int), _] _ Q; rw [hw])
              refine w_callv2 d48_56 (by omega) rfl (okg.kd hq) (by simp) (Nat.le_of_ble_eq_true rfl) ?_
              refine k_Rq_keepNumber (v := vVal (l.getD b 0)) okg (by omega) hq R (by have := isV_t.mp hv.2; unfold vVal; split <;> omega) (fun h56 m56 _ K56 A56 _ _ => ?_)
              have ok56 := m56.ok
              have M56 := Mo.tr ok Mg m56 (fun x q => q.elim ((fun x e => (Or.inl e)) x) ((fun x q => q.elim ((fun x e => (Or.inr (Or.inl e))) x) ((fun x q => q.elim ((fun x e => (Or.inr (Or.inr (Or.inl e)))) x) ((fun x e => (Or.inr (Or.inr (Or.inr e)))) x)) x)) x))
              refine w_aload_n d48_59 rfl ?_
              refine w_dupR d48_60 ?_
              refine w_getI (x := ((b : Nat) : Int)) d48_61 (ok56.kd hq) A56 ?_
              refine w_iconst d48_64 (by decide) ?_
              refine w_iadd d48_65 (by constructor <;> omega) ?_
              refine wf516 d48_66 ok56 hq (by omega) (fun h66 e66 m66 => ?_)
              have ok66 := m66.ok
              have M66 := Mo.tr ok M56 m66 (fun x e => (Or.inl e))
              have R := K56 h66 (b + 1) m66 e66 (by omega) (by omega)
              refine w_aload_n d48_69 rfl ?_
              refine w_bipush d48_70 (by decide) ?_
              refine w_callv2 d48_72 (by omega) rfl (ok66.kd hq) (by simp) (Nat.le_of_ble_eq_true rfl) ?_
              refine k_Rq_readSign ok66 (by omega) hq R (fun h72 v72 a72 m72 R e72 => ?_)
              have ok72 := m72.ok
              have M72 := Mo.tr ok M66 m72 (fun x e => (Or.inl e))
              refine w_ifne d48_75 (fun c75 => ?_) (fun c75 => ?_)
              · have p75 : pSign l 32 (b + 1) = true := by rw [← e72.1]; exact b2i_nz c75
                have a72e : a72 = b + 2 := by rw [e72.2, b2i_nz c75]; rfl
                have l72 := pSign_lt p75
                refine w_iinc1 d48_80 rfl (by constructor <;> omega) ?_
                refine w_goto d48_83 ?_
                subst a72e
                refine w_less ?_ (IH2 _ (by omega) h72 (i + 1) (b + 2) (vs ++ [vVal (l.getD b 0)]) rfl M72 (by omega) (by rw [← List.append_assoc]; exact R) (by rw [pVer, if_pos hv, if_pos p75] at i3; rw [i3]; simp) (by omega))
                exact ⟨Or.inr rfl, Or.inr rfl, Or.inl rfl, trivial⟩
              · have p75 : pSign l 32 (b + 1) = false := by rw [← e72.1]; exact b2i_f.mp c75
                have a72e : a72 = b + 1 := by rw [e72.2, b2i_f.mp c75]; rfl
                refine w_iconst d48_78 (by decide) ?_
                refine w_zreturn d48_79 (by decide) ?_
                rw [pVer, if_pos hv, if_neg (by rw [p75]; decide)] at i3
                exact kk h72 true a72 _ M72 R ⟨by rw [i3], by rw [i3]; exact a72e, by rw [i3]; simp⟩
          · refine w_iconst d48_39 (by decide) ?_
            refine w_zreturn d48_40 (by decide) ?_
            have nv : ¬ (b < l.length ∧ isV (l.getD b 0) = true) := fun z => by
              have := isV_t.mp z.2
              omega
            rw [pVer, if_neg nv] at i3
            exact kk g false b (ns ++ vs) Mg R ⟨by rw [i3], by rw [i3], by rw [i3]; simp⟩
  have M0_ := Mo.refl (A := (fun x => x = q ∨ x = (sT S 517 q) ∨ x = (sT S 518 q) ∨ x = (sT S 520 q))) ok
  refine w_less ?_ (L2 _ h 0 a [] rfl M0_ (by omega) (by rw [List.append_nil]; exact R) (by rw [← hP]; simp) (by omega))
  exact ⟨Or.inr rfl, Or.inr rfl, Or.inl rfl, trivial⟩
theorem d49_0 : dc 49 0 = some (.iconst 1, 1) := by decide +kernel
theorem d49_1 : dc 49 1 = some (.istore_n 1, 2) := by decide +kernel
theorem d49_2 : dc 49 2 = some (.iconst 0, 3) := by decide +kernel
theorem d49_3 : dc 49 3 = some (.istore_n 2, 4) := by decide +kernel
theorem d49_4 : dc 49 4 = some (.iload_n 2, 5) := by decide +kernel
theorem d49_5 : dc 49 5 = some (.sipush 4096, 8) := by decide +kernel
theorem d49_8 : dc 49 8 = some (.if_icmp .ge ((70 : Nat) : Int), 11) := by decide +kernel
theorem d49_11 : dc 49 11 = some (.iload_n 1, 12) := by decide +kernel
theorem d49_12 : dc 49 12 = some (.ifCond .le ((70 : Nat) : Int), 15) := by decide +kernel
theorem d49_15 : dc 49 15 = some (.aload_n 0, 16) := by decide +kernel
theorem d49_16 : dc 49 16 = some (.bipush 63, 18) := by decide +kernel
theorem d49_18 : dc 49 18 = some (.invokevirtual 40, 21) := by decide +kernel
theorem d49_21 : dc 49 21 = some (.ifCond .eq ((36 : Nat) : Int), 24) := by decide +kernel
theorem d49_24 : dc 49 24 = some (.iinc 1 3, 27) := by decide +kernel
theorem d49_27 : dc 49 27 = some (.aload_n 0, 28) := by decide +kernel
theorem d49_28 : dc 49 28 = some (.invokevirtual 50, 31) := by decide +kernel
theorem d49_31 : dc 49 31 = some (.ifCond .ne ((64 : Nat) : Int), 34) := by decide +kernel
theorem d49_34 : dc 49 34 = some (.iconst 0, 35) := by decide +kernel
theorem d49_35 : dc 49 35 = some (.freturn, 36) := by decide +kernel
theorem d49_36 : dc 49 36 = some (.iinc 1 (-1), 39) := by decide +kernel
theorem d49_39 : dc 49 39 = some (.aload_n 0, 40) := by decide +kernel
theorem d49_40 : dc 49 40 = some (.bipush 33, 42) := by decide +kernel
theorem d49_42 : dc 49 42 = some (.invokevirtual 40, 45) := by decide +kernel
theorem d49_45 : dc 49 45 = some (.ifCond .eq ((62 : Nat) : Int), 48) := by decide +kernel
theorem d49_48 : dc 49 48 = some (.aload_n 0, 49) := by decide +kernel
theorem d49_49 : dc 49 49 = some (.invokevirtual 50, 52) := by decide +kernel
theorem d49_52 : dc 49 52 = some (.ifCond .eq ((62 : Nat) : Int), 55) := by decide +kernel
theorem d49_55 : dc 49 55 = some (.aload_n 0, 56) := by decide +kernel
theorem d49_56 : dc 49 56 = some (.invokevirtual 50, 59) := by decide +kernel
theorem d49_59 : dc 49 59 = some (.ifCond .ne ((64 : Nat) : Int), 62) := by decide +kernel
theorem d49_62 : dc 49 62 = some (.iconst 0, 63) := by decide +kernel
theorem d49_63 : dc 49 63 = some (.freturn, 64) := by decide +kernel
theorem d49_64 : dc 49 64 = some (.iinc 2 1, 67) := by decide +kernel
theorem d49_67 : dc 49 67 = some (.goto ((4 : Nat) : Int), 70) := by decide +kernel
theorem d49_70 : dc 49 70 = some (.iload_n 1, 71) := by decide +kernel
theorem d49_71 : dc 49 71 = some (.ifCond .ne ((78 : Nat) : Int), 74) := by decide +kernel
theorem d49_74 : dc 49 74 = some (.iconst 1, 75) := by decide +kernel
theorem d49_75 : dc 49 75 = some (.goto ((79 : Nat) : Int), 78) := by decide +kernel
theorem d49_78 : dc 49 78 = some (.iconst 0, 79) := by decide +kernel
theorem d49_79 : dc 49 79 = some (.freturn, 80) := by decide +kernel
theorem k_Rq_readTree {S : Shp} {G : Nat → Option Nat} {d : Nat} {h : Hp} {Q : Option MV → Hp → Prop} {q : Nat}  (ok : Ok S h) (h1 : 2 ≤ d) (hq : sK S q = 5) {vb : Option Nat} {l : List Nat} {a : Nat} {ws : List (List Nat)} {ns : List Nat} (R : RqC S h q l a ws ns vb)
    (kk : ∀ h' v a', Mo S (fun y => y = q) h h' → RqC S h' q l a' ws ns vb → (v = (pTr l 4096 1 a).1 ∧ a' = (pTr l 4096 1 a).2) → Q (some (vI (b2i v))) h') : Cl G d 49 [vR (some q)] h Q := by
  show Wp G d 49 0 [some (vR (some q)), none, none] [] h Q
  have nT : ∀ f, f < 4096 → sT S f q ≠ q := fun f hf => ok.so.pT hf
  generalize hP : pTr l 4096 1 a = P at kk
  refine w_iconst d49_0 (by decide) ?_
  refine w_istore1 d49_1 rfl ?_
  refine w_iconst d49_2 (by decide) ?_
  refine w_istore2 d49_3 rfl ?_
  have L4 : ∀ (m4 : Nat) (g : Hp) (i b o : Nat), 4096 - i = m4 → Mo S (fun x => x = q) h g → (i ≤ 4096) → (RqC S g q l b ws ns vb) → (P = pTr l (4096 - i) o b) → (o ≤ 1 + 3 * i) → Wp G d 49 4 [some (vR (some q)), some (vI (o : Nat)), some (vI (i : Nat))] [] g Q := by
    intro m4
    induction m4 using Nat.strongRecOn with | ind m4 IH4 => ?_
    intro g i b o hm4 Mg i1 R i3 i4
    have okg := Mg.ok
    have r4 := R.2.2.2.1
    have r2 := R.2.1
    refine w_iload_n d49_4 rfl ?_
    refine w_sipush d49_5 (by decide) ?_
    refine w_icmpge d49_8 (fun c8 => ?_) (fun c8 => ?_)
    · have z8 : P = (decide (o = 0), b) := by rw [i3, show 4096 - i = 0 by omega]; rfl
      refine w_iload_n d49_70 rfl ?_
      refine w_ifne d49_71 (fun c71 => ?_) (fun c71 => ?_)
      · refine w_iconst d49_78 (by decide) ?_
        refine w_zreturn d49_79 (by decide) ?_
        exact kk g false b Mg R ⟨by rw [z8]; simp; omega, by rw [z8]⟩
      · refine w_iconst d49_74 (by decide) ?_
        refine w_goto d49_75 ?_
        refine w_zreturn d49_79 (by decide) ?_
        exact kk g true b Mg R ⟨by rw [z8]; simp; omega, by rw [z8]⟩
    · have es : pTr l (4096 - i) o b = pTr l ((4096 - (i + 1)) + 1) o b := by rw [show 4096 - i = (4096 - (i + 1)) + 1 by omega]
      rw [es] at i3
      refine w_iload_n d49_11 rfl ?_
      refine w_ifle d49_12 (fun c12 => ?_) (fun c12 => ?_)
      · have z8 : P = (decide (o = 0), b) := by rw [i3, pTr, if_pos (by omega), decide_eq_true (by omega)]
        refine w_iload_n d49_70 rfl ?_
        refine w_ifne d49_71 (fun c71 => ?_) (fun c71 => ?_)
        · refine w_iconst d49_78 (by decide) ?_
          refine w_zreturn d49_79 (by decide) ?_
          exact kk g false b Mg R ⟨by rw [z8]; simp; omega, by rw [z8]⟩
        · refine w_iconst d49_74 (by decide) ?_
          refine w_goto d49_75 ?_
          refine w_zreturn d49_79 (by decide) ?_
          exact kk g true b Mg R ⟨by rw [z8]; simp; omega, by rw [z8]⟩
      · have ho : o ≠ 0 := by omega
        rw [pTr, if_neg ho] at i3
        refine w_aload_n d49_15 rfl ?_
        refine w_bipush d49_16 (by decide) ?_
        refine w_callv2 d49_18 (by omega) rfl (okg.kd hq) (by simp) (Nat.le_of_ble_eq_true rfl) ?_
        refine k_Rq_readSign (c := 63) okg (by omega) hq R (fun h18 v18 a18 m18 R e18 => ?_)
        have ok18 := m18.ok
        have M18 := Mo.tr ok Mg m18 (fun x e => e)
        refine w_ifeq d49_21 (fun c21 => ?_) (fun c21 => ?_)
        · have p21 : pSign l 63 b = false := by rw [← e18.1]; exact b2i_f.mp c21
          have a18e : a18 = b := by rw [e18.2, b2i_f.mp c21]; rfl
          rw [if_neg (by rw [p21]; decide)] at i3
          refine w_iinc1 d49_36 rfl (by constructor <;> omega) ?_
          refine w_aload_n d49_39 rfl ?_
          refine w_bipush d49_40 (by decide) ?_
          refine w_callv2 d49_42 (by omega) rfl (ok18.kd hq) (by simp) (Nat.le_of_ble_eq_true rfl) ?_
          refine k_Rq_readSign (c := 33) ok18 (by omega) hq R (fun h42 v42 a42 m42 R e42 => ?_)
          have ok42 := m42.ok
          have M42 := Mo.tr ok M18 m42 (fun x e => e)
          refine w_ifeq d49_45 (fun c45 => ?_) (fun c45 => ?_)
          · have p45 : pSign l 33 b = false := by rw [← a18e, ← e42.1]; exact b2i_f.mp c45
            have aze : a42 = b := by rw [e42.2, b2i_f.mp c45, a18e]; rfl
            rw [if_neg (by rw [p45]; decide)] at i3
            refine w_iconst d49_62 (by decide) ?_
            refine w_zreturn d49_63 (by decide) ?_
            exact kk _ false _ (by assumption) R ⟨by rw [i3], by rw [i3]; exact aze⟩
          · have p45 : pSign l 33 b = true := by rw [← a18e, ← e42.1]; exact b2i_nz c45
            have a42e : a42 = b + 1 := by rw [e42.2, b2i_nz c45, a18e]; rfl
            rw [if_pos p45] at i3
            refine w_aload_n d49_48 rfl ?_
            refine w_callv1 d49_49 (by omega) rfl (ok42.kd hq) (by simp) (Nat.le_of_ble_eq_true rfl) ?_
            refine k_Rq_readDigit ok42 (by omega) hq R (fun h49 v49 a49 m49 R e49 => ?_)
            have ok49 := m49.ok
            have M49 := Mo.tr ok M42 m49 (fun x e => e)
            refine w_ifeq d49_52 (fun c52 => ?_) (fun c52 => ?_)
            · have p52 : pDig l (b + 1) = false := by rw [← a42e, ← e49.1]; exact b2i_f.mp c52
              have aze : a49 = b + 1 := by rw [e49.2, b2i_f.mp c52, a42e]; rfl
              rw [if_neg (by rw [p52]; decide)] at i3
              refine w_iconst d49_62 (by decide) ?_
              refine w_zreturn d49_63 (by decide) ?_
              exact kk _ false _ (by assumption) R ⟨by rw [i3], by rw [i3]; exact aze⟩
            · have p52 : pDig l (b + 1) = true := by rw [← a42e, ← e49.1]; exact b2i_nz c52
              have a49e : a49 = b + 2 := by rw [e49.2, b2i_nz c52, a42e]; rfl
              rw [if_pos p52] at i3
              refine w_aload_n d49_55 rfl ?_
              refine w_callv1 d49_56 (by omega) rfl (ok49.kd hq) (by simp) (Nat.le_of_ble_eq_true rfl) ?_
              refine k_Rq_readDigit ok49 (by omega) hq R (fun h56 v56 a56 m56 R e56 => ?_)
              have ok56 := m56.ok
              have M56 := Mo.tr ok M49 m56 (fun x e => e)
              refine w_ifne d49_59 (fun c59 => ?_) (fun c59 => ?_)
              · have p59 : pDig l (b + 2) = true := by rw [← a49e, ← e56.1]; exact b2i_nz c59
                have a56e : a56 = b + 3 := by rw [e56.2, b2i_nz c59, a49e]; rfl
                rw [if_pos p59] at i3
                rw [show ((o : Nat) : Int) + (-1) = ((o - 1 : Nat) : Int) by omega]
                refine w_iinc2 d49_64 rfl (by constructor <;> omega) ?_
                refine w_goto d49_67 ?_
                refine w_less ?_ (IH4 _ (by omega) h56 (i + 1) (b + 3) (o - 1) rfl M56 (by omega) (a56e ▸ R) i3 (by omega))
                exact ⟨Or.inr rfl, Or.inr rfl, Or.inr rfl, trivial⟩
              · have p59 : pDig l (b + 2) = false := by rw [← a49e, ← e56.1]; exact b2i_f.mp c59
                have aze : a56 = b + 2 := by rw [e56.2, b2i_f.mp c59, a49e]; rfl
                rw [if_neg (by rw [p59]; decide)] at i3
                refine w_iconst d49_62 (by decide) ?_
                refine w_zreturn d49_63 (by decide) ?_
                exact kk _ false _ (by assumption) R ⟨by rw [i3], by rw [i3]; exact aze⟩
        · have p21 : pSign l 63 b = true := by rw [← e18.1]; exact b2i_nz c21
          have a18e : a18 = b + 1 := by rw [e18.2, b2i_nz c21]; rfl
          rw [if_pos p21] at i3
          refine w_iinc1 d49_24 rfl (by constructor <;> omega) ?_
          refine w_aload_n d49_27 rfl ?_
          refine w_callv1 d49_28 (by omega) rfl (ok18.kd hq) (by simp) (Nat.le_of_ble_eq_true rfl) ?_
          refine k_Rq_readDigit ok18 (by omega) hq R (fun h28 v28 a28 m28 R e28 => ?_)
          have ok28 := m28.ok
          have M28 := Mo.tr ok M18 m28 (fun x e => e)
          refine w_ifne d49_31 (fun c31 => ?_) (fun c31 => ?_)
          · have p31 : pDig l (b + 1) = true := by rw [← a18e, ← e28.1]; exact b2i_nz c31
            have a28e : a28 = b + 2 := by rw [e28.2, b2i_nz c31, a18e]; rfl
            rw [if_pos p31] at i3
            refine w_iinc2 d49_64 rfl (by constructor <;> omega) ?_
            refine w_goto d49_67 ?_
            refine w_less ?_ (IH4 _ (by omega) h28 (i + 1) (b + 2) (o + 3) rfl M28 (by omega) (a28e ▸ R) i3 (by omega))
            exact ⟨Or.inr rfl, Or.inr rfl, Or.inr rfl, trivial⟩
          · have p31 : pDig l (b + 1) = false := by rw [← a18e, ← e28.1]; exact b2i_f.mp c31
            have a28e : a28 = b + 1 := by rw [e28.2, b2i_f.mp c31, a18e]; rfl
            rw [if_neg (by rw [p31]; decide)] at i3
            refine w_iconst d49_34 (by decide) ?_
            refine w_zreturn d49_35 (by decide) ?_
            exact kk h28 false a28 M28 R ⟨by rw [i3], by rw [i3]; exact a28e⟩
  have M0_ := Mo.refl (A := (fun x => x = q)) ok
  refine w_less ?_ (L4 _ h 0 a 1 rfl M0_ (by omega) R hP.symm (by omega))
  exact ⟨Or.inr rfl, Or.inr rfl, Or.inr rfl, trivial⟩
