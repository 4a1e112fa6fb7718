/-! requests: definitions -/
def pIns (l : List Nat) : Nat → Nat → Bool × Nat × List InV
  | 0, a => (true, a, [])
  | f + 1, a => if (pIn l a).1 = true then (if f ≠ 0 ∧ pSign l 44 (pIn l a).2.1 = true then ((pIns l f ((pIn l a).2.1 + 1)).1, (pIns l f ((pIn l a).2.1 + 1)).2.1, (pIn l a).2.2 :: (pIns l f ((pIn l a).2.1 + 1)).2.2) else (true, (pIn l a).2.1, [(pIn l a).2.2])) else (false, (pIn l a).2.1, [])
/-- behind the name's = : rule, word, inputs, condition -/
def pDef3 (l : List Nat) (n r w : List Nat) (s : Bool × Nat × List InV) : Bool × Nat × TgV :=
  if s.1 = true ∧ pSign l 41 s.2.1 = true then (if pSign l 63 (s.2.1 + 1) = true then ((pCond l (s.2.1 + 2)).1, (pCond l (s.2.1 + 2)).2.1, (n, r, w, s.2.2, (pCond l (s.2.1 + 2)).2.2.1, (pCond l (s.2.1 + 2)).2.2.2)) else (true, s.2.1 + 1, (n, r, w, s.2.2, [], 0))) else (false, s.2.1, (n, r, w, s.2.2, [], 0))
def pDef2 (l : List Nat) (n : List Nat) (r : Bool × Nat × List Nat × List Nat) : Bool × Nat × TgV :=
  if r.1 = true ∧ pSign l 40 r.2.1 = true then pDef3 l n r.2.2.1 r.2.2.2 (pIns l 6 (r.2.1 + 1)) else (false, r.2.1, (n, r.2.2.1, r.2.2.2, [], [], 0))
def pDef (l : List Nat) (a : Nat) : Bool × Nat × TgV :=
  if pWord l 8 48 a = true ∧ pSign l 61 (wordE l a 8 48) = true then pDef2 l (sl l a (wordE l a 8 48)) (pRule l (wordE l a 8 48 + 1)) else (false, wordE l a 8 48, ([], [], [], [], [], 0))
theorem pSign_le {l : List Nat} {c a : Nat} (h : pSign l c a = true) : a + 1 ≤ l.length := pSign_lt h
theorem pRule_rg {l : List Nat} {a : Nat} (ha : a ≤ l.length) : a ≤ (pRule l a).2.1 ∧ (pRule l a).2.1 ≤ l.length ∧ (pRule l a).2.1 ≤ a + 17 := by
  have e1 := wordE_rg (m := 8) (lo := 48) ha
  unfold pRule
  split
  · split
    · rename_i _ h2
      have := pSign_le h2
      have e2 := wordE_rg (l := l) (a := wordE l a 8 48 + 1) (m := 8) (lo := 48) this
      dsimp only
      omega
    · dsimp only; omega
  · dsimp only; omega
theorem pIn_rg {l : List Nat} {a : Nat} (ha : a ≤ l.length) : a ≤ (pIn l a).2.1 ∧ (pIn l a).2.1 ≤ l.length ∧ (pIn l a).2.1 ≤ a + 12 := by
  unfold pIn
  split
  · rename_i h2
    have := pSign_le h2
    have e2 := wordE_rg (l := l) (a := a + 1) (m := 8) (lo := 48) this
    dsimp only
    omega
  · have e2 := wordE_rg (l := l) (a := a) (m := 12) (lo := 46) ha
    dsimp only
    omega
theorem pIns_rg {l : List Nat} : ∀ {f a : Nat}, a ≤ l.length → a ≤ (pIns l f a).2.1 ∧ (pIns l f a).2.1 ≤ l.length ∧ (pIns l f a).2.1 ≤ a + 13 * f
  | 0, a, ha => ⟨Nat.le_refl _, ha, Nat.le_refl _⟩
  | f + 1, a, ha => by
    have e1 := pIn_rg ha
    unfold pIns
    split
    · split
      · rename_i _ h2
        have := pSign_le h2.2
        have := pIns_rg (f := f) this
        dsimp only
        omega
      · dsimp only; omega
    · dsimp only; omega
theorem pCond_rg {l : List Nat} {a : Nat} (ha : a ≤ l.length) : a ≤ (pCond l a).2.1 ∧ (pCond l a).2.1 ≤ l.length ∧ (pCond l a).2.1 ≤ a + 13 := by
  have e1 := wordE_rg (m := 8) (lo := 48) ha
  unfold pCond
  split
  · split
    · rename_i _ h2
      have := pSign_le h2
      have e2 := numE_rg (l := l) (a := wordE l a 8 48 + 1) this
      dsimp only
      omega
    · dsimp only; omega
  · dsimp only; omega
theorem at_c {l : List Nat} {a c : Nat} (hc : 0 < c) : atv l ((a : Nat) : Int) = (c : Nat) ↔ pSign l c a = true := by
  unfold pSign
  rw [decide_eq_true_iff]
  by_cases q : a < l.length
  · rw [atvN q]
    exact ⟨fun z => ⟨q, by omega⟩, fun z => by rw [z.2]⟩
  · unfold atv
    rw [if_neg (by omega)]
    exact ⟨fun z => by omega, fun z => absurd z.1 q⟩
theorem d41_0 : dc 41 0 = some (.aload_n 0, 1) := by decide +kernel
theorem d41_1 : dc 41 1 = some (.getfield 516, 4) := by decide +kernel
theorem d41_4 : dc 41 4 = some (.istore_n 1, 5) := by decide +kernel
theorem d41_5 : dc 41 5 = some (.aload_n 0, 6) := by decide +kernel
theorem d41_6 : dc 41 6 = some (.dload 524, 9) := by decide +kernel
theorem d41_9 : dc 41 9 = some (.invokevirtual 42, 12) := by decide +kernel
theorem d41_12 : dc 41 12 = some (.aload_n 0, 13) := by decide +kernel
theorem d41_13 : dc 41 13 = some (.iconst 0, 14) := by decide +kernel
theorem d41_14 : dc 41 14 = some (.putfield 519, 17) := by decide +kernel
theorem d41_17 : dc 41 17 = some (.aload_n 0, 18) := by decide +kernel
theorem d41_18 : dc 41 18 = some (.invokevirtual 30, 21) := by decide +kernel
theorem d41_21 : dc 41 21 = some (.ifCond .eq ((33 : Nat) : Int), 24) := by decide +kernel
theorem d41_24 : dc 41 24 = some (.aload_n 0, 25) := by decide +kernel
theorem d41_25 : dc 41 25 = some (.bipush 61, 27) := by decide +kernel
theorem d41_27 : dc 41 27 = some (.invokevirtual 40, 30) := by decide +kernel
theorem d41_30 : dc 41 30 = some (.ifCond .ne ((35 : Nat) : Int), 33) := by decide +kernel
theorem d41_33 : dc 41 33 = some (.iconst 0, 34) := by decide +kernel
theorem d41_34 : dc 41 34 = some (.freturn, 35) := by decide +kernel
theorem d41_35 : dc 41 35 = some (.aload_n 0, 36) := by decide +kernel
theorem d41_36 : dc 41 36 = some (.dload 524, 39) := by decide +kernel
theorem d41_39 : dc 41 39 = some (.aload_n 0, 40) := by decide +kernel
theorem d41_40 : dc 41 40 = some (.dload 517, 43) := by decide +kernel
theorem d41_43 : dc 41 43 = some (.iconst 0, 44) := by decide +kernel
theorem d41_44 : dc 41 44 = some (.laload, 45) := by decide +kernel
theorem d41_45 : dc 41 45 = some (.fstore 129, 48) := by decide +kernel
theorem d41_48 : dc 41 48 = some (.aload_n 0, 49) := by decide +kernel
theorem d41_49 : dc 41 49 = some (.invokevirtual 43, 52) := by decide +kernel
theorem d41_52 : dc 41 52 = some (.ifCond .eq ((64 : Nat) : Int), 55) := by decide +kernel
theorem d41_55 : dc 41 55 = some (.aload_n 0, 56) := by decide +kernel
theorem d41_56 : dc 41 56 = some (.bipush 40, 58) := by decide +kernel
theorem d41_58 : dc 41 58 = some (.invokevirtual 40, 61) := by decide +kernel
theorem d41_61 : dc 41 61 = some (.ifCond .ne ((66 : Nat) : Int), 64) := by decide +kernel
theorem d41_64 : dc 41 64 = some (.iconst 0, 65) := by decide +kernel
theorem d41_65 : dc 41 65 = some (.freturn, 66) := by decide +kernel
theorem d41_66 : dc 41 66 = some (.iconst 0, 67) := by decide +kernel
theorem d41_67 : dc 41 67 = some (.istore_n 2, 68) := by decide +kernel
theorem d41_68 : dc 41 68 = some (.iload_n 2, 69) := by decide +kernel
theorem d41_69 : dc 41 69 = some (.bipush 6, 71) := by decide +kernel
theorem d41_71 : dc 41 71 = some (.if_icmp .ge ((109 : Nat) : Int), 74) := by decide +kernel
theorem d41_74 : dc 41 74 = some (.aload_n 0, 75) := by decide +kernel
theorem d41_75 : dc 41 75 = some (.invokevirtual 45, 78) := by decide +kernel
theorem d41_78 : dc 41 78 = some (.ifCond .ne ((83 : Nat) : Int), 81) := by decide +kernel
theorem d41_81 : dc 41 81 = some (.iconst 0, 82) := by decide +kernel
theorem d41_82 : dc 41 82 = some (.freturn, 83) := by decide +kernel
theorem d41_83 : dc 41 83 = some (.iload_n 2, 84) := by decide +kernel
theorem d41_84 : dc 41 84 = some (.iconst 1, 85) := by decide +kernel
theorem d41_85 : dc 41 85 = some (.iadd, 86) := by decide +kernel
theorem d41_86 : dc 41 86 = some (.bipush 6, 88) := by decide +kernel
theorem d41_88 : dc 41 88 = some (.if_icmp .eq ((109 : Nat) : Int), 91) := by decide +kernel
theorem d41_91 : dc 41 91 = some (.aload_n 0, 92) := by decide +kernel
theorem d41_92 : dc 41 92 = some (.bipush 44, 94) := by decide +kernel
theorem d41_94 : dc 41 94 = some (.invokevirtual 40, 97) := by decide +kernel
theorem d41_97 : dc 41 97 = some (.ifCond .ne ((103 : Nat) : Int), 100) := by decide +kernel
theorem d41_100 : dc 41 100 = some (.goto ((109 : Nat) : Int), 103) := by decide +kernel
theorem d41_103 : dc 41 103 = some (.iinc 2 1, 106) := by decide +kernel
theorem d41_106 : dc 41 106 = some (.goto ((68 : Nat) : Int), 109) := by decide +kernel
theorem d41_109 : dc 41 109 = some (.aload_n 0, 110) := by decide +kernel
theorem d41_110 : dc 41 110 = some (.bipush 41, 112) := by decide +kernel
theorem d41_112 : dc 41 112 = some (.invokevirtual 40, 115) := by decide +kernel
theorem d41_115 : dc 41 115 = some (.ifCond .eq ((141 : Nat) : Int), 118) := by decide +kernel
theorem d41_118 : dc 41 118 = some (.aload_n 0, 119) := by decide +kernel
theorem d41_119 : dc 41 119 = some (.dload 512, 122) := by decide +kernel
theorem d41_122 : dc 41 122 = some (.aload_n 0, 123) := by decide +kernel
theorem d41_123 : dc 41 123 = some (.getfield 516, 126) := by decide +kernel
theorem d41_126 : dc 41 126 = some (.invokevirtual 23, 129) := by decide +kernel
theorem d41_129 : dc 41 129 = some (.bipush 63, 131) := by decide +kernel
theorem d41_131 : dc 41 131 = some (.if_icmp .ne ((143 : Nat) : Int), 134) := by decide +kernel
theorem d41_134 : dc 41 134 = some (.aload_n 0, 135) := by decide +kernel
theorem d41_135 : dc 41 135 = some (.invokevirtual 47, 138) := by decide +kernel
theorem d41_138 : dc 41 138 = some (.ifCond .ne ((143 : Nat) : Int), 141) := by decide +kernel
theorem d41_141 : dc 41 141 = some (.iconst 0, 142) := by decide +kernel
theorem d41_142 : dc 41 142 = some (.freturn, 143) := by decide +kernel
theorem d41_143 : dc 41 143 = some (.aload_n 0, 144) := by decide +kernel
theorem d41_144 : dc 41 144 = some (.dload 524, 147) := by decide +kernel
theorem d41_147 : dc 41 147 = some (.dload 139, 150) := by decide +kernel
theorem d41_150 : dc 41 150 = some (.aload_n 0, 151) := by decide +kernel
theorem d41_151 : dc 41 151 = some (.dload 512, 154) := by decide +kernel
theorem d41_154 : dc 41 154 = some (.iload_n 1, 155) := by decide +kernel
theorem d41_155 : dc 41 155 = some (.aload_n 0, 156) := by decide +kernel
theorem d41_156 : dc 41 156 = some (.getfield 516, 159) := by decide +kernel
theorem d41_159 : dc 41 159 = some (.invokevirtual 17, 162) := by decide +kernel
theorem d41_162 : dc 41 162 = some (.iconst 1, 163) := by decide +kernel
theorem d41_163 : dc 41 163 = some (.freturn, 164) := by decide +kernel
theorem k_Rq_readDefinition {S : Shp} {G : Nat → Option Nat} {d : Nat} {h : Hp} {Q : Option MV → Hp → Prop} {q : Nat}  (ok : Ok S h) (h1 : 6 ≤ d) (hq : sK S q = 5) {vb : Option Nat} {l : List Nat} {a : Nat} {ws : List (List Nat)} (tg : Tg S G) (R : RqC S h q l a ws [] vb)
    (kk : ∀ h' v a' ws' ns', Mo S (fun x => U S q x) h h' → RqC S h' q l a' ws' ns' vb → (v = (pDef l a).1 ∧ a' = (pDef l a).2.1) → (v = true → DefC S h' (sT S 524 q) (pDef l a).2.2 (sl l a a')) → Q (some (vI (b2i v))) h') : Cl G d 41 [vR (some q)] h Q := by
  show Wp G d 41 0 [some (vR (some q)), none, none] [] h Q
  have nT : ∀ f, f < 4096 → sT S f q ≠ q := fun f hf => ok.so.pT hf
  have kD := kT524 ok hq
  have nTT : ∀ f, f < 4096 → f ≠ 524 → sT S f q ≠ sT S 524 q := fun f hf hn => ok.so.pTT hf (by decide) hn
  have uD : ∀ y, U S (sT S 524 q) y → ¬ rqA S q y := fun y u => rqA_U ok.so (by decide) (by decide) (by decide) (by decide) u
  have uq : ∀ y, U S (sT S 524 q) y → ¬ y = q := fun y u z => uD y u (Or.inl z)
  have uA : ∀ f, f < 4096 → f ≠ 524 → ¬ U S (sT S 524 q) (sT S f q) := fun f hf hn u => by
    rcases (ok.so.U_T hf).mp u with z | z
    · exact hn ((ok.so.inj (by decide) hf).mp z).1.symm
    · have := ok.so.uLe z; have := ok.so.ltT (f := 524) (a := q) (by decide); omega
  have uAq : ¬ U S (sT S 524 q) q := fun u => by have := ok.so.uLe u; have := ok.so.ltT (f := 524) (a := q) (by decide); omega
  refine w_aload_n d41_0 rfl ?_
  refine w_getI (x := ((a : Nat) : Int)) d41_1 (ok.kd hq) R.2.2.1 ?_
  refine w_istore1 d41_4 rfl ?_
  refine w_aload_n d41_5 rfl ?_
  refine w_dloadS d41_6 (ok.kd hq) (fr524 ok hq) ?_
  refine w_callv1 d41_9 (by omega) rfl (ok.kd (kT524 ok hq)) (by simp) (Nat.le_of_ble_eq_true rfl) ?_
  refine k_Def_clear ok (by omega) (kT524 ok hq) (fun h9 m9 D _ => ?_)
  have ok9 := m9.ok
  have M9 := Mo.tr ok (Mo.refl (A := (fun x => U S q x)) ok) m9 (fun x u => (U_trans (ok.so.uT (by decide) U_refl) u))
  have R := R.fr ok m9 hq uAq (fun f hf => uA f (by omega) (by omega))
  refine w_aload_n d41_12 rfl ?_
  refine w_iconst d41_13 (by decide) ?_
  refine wf519 d41_14 ok9 hq (by omega) (fun h14 e14 m14 => ?_)
  have ok14 := m14.ok
  have M14 := Mo.tr ok M9 m14 (fun x e => (e ▸ U_refl))
  have R := R.w0 ok9 hq e14 m14
  have D := D.mo ok9 m14 kD uq
  have r4 := R.2.2.2.1
  have r2 := R.2.1
  have er := wordE_rg (m := 8) (lo := 48) r4
  have wo := word_ok (m := 8) (lo := 48) r4 (by decide)
  refine w_aload_n d41_17 rfl ?_
  refine w_callv1 d41_18 (by omega) rfl (ok14.kd hq) (by simp) (Nat.le_of_ble_eq_true rfl) ?_
  refine k_Rq_readName ok14 (by omega) hq R (fun h18 v18 a18 m18 e18 R => ?_)
  have ok18 := m18.ok
  have M18 := Mo.tr ok M14 m18 (fun x q => q.elim ((fun x e => (e ▸ U_refl)) x) ((fun x q => q.elim ((fun x e => (e ▸ (ok.so.uT (by decide) U_refl))) x) ((fun x q => q.elim ((fun x e => (e ▸ (ok.so.uT (by decide) U_refl))) x) ((fun x e => (e ▸ (ok.so.uT (by decide) U_refl))) x)) x)) x))
  refine w_ifeq d41_21 (fun c21 => ?_) (fun c21 => ?_)
  · have b21 := b2i_f.mp c21
    have p21 : pWord l 8 48 a = false := by rw [← e18.1]; exact b21
    have ez : pDef l a = (false, wordE l a 8 48, ([], [], [], [], [], 0)) := by unfold pDef; rw [if_neg (fun z => by rw [p21] at z; cases z.1)]
    have av : a18 = (pDef l a).2.1 := by rw [ez]; exact e18.2
    refine w_iconst d41_33 (by decide) ?_
    refine w_zreturn d41_34 (by decide) ?_
    exact kk _ false _ _ _ (by assumption) R ⟨by rw [ez], av⟩ (fun z => by cases z)
  · have b21 := b2i_nz c21
    have p21 : pWord l 8 48 a = true := by rw [← e18.1]; exact b21
    have a18e : a18 = wordE l a 8 48 := e18.2
    have D := D.mo ok14 m18 kD uD
    rw [if_pos b21] at R
    refine w_aload_n d41_24 rfl ?_
    refine w_bipush d41_25 (by decide) ?_
    refine w_callv2 d41_27 (by omega) rfl (ok18.kd hq) (by simp) (Nat.le_of_ble_eq_true rfl) ?_
    refine k_Rq_readSign (c := 61) ok18 (by omega) hq R (fun h27 v27 a27 m27 R e27 => ?_)
    have ok27 := m27.ok
    have M27 := Mo.tr ok M18 m27 (fun x e => (e ▸ U_refl))
    refine w_ifne d41_30 (fun c30 => ?_) (fun c30 => ?_)
    · have b30 := b2i_nz c30
      have p30 : pSign l 61 a18 = true := by rw [← e27.1]; exact b30
      have a27e : a27 = a18 + 1 := by rw [e27.2, b30]; rfl
      have D := D.mo ok18 m27 kD uq
      have g1 := (R.2.2.2.2.2.2.1 0 (by simp [wPush])).1
      have won : okN (sl l a a18) := a18e ▸ wo
      have ez : pDef l a = pDef2 l (sl l a a18) (pRule l a27) := by unfold pDef; rw [if_pos ⟨p21, by rw [← a18e]; exact p30⟩, ← a18e, ← a27e]
      refine w_aload_n d41_35 rfl ?_
      refine w_dloadS d41_36 (ok27.kd hq) (fr524 ok27 hq) ?_
      refine w_aload_n d41_39 rfl ?_
      refine w_dloadS d41_40 (ok27.kd hq) (fr517 ok27 hq) ?_
      refine w_iconst d41_43 (by decide) ?_
      refine w_laloadV (x := (hd (sl l a a18))) d41_44 (gi517 ok27 hq (by omega)) g1 ?_
      refine wf129 d41_45 ok27 (kT524 ok27 hq) (fun h45 e45 m45 => ?_)
      have ok45 := m45.ok
      have M45 := Mo.tr ok M27 m45 (fun x e => (e ▸ (ok.so.uT (by decide) U_refl)))
      have D := D.setN ok27 kD won m45 e45
      have R := R.fr ok27 m45 hq (ok.so.pT (by decide)).symm (fun f hf => nTT f (by omega) (by omega))
      have r45 := R.2.2.2.1
      have rr := pRule_rg r45
      refine w_aload_n d41_48 rfl ?_
      refine w_callv1 d41_49 (by omega) rfl (ok45.kd hq) (by simp) (Nat.le_of_ble_eq_true rfl) ?_
      refine k_Rq_readRule ok45 (by omega) hq R tg D rfl (fun h49 v49 a49 ws49 m49 R e49 D => ?_)
      have ok49 := m49.ok
      have M49 := Mo.tr ok M45 m49 (fun x q => q.elim ((fun x e => (e ▸ U_refl)) x) ((fun x q => q.elim ((fun x e => (e ▸ (ok.so.uT (by decide) U_refl))) x) ((fun x q => q.elim ((fun x e => (e ▸ (ok.so.uT (by decide) U_refl))) x) ((fun x q => q.elim ((fun x e => (e ▸ (ok.so.uT (by decide) U_refl))) x) ((fun x e => (e ▸ (ok.so.uT (by decide) U_refl))) x)) x)) x)) x))
      refine w_ifeq d41_52 (fun c52 => ?_) (fun c52 => ?_)
      · have b52 := b2i_f.mp c52
        have p52 : (pRule l a27).1 = false := by rw [← e49.1]; exact b52
        have ez2 : pDef l a = (false, (pRule l a27).2.1, (sl l a a18, (pRule l a27).2.2.1, (pRule l a27).2.2.2, [], [], 0)) := by rw [ez]; unfold pDef2; rw [if_neg (fun z => by rw [p52] at z; cases z.1)]
        have av : a49 = (pDef l a).2.1 := by rw [ez2]; exact e49.2
        refine w_iconst d41_64 (by decide) ?_
        refine w_zreturn d41_65 (by decide) ?_
        exact kk _ false _ _ _ (by assumption) R ⟨by rw [ez2], av⟩ (fun z => by cases z)
      · have b52 := b2i_nz c52
        have p52 : (pRule l a27).1 = true := by rw [← e49.1]; exact b52
        have a49e : a49 = (pRule l a27).2.1 := e49.2
        have D := D b52
        refine w_aload_n d41_55 rfl ?_
        refine w_bipush d41_56 (by decide) ?_
        refine w_callv2 d41_58 (by omega) rfl (ok49.kd hq) (by simp) (Nat.le_of_ble_eq_true rfl) ?_
        refine k_Rq_readSign (c := 40) ok49 (by omega) hq R (fun h58 v58 a58 m58 R e58 => ?_)
        have ok58 := m58.ok
        have M58 := Mo.tr ok M49 m58 (fun x e => (e ▸ U_refl))
        refine w_ifne d41_61 (fun c61 => ?_) (fun c61 => ?_)
        · have b61 := b2i_nz c61
          have p61 : pSign l 40 a49 = true := by rw [← e58.1]; exact b61
          have a58e : a58 = a49 + 1 := by rw [e58.2, b61]; rfl
          have D := D.mo ok49 m58 kD uq
          have ez2 : pDef l a = pDef3 l (sl l a a18) (pRule l a27).2.2.1 (pRule l a27).2.2.2 (pIns l 6 a58) := by rw [ez]; unfold pDef2; rw [if_pos ⟨p52, by rw [← a49e]; exact p61⟩, ← a49e, ← a58e]
          have r58 := R.2.2.2.1
          have sr := pIns_rg (f := 6) r58
          generalize hs : pIns l 6 a58 = s at ez2 sr
          have L143 : ∀ (m143 : Nat) (g0 : Hp) (b : Nat) (ws2 : List (List Nat)) (ns2 : List Nat), 0 = m143 → Mo S (fun x => U S q x) h g0 → (RqC S g0 q l b ws2 ns2 vb) → (true = (pDef l a).1 ∧ b = (pDef l a).2.1) → (DefC S g0 (sT S 524 q) (pDef l a).2.2 []) → (b - a ≤ 608 ∧ a ≤ b) → Wp G d 41 143 [some (vR (some q)), some (vI (a : Nat)), none] [] g0 Q := by
            intro m143
            induction m143 using Nat.strongRecOn with | ind m143 IH143 => ?_
            intro g0 b ws2 ns2 hm143 Mg0 R av D len
            have okg0 := Mg0.ok
            refine w_aload_n d41_143 rfl ?_
            refine w_dloadS d41_144 (okg0.kd hq) (fr524 okg0 hq) ?_
            refine w_dloadS d41_147 (okg0.kd (kT524 okg0 hq)) (fr139 okg0 (kT524 okg0 hq)) ?_
            refine w_aload_n d41_150 rfl ?_
            refine w_dloadS d41_151 (okg0.kd hq) (fr512 okg0 hq) ?_
            refine w_iload_n d41_154 rfl ?_
            refine w_aload_n d41_155 rfl ?_
            refine w_getI (x := ((b : Nat) : Int)) d41_156 (okg0.kd hq) R.2.2.1 ?_
            refine w_callv4 d41_159 (by omega) rfl (okg0.kd (kT139 okg0 (kT524 okg0 hq))) (by simp) (Nat.le_of_ble_eq_true rfl) ?_
            refine r_Row_set (by omega) okg0 (kT139 okg0 (kT524 okg0 hq)) (kT512 okg0 hq) (fun z => absurd ((ok.so.inj (f := 512) (g := 139) (by decide) (by decide)).mp z).1 (by decide)) ⟨by omega, by rw [R.1]; exact R.2.2.2.1⟩ (Or.inr len.1) (fun h159 m159 e159_1 => ?_)
            have ok159 := m159.ok
            have M159 := Mo.tr ok Mg0 m159 (fun x e => (e ▸ (ok.so.uT (by decide) (ok.so.uT (by decide) U_refl))))
            refine w_iconst d41_162 (by decide) ?_
            refine w_zreturn d41_163 (by decide) ?_
            have nD : ¬ sT S 524 q = sT S 139 (sT S 524 q) := fun z => ok.so.pT (f := 139) (by decide) z.symm
            have R3 := R.fr okg0 m159 hq (fun z => by have := ok.so.ltT (f := 524) (a := q) (by decide); have := ok.so.ltT (f := 139) (a := sT S 524 q) (by decide); omega) (fun f hf z => by have e := (ok.so.inj (f := f) (g := 139) (by omega) (by decide)).mp z; omega)
            have k4 := kT134 ok kD
            have k5 := kT135 ok kD
            have k6 := kT136 ok kD
            have nf : ∀ f, f < 4096 → f ≠ 139 → ¬ sT S f (sT S 524 q) = sT S 139 (sT S 524 q) := fun f hf hn z => hn ((ok.so.inj hf (by decide)).mp z).1
            obtain ⟨d1, d2, d3, d4, d5, d6, d7, d8, d9, o⟩ := D
            refine kk h159 true b ws2 ns2 M159 R3 av (fun _ => ⟨by rw [m159.fl okg0 (by omega) nD]; exact d1, by rw [m159.fl okg0 (by omega) nD]; exact d2, by rw [m159.fi okg0 (by omega) nD 131]; exact d3, by rw [m159.fl okg0 (by omega) nD]; exact d4, by rw [m159.fi okg0 (by omega) nD 133]; exact d5, by rw [m159.ai okg0 (by omega) (nf 134 (by decide) (by decide)), m159.al okg0 (by omega) (nf 135 (by decide) (by decide)), m159.al okg0 (by omega) (nf 136 (by decide) (by decide))]; exact d6, by rw [m159.fl okg0 (by omega) nD]; exact d7, by rw [m159.fi okg0 (by omega) nD 138]; exact d8, by rw [e159_1, R.1], o⟩)
          have L109 : ∀ (m109 : Nat) (g : Hp) (b : Nat) (ws2 : List (List Nat)), 0 = m109 → Mo S (fun x => U S q x) h g → (RqC S g q l b ws2 [] vb) → (s.1 = true ∧ b = s.2.1) → (DefC S g (sT S 524 q) (sl l a a18, (pRule l a27).2.2.1, (pRule l a27).2.2.2, s.2.2, [], 0) []) → Wp G d 41 109 [some (vR (some q)), some (vI (a : Nat)), none] [] g Q := by
            intro m109
            induction m109 using Nat.strongRecOn with | ind m109 IH109 => ?_
            intro g b ws2 hm109 Mg R hsb D
            have okg := Mg.ok
            refine w_aload_n d41_109 rfl ?_
            refine w_bipush d41_110 (by decide) ?_
            refine w_callv2 d41_112 (by omega) rfl (okg.kd hq) (by simp) (Nat.le_of_ble_eq_true rfl) ?_
            refine k_Rq_readSign (c := 41) okg (by omega) hq R (fun h112 v112 a112 m112 R e112 => ?_)
            have ok112 := m112.ok
            have M112 := Mo.tr ok Mg m112 (fun x e => (e ▸ U_refl))
            refine w_ifeq d41_115 (fun c115 => ?_) (fun c115 => ?_)
            · have b115 := b2i_f.mp c115
              have p115 : pSign l 41 b = false := by rw [← e112.1]; exact b115
              have ez3 : pDef l a = (false, s.2.1, (sl l a a18, (pRule l a27).2.2.1, (pRule l a27).2.2.2, s.2.2, [], 0)) := by rw [ez2]; unfold pDef3; rw [if_neg (fun z => by rw [← hsb.2, p115] at z; cases z.2)]
              have av : false = (pDef l a).1 ∧ a112 = (pDef l a).2.1 := ⟨by rw [ez3], by rw [ez3, e112.2, b115]; exact hsb.2⟩
              refine w_iconst d41_141 (by decide) ?_
              refine w_zreturn d41_142 (by decide) ?_
              exact kk _ false _ _ _ (by assumption) R av (fun z => by cases z)
            · have b115 := b2i_nz c115
              have p115 : pSign l 41 b = true := by rw [← e112.1]; exact b115
              have a112e : a112 = b + 1 := by rw [e112.2, b115]; rfl
              have D := D.mo okg m112 kD uq
              have rb := R.2.2.2.1
              have rw49 := rr.2.2
              refine w_aload_n d41_118 rfl ?_
              refine w_dloadS d41_119 (ok112.kd hq) (fr512 ok112 hq) ?_
              refine w_aload_n d41_122 rfl ?_
              refine w_getI (x := ((a112 : Nat) : Int)) d41_123 (ok112.kd hq) R.2.2.1 ?_
              refine w_callv2 d41_126 (by omega) rfl (ok112.kd (kT512 ok112 hq)) (by simp) (Nat.le_of_ble_eq_true rfl) ?_
              refine r_Row_at ok112 (kT512 ok112 hq) ?_
              rw [R.1]
              refine w_bipush d41_129 (by decide) ?_
              refine w_icmpne d41_131 (fun c131 => ?_) (fun c131 => ?_)
              · have p131 : pSign l 63 (b + 1) = false := by
                  rw [← a112e]
                  cases q9 : pSign l 63 a112 with
                  | true => exact absurd ((at_c (by decide)).mpr q9) (by omega)
                  | false => rfl
                have ez3 : pDef l a = (true, s.2.1 + 1, (sl l a a18, (pRule l a27).2.2.1, (pRule l a27).2.2.2, s.2.2, [], 0)) := by rw [ez2]; unfold pDef3; rw [if_pos ⟨hsb.1, by rw [← hsb.2]; exact p115⟩, if_neg (by rw [← hsb.2, p131]; decide)]
                have av : true = (pDef l a).1 ∧ a112 = (pDef l a).2.1 := ⟨by rw [ez3], by rw [ez3, a112e, hsb.2]⟩
                have tz : (pDef l a).2.2 = (sl l a a18, (pRule l a27).2.2.1, (pRule l a27).2.2.2, s.2.2, [], 0) := by rw [ez3]
                have len : a112 - a ≤ 608 ∧ a ≤ a112 := by omega
                refine w_less ?_ (L143 _ h112 a112 ws2 [] rfl M112 R av (by rw [tz]; exact D) len)
                exact ⟨Or.inr rfl, Or.inr rfl, Or.inl rfl, trivial⟩
              · have p131 : pSign l 63 a112 = true := (at_c (by decide)).mp (by omega)
                have l131 := pSign_lt p131
                refine w_aload_n d41_134 rfl ?_
                refine w_callv1 d41_135 (by omega) rfl (ok112.kd hq) (by simp) (Nat.le_of_ble_eq_true rfl) ?_
                refine k_Rq_readCondition ok112 (by omega) hq R D l131 (fun h135 v135 a135 ws135 ns135 m135 R e135 D => ?_)
                have ok135 := m135.ok
                have M135 := Mo.tr ok M112 m135 (fun x q => q.elim ((fun x e => (e ▸ U_refl)) x) ((fun x q => q.elim ((fun x e => (e ▸ (ok.so.uT (by decide) U_refl))) x) ((fun x q => q.elim ((fun x e => (e ▸ (ok.so.uT (by decide) U_refl))) x) ((fun x q => q.elim ((fun x e => (e ▸ (ok.so.uT (by decide) U_refl))) x) ((fun x e => (e ▸ (ok.so.uT (by decide) U_refl))) x)) x)) x)) x))
                have ez3 : pDef l a = ((pCond l (b + 2)).1, (pCond l (b + 2)).2.1, (sl l a a18, (pRule l a27).2.2.1, (pRule l a27).2.2.2, s.2.2, (pCond l (b + 2)).2.2.1, (pCond l (b + 2)).2.2.2)) := by rw [ez2]; unfold pDef3; rw [if_pos ⟨hsb.1, by rw [← hsb.2]; exact p115⟩, ← hsb.2, if_pos (by rw [← a112e]; exact p131)]
                rw [show a112 + 1 = b + 2 by omega] at e135 D
                have cr := pCond_rg (l := l) (a := b + 2) (by omega)
                refine w_ifne d41_138 (fun c138 => ?_) (fun c138 => ?_)
                · have b138 := b2i_nz c138
                  have av : true = (pDef l a).1 ∧ a135 = (pDef l a).2.1 := ⟨by rw [ez3, ← e135.1, b138], by rw [ez3]; exact e135.2⟩
                  have D := D b138
                  have tz : (pDef l a).2.2 = (sl l a a18, (pRule l a27).2.2.1, (pRule l a27).2.2.2, s.2.2, (pCond l (b + 2)).2.2.1, (pCond l (b + 2)).2.2.2) := by rw [ez3]
                  have len : a135 - a ≤ 608 ∧ a ≤ a135 := by omega
                  refine w_less ?_ (L143 _ h135 a135 ws135 ns135 rfl M135 R av (by rw [tz]; exact D) len)
                  exact ⟨Or.inr rfl, Or.inr rfl, Or.inl rfl, trivial⟩
                · have b138 := b2i_f.mp c138
                  have av : false = (pDef l a).1 ∧ a135 = (pDef l a).2.1 := ⟨by rw [ez3, ← e135.1, b138], by rw [ez3]; exact e135.2⟩
                  refine w_iconst d41_141 (by decide) ?_
                  refine w_zreturn d41_142 (by decide) ?_
                  exact kk _ false _ _ _ (by assumption) R av (fun z => by cases z)
          refine w_iconst d41_66 (by decide) ?_
          refine w_istore2 d41_67 rfl ?_
          have L68 : ∀ (m68 : Nat) (g2 : Hp) (i b : Nat) (ws2 : List (List Nat)) (L : List InV), 6 - i = m68 → Mo S (fun x => U S q x) h g2 → (i < 6) → (L.length = i) → (RqC S g2 q l b ws2 [] vb) → (s = ((pIns l (6 - i) b).1, (pIns l (6 - i) b).2.1, L ++ (pIns l (6 - i) b).2.2)) → (DefC S g2 (sT S 524 q) (sl l a a18, (pRule l a27).2.2.1, (pRule l a27).2.2.2, L, [], 0) []) → Wp G d 41 68 [some (vR (some q)), some (vI (a : Nat)), some (vI (i : Nat))] [] g2 Q := by
            intro m68
            induction m68 using Nat.strongRecOn with | ind m68 IH68 => ?_
            intro g2 i b ws2 L hm68 Mg2 i1 i2 R i4 D
            have okg2 := Mg2.ok
            rw [show 6 - i = (6 - (i + 1)) + 1 by omega, pIns] at i4
            refine w_iload_n d41_68 rfl ?_
            refine w_bipush d41_69 (by decide) ?_
            refine w_icmpge d41_71 (fun c71 => ?_) (fun c71 => ?_)
            · omega
            · refine w_aload_n d41_74 rfl ?_
              refine w_callv1 d41_75 (by omega) rfl (okg2.kd hq) (by simp) (Nat.le_of_ble_eq_true rfl) ?_
              refine k_Rq_readInput okg2 (by omega) hq R D (by show L.length < 6; omega) (fun h75 v75 a75 ws75 m75 R e75 D => ?_)
              have ok75 := m75.ok
              have M75 := Mo.tr ok Mg2 m75 (fun x u => (U_trans U_refl u))
              refine w_ifne d41_78 (fun c78 => ?_) (fun c78 => ?_)
              · have b78 := b2i_nz c78
                have p78 : (pIn l b).1 = true := by rw [← e75.1]; exact b78
                rw [if_pos p78] at i4
                have D := D b78
                refine w_iload_n d41_83 rfl ?_
                refine w_iconst d41_84 (by decide) ?_
                refine w_iadd d41_85 (by constructor <;> omega) ?_
                refine w_bipush d41_86 (by decide) ?_
                refine w_icmpeq d41_88 (fun c88 => ?_) (fun c88 => ?_)
                · have i6 : 6 - (i + 1) = 0 := by omega
                  rw [i6, if_neg (fun z => z.1 rfl)] at i4
                  have sT1 : s.1 = true := by rw [i4]
                  have sT2 : a75 = s.2.1 := by rw [i4]; exact e75.2
                  have sT3 : s.2.2 = L ++ [(pIn l b).2.2] := by rw [i4]
                  refine w_less ?_ (L109 _ h75 a75 ws75 rfl M75 R ⟨sT1, sT2⟩ (by rw [sT3]; exact D))
                  exact ⟨Or.inr rfl, Or.inr rfl, Or.inl rfl, trivial⟩
                · refine w_aload_n d41_91 rfl ?_
                  refine w_bipush d41_92 (by decide) ?_
                  refine w_callv2 d41_94 (by omega) rfl (ok75.kd hq) (by simp) (Nat.le_of_ble_eq_true rfl) ?_
                  refine k_Rq_readSign (c := 44) ok75 (by omega) hq R (fun h94 v94 a94 m94 R e94 => ?_)
                  have ok94 := m94.ok
                  have M94 := Mo.tr ok M75 m94 (fun x e => (e ▸ U_refl))
                  refine w_ifne d41_97 (fun c97 => ?_) (fun c97 => ?_)
                  · have b97 := b2i_nz c97
                    have p97 : pSign l 44 a75 = true := by rw [← e94.1]; exact b97
                    have a94e : a94 = a75 + 1 := by rw [e94.2, b97]; rfl
                    have D := D.mo ok75 m94 kD uq
                    rw [if_pos ⟨by omega, by rw [← e75.2]; exact p97⟩] at i4
                    refine w_iinc2 d41_103 rfl (by constructor <;> omega) ?_
                    refine w_goto d41_106 ?_
                    refine w_less ?_ (IH68 _ (by omega) h94 (i + 1) (a75 + 1) ws75 (L ++ [(pIn l b).2.2]) rfl M94 (by omega) (by simp; omega) (a94e ▸ R) (by rw [i4, ← e75.2]; simp) D)
                    exact ⟨Or.inr rfl, Or.inr rfl, Or.inr rfl, trivial⟩
                  · have b97 := b2i_f.mp c97
                    have p97 : pSign l 44 a75 = false := by rw [← e94.1]; exact b97
                    have a94e : a94 = a75 := by rw [e94.2, b97]; rfl
                    have D := D.mo ok75 m94 kD uq
                    rw [if_neg (fun z => by rw [← e75.2, p97] at z; cases z.2)] at i4
                    have sT1 : s.1 = true := by rw [i4]
                    have sT2 : a94 = s.2.1 := by rw [i4, a94e]; exact e75.2
                    have sT3 : s.2.2 = L ++ [(pIn l b).2.2] := by rw [i4]
                    refine w_goto d41_100 ?_
                    refine w_less ?_ (L109 _ h94 a94 ws75 rfl M94 R ⟨sT1, sT2⟩ (by rw [sT3]; exact D))
                    exact ⟨Or.inr rfl, Or.inr rfl, Or.inl rfl, trivial⟩
              · have b78 := b2i_f.mp c78
                have p78 : (pIn l b).1 = false := by rw [← e75.1]; exact b78
                rw [if_neg (by rw [p78]; decide)] at i4
                have ez3 : pDef l a = (false, s.2.1, (sl l a a18, (pRule l a27).2.2.1, (pRule l a27).2.2.2, s.2.2, [], 0)) := by rw [ez2]; unfold pDef3; rw [if_neg (fun z => by rw [i4] at z; cases z.1)]
                refine w_iconst d41_81 (by decide) ?_
                refine w_zreturn d41_82 (by decide) ?_
                exact kk h75 false a75 _ _ M75 R ⟨by rw [ez3], by rw [ez3, i4]; exact e75.2⟩ (fun z => by cases z)
          refine w_less ?_ (L68 _ h58 0 a58 ws49 [] rfl M58 (by omega) rfl R (by rw [← hs]; simp) D)
          exact ⟨Or.inr rfl, Or.inr rfl, Or.inr rfl, trivial⟩
        · have b61 := b2i_f.mp c61
          have p61 : pSign l 40 a49 = false := by rw [← e58.1]; exact b61
          have ez2 : pDef l a = (false, (pRule l a27).2.1, (sl l a a18, (pRule l a27).2.2.1, (pRule l a27).2.2.2, [], [], 0)) := by rw [ez]; unfold pDef2; rw [if_neg (fun z => by rw [← a49e, p61] at z; cases z.2)]
          have av : a58 = (pDef l a).2.1 := by rw [ez2, e58.2, b61]; exact a49e
          refine w_iconst d41_64 (by decide) ?_
          refine w_zreturn d41_65 (by decide) ?_
          exact kk _ false _ _ _ (by assumption) R ⟨by rw [ez2], av⟩ (fun z => by cases z)
    · have b30 := b2i_f.mp c30
      have p30 : pSign l 61 a18 = false := by rw [← e27.1]; exact b30
      have ez : pDef l a = (false, wordE l a 8 48, ([], [], [], [], [], 0)) := by unfold pDef; rw [if_neg (fun z => by rw [← a18e, p30] at z; cases z.2)]
      have av : a27 = (pDef l a).2.1 := by rw [ez, e27.2, b30]; exact a18e
      refine w_iconst d41_33 (by decide) ?_
      refine w_zreturn d41_34 (by decide) ?_
      exact kk _ false _ _ _ (by assumption) R ⟨by rw [ez], av⟩ (fun z => by cases z)
