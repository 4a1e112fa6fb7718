/-! requests: words, numbers, texts, versions, trees -/
def wPush (ws : List (List Nat)) (w : List Nat) : List (List Nat) := if ws.length < 2 then ws ++ [w] else ws
def pWord (l : List Nat) (m lo a : Nat) : Bool := decide (wordE l a m lo ≠ a)
def pNum (l : List Nat) (a : Nat) : Bool := decide (numE l a ≠ a)
theorem rqA_U {S : Shp} (so : SOk S) {q y f : Nat} (hf : f < 4096) (h7 : f ≠ 517) (h8 : f ≠ 518) (h0 : f ≠ 520) (u : U S (sT S f q) y) : ¬ rqA S q y := fun z => by
  have l1 := so.ltT (f := f) (a := q) hf
  have key : ∀ g, g < 4096 → g ≠ f → ¬ U S (sT S f q) (sT S g q) := fun g hg hgf w => by
    rcases (so.U_T hg).mp w with e | e
    · exact hgf ((so.inj hf hg).mp e).1.symm
    · have := so.uLe e; omega
  rcases z with z | z | z | z
  · subst z; have := so.uLe u; omega
  · subst z; exact key 517 (by decide) (Ne.symm h7) u
  · subst z; exact key 518 (by decide) (Ne.symm h8) u
  · subst z; exact key 520 (by decide) (Ne.symm h0) u
theorem d33_0 : dc 33 0 = some (.iload_n 1, 1) := by decide +kernel
theorem d33_1 : dc 33 1 = some (.aload_n 0, 2) := by decide +kernel
theorem d33_2 : dc 33 2 = some (.getfield 516, 5) := by decide +kernel
theorem d33_5 : dc 33 5 = some (.if_icmp .ne ((10 : Nat) : Int), 8) := by decide +kernel
theorem d33_8 : dc 33 8 = some (.iconst 0, 9) := by decide +kernel
theorem d33_9 : dc 33 9 = some (.freturn, 10) := by decide +kernel
theorem d33_10 : dc 33 10 = some (.aload_n 0, 11) := by decide +kernel
theorem d33_11 : dc 33 11 = some (.iload_n 1, 12) := by decide +kernel
theorem d33_12 : dc 33 12 = some (.putfield 516, 15) := by decide +kernel
theorem d33_15 : dc 33 15 = some (.aload_n 0, 16) := by decide +kernel
theorem d33_16 : dc 33 16 = some (.getfield 519, 19) := by decide +kernel
theorem d33_19 : dc 33 19 = some (.aload_n 0, 20) := by decide +kernel
theorem d33_20 : dc 33 20 = some (.dload 517, 23) := by decide +kernel
theorem d33_23 : dc 33 23 = some (.arraylength, 24) := by decide +kernel
theorem d33_24 : dc 33 24 = some (.if_icmp .ge ((58 : Nat) : Int), 27) := by decide +kernel
theorem d33_27 : dc 33 27 = some (.aload_n 0, 28) := by decide +kernel
theorem d33_28 : dc 33 28 = some (.dload 517, 31) := by decide +kernel
theorem d33_31 : dc 33 31 = some (.aload_n 0, 32) := by decide +kernel
theorem d33_32 : dc 33 32 = some (.getfield 519, 35) := by decide +kernel
theorem d33_35 : dc 33 35 = some (.lload_n 2, 36) := by decide +kernel
theorem d33_36 : dc 33 36 = some (.lastore, 37) := by decide +kernel
theorem d33_37 : dc 33 37 = some (.aload_n 0, 38) := by decide +kernel
theorem d33_38 : dc 33 38 = some (.dload 518, 41) := by decide +kernel
theorem d33_41 : dc 33 41 = some (.aload_n 0, 42) := by decide +kernel
theorem d33_42 : dc 33 42 = some (.getfield 519, 45) := by decide +kernel
theorem d33_45 : dc 33 45 = some (.lload 4, 47) := by decide +kernel
theorem d33_47 : dc 33 47 = some (.lastore, 48) := by decide +kernel
theorem d33_48 : dc 33 48 = some (.aload_n 0, 49) := by decide +kernel
theorem d33_49 : dc 33 49 = some (.dup, 50) := by decide +kernel
theorem d33_50 : dc 33 50 = some (.getfield 519, 53) := by decide +kernel
theorem d33_53 : dc 33 53 = some (.iconst 1, 54) := by decide +kernel
theorem d33_54 : dc 33 54 = some (.iadd, 55) := by decide +kernel
theorem d33_55 : dc 33 55 = some (.putfield 519, 58) := by decide +kernel
theorem d33_58 : dc 33 58 = some (.iconst 1, 59) := by decide +kernel
theorem d33_59 : dc 33 59 = some (.freturn, 60) := by decide +kernel
theorem k_Rq_readWord {S : Shp} {G : Nat → Option Nat} {d : Nat} {h : Hp} {Q : Option MV → Hp → Prop} {q : Nat} {e : Nat} {x : Int64} {y : Int64}  (ok : Ok S h) (h1 : 0 ≤ d) (hq : sK S q = 5) {vb : Option Nat} {l : List Nat} {a : Nat} {ws : List (List Nat)} {ns : List Nat} (R : RqC S h q l a ws ns vb) {w : List Nat} (he : a ≤ e ∧ e ≤ l.length) (hw : okP w) (hx : x = hd w) (hy : y = tl w)
    (kk : ∀ h' v, Mo S (rqA S q) h h' → v = decide (e ≠ a) → RqC S h' q l e (if v = true then wPush ws w else ws) ns vb → Q (some (vI (b2i v))) h') : Cl G d 33 [vR (some q), vI (e : Nat), vJ x, vJ y] h Q := by
  show Wp G d 33 0 [some (vR (some q)), some (vI (e : Nat)), some (vJ x), none, some (vJ y), none] [] h Q
  have R0 := R
  obtain ⟨r1, r2, r3, r4, r5, r6, r7, r8, r9, r10, r11⟩ := R
  have kR := kT512 ok hq
  have nT : ∀ f, f < 4096 → sT S f q ≠ q := fun f hf => ok.so.pT hf
  have n78 : sT S 517 q ≠ sT S 518 q := fun z => absurd ((ok.so.inj (by decide) (by decide)).mp z).1 (by decide)
  have ne7 : sT S 512 q ≠ sT S 517 q := fun z => absurd ((ok.so.inj (by decide) (by decide)).mp z).1 (by decide)
  have ne8 : sT S 512 q ≠ sT S 518 q := fun z => absurd ((ok.so.inj (by decide) (by decide)).mp z).1 (by decide)
  refine w_iload_n d33_0 rfl ?_
  refine w_aload_n d33_1 rfl ?_
  refine w_getI (x := ((a : Nat) : Int)) d33_2 (ok.kd hq) r3 ?_
  refine w_icmpne d33_5 (fun c5 => ?_) (fun c5 => ?_)
  · have hea : e ≠ a := by omega
    refine w_aload_n d33_10 rfl ?_
    refine w_iload_n d33_11 rfl ?_
    refine wf516 d33_12 ok hq (by omega) (fun h12 e12 m12 => ?_)
    have ok12 := m12.ok
    have M12 := Mo.tr ok (Mo.refl (A := (fun x => x = q ∨ x = (sT S 517 q) ∨ x = (sT S 518 q) ∨ x = (sT S 520 q))) ok) m12 (fun x e => (Or.inl e))
    have R1 := R0.at ok hq e12 m12 ⟨he.1, he.2⟩
    obtain ⟨s1, s2, s3, s4, s5, s6, s7, s8, s9, s10⟩ := R1
    refine w_aload_n d33_15 rfl ?_
    refine w_getI (x := ((ws.length : Nat) : Int)) d33_16 (ok12.kd hq) s5 ?_
    refine w_aload_n d33_19 rfl ?_
    refine w_dloadS d33_20 (ok12.kd hq) (fr517 ok12 hq) ?_
    refine wl517 d33_23 ok12 hq ?_
    refine w_icmpge d33_24 (fun c24 => ?_) (fun c24 => ?_)
    · refine w_iconst d33_58 (by decide) ?_
      refine w_zreturn d33_59 (by decide) ?_
      refine kk h12 true M12 (by simp [hea]) ?_
      rw [if_pos rfl]
      unfold wPush
      rw [if_neg (by omega)]
      exact R0.at ok hq e12 m12 he
    · have w2 : ws.length < 2 := by omega
      refine w_aload_n d33_27 rfl ?_
      refine w_dloadS d33_28 (ok12.kd hq) (fr517 ok12 hq) ?_
      refine w_aload_n d33_31 rfl ?_
      refine w_getI (x := ((ws.length : Nat) : Int)) d33_32 (ok12.kd hq) s5 ?_
      refine w_lload_n d33_35 rfl ?_
      refine wa517 d33_36 ok12 hq (by omega) (fun h36 e36 m36 => ?_)
      have e36 : h36 = sAL h12 (sT S 517 q) ws.length x := e36
      have ok36 := m36.ok
      have M36 := Mo.tr ok M12 m36 (fun x e => (Or.inr (Or.inl e)))
      refine w_aload_n d33_37 rfl ?_
      refine w_dloadS d33_38 (ok36.kd hq) (fr518 ok36 hq) ?_
      refine w_aload_n d33_41 rfl ?_
      refine w_getI (x := ((ws.length : Nat) : Int)) d33_42 (ok36.kd hq) (by rw [e36]; exact s5) ?_
      refine w_lload d33_45 rfl ?_
      refine wa518 d33_47 ok36 hq (by omega) (fun h47 e47 m47 => ?_)
      have e47 : h47 = sAL h36 (sT S 518 q) ws.length y := e47
      have ok47 := m47.ok
      have M47 := Mo.tr ok M36 m47 (fun x e => (Or.inr (Or.inr (Or.inl e))))
      refine w_aload_n d33_48 rfl ?_
      refine w_dupR d33_49 ?_
      refine w_getI (x := ((ws.length : Nat) : Int)) d33_50 (ok47.kd hq) (by rw [e47, e36]; exact s5) ?_
      refine w_iconst d33_53 (by decide) ?_
      refine w_iadd d33_54 (by constructor <;> omega) ?_
      refine wf519 d33_55 ok47 hq (by omega) (fun h55 e55 m55 => ?_)
      have ok55 := m55.ok
      have M55 := Mo.tr ok M47 m55 (fun x e => (Or.inl e))
      refine w_iconst d33_58 (by decide) ?_
      refine w_zreturn d33_59 (by decide) ?_
      refine kk h55 true M55 (by simp [hea]) ?_
      rw [if_pos rfl]
      unfold wPush
      rw [if_pos w2]
      have lw : (ws ++ [w]).length = ws.length + 1 := by simp
      refine ⟨by rw [m55.rb ok47 kR (nT 512 (by decide)), m47.rb ok36 kR ne8, m36.rb ok12 kR ne7]; exact s1, s2, by rw [e55, FI_sFI, if_neg (by simp), e47, e36]; exact s3, s4, by rw [e55, FI_sFI, if_pos ⟨rfl, rfl⟩, lw]; rfl, by omega, fun i hi => ?_, by rw [e55, FI_sFI, if_neg (by simp), e47, e36]; exact s8, s9, by rw [e55, e47, e36]; exact s10⟩
      rw [lw] at hi
      rw [getD_snoc]
      simp only [e55, e47, e36, FI_sFI, FL_sFI, FR_sFI, AI_sFI, AL_sFI, AR_sFI, FI_sFL, FL_sFL, FR_sFL, AI_sFL, AL_sFL, AR_sFL, FI_sFR, FL_sFR, FR_sFR, AI_sFR, AL_sFR, AR_sFR, FI_sAI, FL_sAI, FR_sAI, AI_sAI, AL_sAI, AR_sAI, FI_sAL, FL_sAL, FR_sAL, AI_sAL, AL_sAL, AR_sAL, FI_sAR, FL_sAR, FR_sAR, AI_sAR, AL_sAR, AR_sAR, FI_cpI, FL_cpI, FR_cpI, AI_cpI, AL_cpI, AR_cpI, FI_cpL, FL_cpL, FR_cpL, AI_cpL, AL_cpL, AR_cpL]
      by_cases z : i = ws.length
      · subst z
        simp [n78, n78.symm, hx, hy, hw]
      · have := s7 i (by omega)
        simp [n78, n78.symm, z]
        exact this
  · refine w_iconst d33_8 (by decide) ?_
    refine w_zreturn d33_9 (by decide) ?_
    have ea : e = a := by omega
    subst ea
    exact kk h false (Mo.refl ok) (by simp) (by simpa using R0)
theorem d30_0 : dc 30 0 = some (.aload_n 0, 1) := by decide +kernel
theorem d30_1 : dc 30 1 = some (.dload 512, 4) := by decide +kernel
theorem d30_4 : dc 30 4 = some (.aload_n 0, 5) := by decide +kernel
theorem d30_5 : dc 30 5 = some (.getfield 516, 8) := by decide +kernel
theorem d30_8 : dc 30 8 = some (.bipush 8, 10) := by decide +kernel
theorem d30_10 : dc 30 10 = some (.bipush 48, 12) := by decide +kernel
theorem d30_12 : dc 30 12 = some (.invokevirtual 31, 15) := by decide +kernel
theorem d30_15 : dc 30 15 = some (.istore_n 1, 16) := by decide +kernel
theorem d30_16 : dc 30 16 = some (.aload_n 0, 17) := by decide +kernel
theorem d30_17 : dc 30 17 = some (.dload 512, 20) := by decide +kernel
theorem d30_20 : dc 30 20 = some (.aload_n 0, 21) := by decide +kernel
theorem d30_21 : dc 30 21 = some (.getfield 516, 24) := by decide +kernel
theorem d30_24 : dc 30 24 = some (.iload_n 1, 25) := by decide +kernel
theorem d30_25 : dc 30 25 = some (.invokevirtual 32, 28) := by decide +kernel
theorem d30_28 : dc 30 28 = some (.lstore_n 2, 29) := by decide +kernel
theorem d30_29 : dc 30 29 = some (.aload_n 0, 30) := by decide +kernel
theorem d30_30 : dc 30 30 = some (.iload_n 1, 31) := by decide +kernel
theorem d30_31 : dc 30 31 = some (.lload_n 2, 32) := by decide +kernel
theorem d30_32 : dc 30 32 = some (.lconst 0, 33) := by decide +kernel
theorem d30_33 : dc 30 33 = some (.invokevirtual 33, 36) := by decide +kernel
theorem d30_36 : dc 30 36 = some (.freturn, 37) := by decide +kernel
theorem k_Rq_readName {S : Shp} {G : Nat → Option Nat} {d : Nat} {h : Hp} {Q : Option MV → Hp → Prop} {q : Nat}  (ok : Ok S h) (h1 : 2 ≤ d) (hq : sK S q = 5) {vb : Option Nat} {l : List Nat} {a : Nat} {ws : List (List Nat)} {ns : List Nat} (R : RqC S h q l a ws ns vb)
    (kk : ∀ h' v a', Mo S (rqA S q) h h' → (v = pWord l 8 48 a ∧ a' = wordE l a 8 48) → RqC S h' q l a' (if v = true then wPush ws (sl l a a') else ws) ns vb → Q (some (vI (b2i v))) h') : Cl G d 30 [vR (some q)] h Q := by
  show Wp G d 30 0 [some (vR (some q)), none, none, none] [] h Q
  have R0 := R
  obtain ⟨r1, r2, r3, r4, r5, r6, r7, r8, r9, r10, r11⟩ := R
  have kR := kT512 ok hq
  have nT : ∀ f, f < 4096 → sT S f q ≠ q := fun f hf => ok.so.pT hf
  have er := wordE_rg (m := 8) (lo := 48) r4
  have wo := word_ok (m := 8) (lo := 48) r4 (by decide)
  refine w_aload_n d30_0 rfl ?_
  refine w_dloadS d30_1 (ok.kd hq) (fr512 ok hq) ?_
  refine w_aload_n d30_4 rfl ?_
  refine w_getI (x := ((a : Nat) : Int)) d30_5 (ok.kd hq) r3 ?_
  refine w_bipush d30_8 (by decide) ?_
  refine w_bipush d30_10 (by decide) ?_
  refine w_callv4 d30_12 (by omega) rfl (ok.kd (kT512 ok hq)) (by simp) (Nat.le_of_ble_eq_true rfl) ?_
  refine r_Row_wordEnd (most := 8) (lo := 48) (by omega) ok (kT512 ok hq) (by omega) ?_
  rw [r1]
  refine w_istore1 d30_15 rfl ?_
  refine w_aload_n d30_16 rfl ?_
  refine w_dloadS d30_17 (ok.kd hq) (fr512 ok hq) ?_
  refine w_aload_n d30_20 rfl ?_
  refine w_getI (x := ((a : Nat) : Int)) d30_21 (ok.kd hq) r3 ?_
  refine w_iload_n d30_24 rfl ?_
  refine w_callv3 d30_25 (by omega) rfl (ok.kd (kT512 ok hq)) (by simp) (Nat.le_of_ble_eq_true rfl) ?_
  refine r_Row_nameIn ok (kT512 ok hq) (by rw [r1]; omega) ?_
  rw [r1, hd_sl er.2.1 er.1]
  refine w_lstore2 d30_28 rfl ?_
  refine w_aload_n d30_29 rfl ?_
  refine w_iload_n d30_30 rfl ?_
  refine w_lload_n d30_31 rfl ?_
  refine w_lconst d30_32 ?_
  refine w_callv4 d30_33 (by omega) rfl (ok.kd hq) (by simp) (Nat.le_of_ble_eq_true rfl) ?_
  refine k_Rq_readWord (w := sl l a (wordE l a 8 48)) ok (by omega) hq R0 ⟨er.1, er.2.1⟩ (wo.mono (by decide)) rfl (tl_z wo.1).symm (fun h33 v33 m33 e33 R1 => ?_)
  have ok33 := m33.ok
  have M33 := Mo.tr ok (Mo.refl (A := (fun x => x = q ∨ x = (sT S 517 q) ∨ x = (sT S 518 q) ∨ x = (sT S 520 q))) ok) m33 (fun x q => q.elim ((fun x e => (Or.inl e)) x) ((fun x q => q.elim ((fun x e => (Or.inr (Or.inl e))) x) ((fun x q => q.elim ((fun x e => (Or.inr (Or.inr (Or.inl e)))) x) ((fun x e => (Or.inr (Or.inr (Or.inr e)))) x)) x)) x))
  refine w_zreturn d30_36 (b2i_01 _) ?_
  exact kk _ v33 _ m33 ⟨e33, rfl⟩ R1
theorem d34_0 : dc 34 0 = some (.aload_n 0, 1) := by decide +kernel
theorem d34_1 : dc 34 1 = some (.dload 512, 4) := by decide +kernel
theorem d34_4 : dc 34 4 = some (.aload_n 0, 5) := by decide +kernel
theorem d34_5 : dc 34 5 = some (.getfield 516, 8) := by decide +kernel
theorem d34_8 : dc 34 8 = some (.bipush 12, 10) := by decide +kernel
theorem d34_10 : dc 34 10 = some (.bipush 46, 12) := by decide +kernel
theorem d34_12 : dc 34 12 = some (.invokevirtual 31, 15) := by decide +kernel
theorem d34_15 : dc 34 15 = some (.istore_n 1, 16) := by decide +kernel
theorem d34_16 : dc 34 16 = some (.aload_n 0, 17) := by decide +kernel
theorem d34_17 : dc 34 17 = some (.iload_n 1, 18) := by decide +kernel
theorem d34_18 : dc 34 18 = some (.aload_n 0, 19) := by decide +kernel
theorem d34_19 : dc 34 19 = some (.dload 512, 22) := by decide +kernel
theorem d34_22 : dc 34 22 = some (.aload_n 0, 23) := by decide +kernel
theorem d34_23 : dc 34 23 = some (.getfield 516, 26) := by decide +kernel
theorem d34_26 : dc 34 26 = some (.iload_n 1, 27) := by decide +kernel
theorem d34_27 : dc 34 27 = some (.invokevirtual 32, 30) := by decide +kernel
theorem d34_30 : dc 34 30 = some (.aload_n 0, 31) := by decide +kernel
theorem d34_31 : dc 34 31 = some (.dload 512, 34) := by decide +kernel
theorem d34_34 : dc 34 34 = some (.aload_n 0, 35) := by decide +kernel
theorem d34_35 : dc 34 35 = some (.getfield 516, 38) := by decide +kernel
theorem d34_38 : dc 34 38 = some (.bipush 8, 40) := by decide +kernel
theorem d34_40 : dc 34 40 = some (.iadd, 41) := by decide +kernel
theorem d34_41 : dc 34 41 = some (.iload_n 1, 42) := by decide +kernel
theorem d34_42 : dc 34 42 = some (.invokevirtual 32, 45) := by decide +kernel
theorem d34_45 : dc 34 45 = some (.invokevirtual 33, 48) := by decide +kernel
theorem d34_48 : dc 34 48 = some (.freturn, 49) := by decide +kernel
theorem k_Rq_readPath {S : Shp} {G : Nat → Option Nat} {d : Nat} {h : Hp} {Q : Option MV → Hp → Prop} {q : Nat}  (ok : Ok S h) (h1 : 2 ≤ d) (hq : sK S q = 5) {vb : Option Nat} {l : List Nat} {a : Nat} {ws : List (List Nat)} {ns : List Nat} (R : RqC S h q l a ws ns vb)
    (kk : ∀ h' v a', Mo S (rqA S q) h h' → (v = pWord l 12 46 a ∧ a' = wordE l a 12 46) → RqC S h' q l a' (if v = true then wPush ws (sl l a a') else ws) ns vb → Q (some (vI (b2i v))) h') : Cl G d 34 [vR (some q)] h Q := by
  show Wp G d 34 0 [some (vR (some q)), none] [] h Q
  have R0 := R
  obtain ⟨r1, r2, r3, r4, r5, r6, r7, r8, r9, r10, r11⟩ := R
  have kR := kT512 ok hq
  have nT : ∀ f, f < 4096 → sT S f q ≠ q := fun f hf => ok.so.pT hf
  have er := wordE_rg (m := 12) (lo := 46) r4
  have wo := word_ok (m := 12) (lo := 46) r4 (by decide)
  refine w_aload_n d34_0 rfl ?_
  refine w_dloadS d34_1 (ok.kd hq) (fr512 ok hq) ?_
  refine w_aload_n d34_4 rfl ?_
  refine w_getI (x := ((a : Nat) : Int)) d34_5 (ok.kd hq) r3 ?_
  refine w_bipush d34_8 (by decide) ?_
  refine w_bipush d34_10 (by decide) ?_
  refine w_callv4 d34_12 (by omega) rfl (ok.kd (kT512 ok hq)) (by simp) (Nat.le_of_ble_eq_true rfl) ?_
  refine r_Row_wordEnd (most := 12) (lo := 46) (by omega) ok (kT512 ok hq) (by omega) ?_
  rw [r1]
  refine w_istore1 d34_15 rfl ?_
  refine w_aload_n d34_16 rfl ?_
  refine w_iload_n d34_17 rfl ?_
  refine w_aload_n d34_18 rfl ?_
  refine w_dloadS d34_19 (ok.kd hq) (fr512 ok hq) ?_
  refine w_aload_n d34_22 rfl ?_
  refine w_getI (x := ((a : Nat) : Int)) d34_23 (ok.kd hq) r3 ?_
  refine w_iload_n d34_26 rfl ?_
  refine w_callv3 d34_27 (by omega) rfl (ok.kd (kT512 ok hq)) (by simp) (Nat.le_of_ble_eq_true rfl) ?_
  refine r_Row_nameIn ok (kT512 ok hq) (by rw [r1]; omega) ?_
  rw [r1, hd_sl er.2.1 er.1]
  refine w_aload_n d34_30 rfl ?_
  refine w_dloadS d34_31 (ok.kd hq) (fr512 ok hq) ?_
  refine w_aload_n d34_34 rfl ?_
  refine w_getI (x := ((a : Nat) : Int)) d34_35 (ok.kd hq) r3 ?_
  refine w_bipush d34_38 (by decide) ?_
  refine w_iadd d34_40 (by constructor <;> omega) ?_
  rw [show ((a : Nat) : Int) + 8 = ((a + 8 : Nat) : Int) by omega]
  refine w_iload_n d34_41 rfl ?_
  refine w_callv3 d34_42 (by omega) rfl (ok.kd (kT512 ok hq)) (by simp) (Nat.le_of_ble_eq_true rfl) ?_
  refine r_Row_nameIn ok (kT512 ok hq) (by rw [r1]; omega) ?_
  rw [r1, tl_sl er.2.1 er.1]
  refine w_callv4 d34_45 (by omega) rfl (ok.kd hq) (by simp) (Nat.le_of_ble_eq_true rfl) ?_
  refine k_Rq_readWord (w := sl l a (wordE l a 12 46)) ok (by omega) hq R0 ⟨er.1, er.2.1⟩ wo rfl rfl (fun h45 v45 m45 e45 R1 => ?_)
  have ok45 := m45.ok
  have M45 := Mo.tr ok (Mo.refl (A := (fun x => x = q ∨ x = (sT S 517 q) ∨ x = (sT S 518 q) ∨ x = (sT S 520 q))) ok) m45 (fun x q => q.elim ((fun x e => (Or.inl e)) x) ((fun x q => q.elim ((fun x e => (Or.inr (Or.inl e))) x) ((fun x q => q.elim ((fun x e => (Or.inr (Or.inr (Or.inl e)))) x) ((fun x e => (Or.inr (Or.inr (Or.inr e)))) x)) x)) x))
  refine w_zreturn d34_48 (b2i_01 _) ?_
  exact kk _ v45 _ m45 ⟨e45, rfl⟩ R1
theorem d35_0 : dc 35 0 = some (.aload_n 0, 1) := by decide +kernel
theorem d35_1 : dc 35 1 = some (.dload 512, 4) := by decide +kernel
theorem d35_4 : dc 35 4 = some (.aload_n 0, 5) := by decide +kernel
theorem d35_5 : dc 35 5 = some (.getfield 516, 8) := by decide +kernel
theorem d35_8 : dc 35 8 = some (.invokevirtual 36, 11) := by decide +kernel
theorem d35_11 : dc 35 11 = some (.istore_n 1, 12) := by decide +kernel
theorem d35_12 : dc 35 12 = some (.iload_n 1, 13) := by decide +kernel
theorem d35_13 : dc 35 13 = some (.aload_n 0, 14) := by decide +kernel
theorem d35_14 : dc 35 14 = some (.getfield 516, 17) := by decide +kernel
theorem d35_17 : dc 35 17 = some (.if_icmp .ne ((22 : Nat) : Int), 20) := by decide +kernel
theorem d35_20 : dc 35 20 = some (.iconst 0, 21) := by decide +kernel
theorem d35_21 : dc 35 21 = some (.freturn, 22) := by decide +kernel
theorem d35_22 : dc 35 22 = some (.aload_n 0, 23) := by decide +kernel
theorem d35_23 : dc 35 23 = some (.aload_n 0, 24) := by decide +kernel
theorem d35_24 : dc 35 24 = some (.dload 512, 27) := by decide +kernel
theorem d35_27 : dc 35 27 = some (.aload_n 0, 28) := by decide +kernel
theorem d35_28 : dc 35 28 = some (.getfield 516, 31) := by decide +kernel
theorem d35_31 : dc 35 31 = some (.iload_n 1, 32) := by decide +kernel
theorem d35_32 : dc 35 32 = some (.invokevirtual 37, 35) := by decide +kernel
theorem d35_35 : dc 35 35 = some (.invokevirtual 38, 38) := by decide +kernel
theorem d35_38 : dc 35 38 = some (.aload_n 0, 39) := by decide +kernel
theorem d35_39 : dc 35 39 = some (.iload_n 1, 40) := by decide +kernel
theorem d35_40 : dc 35 40 = some (.putfield 516, 43) := by decide +kernel
theorem d35_43 : dc 35 43 = some (.iconst 1, 44) := by decide +kernel
theorem d35_44 : dc 35 44 = some (.freturn, 45) := by decide +kernel
theorem k_Rq_readNumber {S : Shp} {G : Nat → Option Nat} {d : Nat} {h : Hp} {Q : Option MV → Hp → Prop} {q : Nat}  (ok : Ok S h) (h1 : 2 ≤ d) (hq : sK S q = 5) {vb : Option Nat} {l : List Nat} {a : Nat} {ws : List (List Nat)} {ns : List Nat} (R : RqC S h q l a ws ns vb)
    (kk : ∀ h' v a', Mo S (rqA S q) h h' → (v = pNum l a ∧ a' = numE l a) → RqC S h' q l a' ws (if v = true then ns ++ [numV (sl l a a')] else ns) vb → Q (some (vI (b2i v))) h') : Cl G d 35 [vR (some q)] h Q := by
  show Wp G d 35 0 [some (vR (some q)), none] [] h Q
  have R0 := R
  obtain ⟨r1, r2, r3, r4, r5, r6, r7, r8, r9, r10, r11⟩ := R
  have kR := kT512 ok hq
  have nT : ∀ f, f < 4096 → sT S f q ≠ q := fun f hf => ok.so.pT hf
  have er := numE_rg r4
  have no := num_ok r4
  refine w_aload_n d35_0 rfl ?_
  refine w_dloadS d35_1 (ok.kd hq) (fr512 ok hq) ?_
  refine w_aload_n d35_4 rfl ?_
  refine w_getI (x := ((a : Nat) : Int)) d35_5 (ok.kd hq) r3 ?_
  refine w_callv2 d35_8 (by omega) rfl (ok.kd (kT512 ok hq)) (by simp) (Nat.le_of_ble_eq_true rfl) ?_
  refine r_Row_numberEnd (by omega) ok (kT512 ok hq) (by omega) ?_
  rw [r1]
  refine w_istore1 d35_11 rfl ?_
  refine w_iload_n d35_12 rfl ?_
  refine w_aload_n d35_13 rfl ?_
  refine w_getI (x := ((a : Nat) : Int)) d35_14 (ok.kd hq) r3 ?_
  refine w_icmpne d35_17 (fun c17 => ?_) (fun c17 => ?_)
  · have hne : numE l a ≠ a := by omega
    refine w_aload_n d35_22 rfl ?_
    refine w_aload_n d35_23 rfl ?_
    refine w_dloadS d35_24 (ok.kd hq) (fr512 ok hq) ?_
    refine w_aload_n d35_27 rfl ?_
    refine w_getI (x := ((a : Nat) : Int)) d35_28 (ok.kd hq) r3 ?_
    refine w_iload_n d35_31 rfl ?_
    refine w_callv3 d35_32 (by omega) rfl (ok.kd (kT512 ok hq)) (by simp) (Nat.le_of_ble_eq_true rfl) ?_
    refine r_Row_numberIn (by omega) ok (kT512 ok hq) ⟨er.1, by rw [r1]; exact er.2.1, by omega⟩ (fun i h1 h2 => by rw [r1]; exact numE_all h1 h2) ?_
    rw [r1]
    refine w_callv2 d35_35 (by omega) rfl (ok.kd hq) (by simp) (Nat.le_of_ble_eq_true rfl) ?_
    refine k_Rq_keepNumber ok (by omega) hq R0 no (fun h35 m35 _ K35 _ _ _ => ?_)
    have ok35 := m35.ok
    have M35 := Mo.tr ok (Mo.refl (A := (fun x => x = q ∨ x = (sT S 517 q) ∨ x = (sT S 518 q) ∨ x = (sT S 520 q))) ok) m35 (fun x q => q.elim ((fun x e => (Or.inl e)) x) ((fun x q => q.elim ((fun x e => (Or.inr (Or.inl e))) x) ((fun x q => q.elim ((fun x e => (Or.inr (Or.inr (Or.inl e)))) x) ((fun x e => (Or.inr (Or.inr (Or.inr e)))) x)) x)) x))
    refine w_aload_n d35_38 rfl ?_
    refine w_iload_n d35_39 rfl ?_
    refine wf516 d35_40 ok35 hq (by omega) (fun h40 e40 m40 => ?_)
    have ok40 := m40.ok
    have M40 := Mo.tr ok M35 m40 (fun x e => (Or.inl e))
    refine w_iconst d35_43 (by decide) ?_
    refine w_zreturn d35_44 (by decide) ?_
    exact kk h40 true _ M40 ⟨by unfold pNum; simp [hne], rfl⟩ (by rw [if_pos rfl]; exact K35 h40 _ m40 e40 (by omega) er.2.1)
  · refine w_iconst d35_20 (by decide) ?_
    refine w_zreturn d35_21 (by decide) ?_
    have ea : numE l a = a := by omega
    exact kk h false a (Mo.refl ok) ⟨by unfold pNum; simp [ea], ea.symm⟩ (by simpa using R0)
theorem RqC.tx {S : Shp} {h h' : Hp} {q a f : Nat} {v : Int} {vb : Option Nat} {l : List Nat} {ws : List (List Nat)} {ns : List Nat} (ok : Ok S h) (hq : sK S q = 5) (R : RqC S h q l a ws ns vb) (e : h' = sFI h f q v) (m : Mo S (fun y => y = q) h h') (hf : f = 522 ∨ f = 523) : RqC S h' q l a ws ns vb := by
  obtain ⟨r1, r2, r3, r4, r5, r6, r7, r8, r9, r10⟩ := R
  have n : ∀ g, g < 522 → FI h' g q = FI h g q := fun g hg => by rw [e, FI_sFI, if_neg (by omega)]
  exact ⟨by rw [m.rb ok (kT512 ok hq) (ok.so.pT (by decide))]; exact r1, r2, by rw [n 516 (by decide)]; exact r3, r4, by rw [n 519 (by decide)]; exact r5, r6, by rw [e]; exact r7, by rw [n 521 (by decide)]; exact r8, r9, by rw [e]; exact r10⟩
theorem k_Rq_readSign2 {S : Shp} {G : Nat → Option Nat} {d : Nat} {h : Hp} {Q : Option MV → Hp → Prop} {q c : Nat} (ok : Ok S h) (h1 : 1 ≤ d) (hq : sK S q = 5) {vb : Option Nat} {l : List Nat} {a : Nat} {ws : List (List Nat)} {ns : List Nat} (R : RqC S h q l a ws ns vb) (kk : ∀ h' v a', Mo S (fun y => y = q) h h' → RqC S h' q l a' ws ns vb → (v = pSign l c a ∧ a' = if v = true then a + 1 else a) → (∀ f, f ≠ 516 → FI h' f q = FI h f q) → Q (some (vI (b2i v))) h') : Cl G d 40 [vR (some q), vI (c : Nat)] h Q := by
  show Wp G d 40 0 [some (vR (some q)), some (vI (c : Nat))] [] h Q
  have R0 := R
  obtain ⟨r1, r2, r3, r4, r5, r6, r7, r8, r9, r10, r11⟩ := R
  have kR := kT512 ok hq
  have nT : ∀ f, f < 4096 → sT S f q ≠ q := fun f hf => ok.so.pT hf
  refine w_aload_n d40_0 rfl ?_
  refine w_dloadS d40_1 (ok.kd hq) (fr512 ok hq) ?_
  refine w_aload_n d40_4 rfl ?_
  refine w_getI (x := ((a : Nat) : Int)) d40_5 (ok.kd hq) r3 ?_
  refine w_callv2 d40_8 (by omega) rfl (ok.kd (kT512 ok hq)) (by simp) (Nat.le_of_ble_eq_true rfl) ?_
  refine r_Row_at ok (kT512 ok hq) ?_
  rw [r1]
  refine w_iload_n d40_11 rfl ?_
  refine w_icmpeq d40_12 (fun c12 => ?_) (fun c12 => ?_)
  · have hs : a < l.length ∧ l.getD a 0 = c := by
      by_cases z : a < l.length
      · rw [atvN z] at c12; exact ⟨z, by omega⟩
      · unfold atv at c12; rw [if_neg (by omega)] at c12; omega
    refine w_aload_n d40_17 rfl ?_
    refine w_dupR d40_18 ?_
    refine w_getI (x := ((a : Nat) : Int)) d40_19 (ok.kd hq) r3 ?_
    refine w_iconst d40_22 (by decide) ?_
    refine w_iadd d40_23 (by constructor <;> omega) ?_
    refine wf516 d40_24 ok hq (by omega) (fun h24 e24 m24 => ?_)
    have ok24 := m24.ok
    have M24 := Mo.tr ok (Mo.refl (A := (fun x => x = q)) ok) m24 (fun x e => e)
    refine w_iconst d40_27 (by decide) ?_
    refine w_zreturn d40_28 (by decide) ?_
    exact kk h24 true (a + 1) m24 (R0.at ok hq e24 m24 ⟨by omega, by omega⟩) ⟨by unfold pSign; rw [decide_eq_true hs], rfl⟩ (fun f hf => by rw [e24, FI_sFI, if_neg (fun z => hf z.1)])
  · have hs : ¬ (a < l.length ∧ l.getD a 0 = c) := fun z => by rw [atvN z.1] at c12; omega
    refine w_iconst d40_15 (by decide) ?_
    refine w_zreturn d40_16 (by decide) ?_
    exact kk h false a (Mo.refl ok) R0 ⟨by unfold pSign; rw [decide_eq_false hs], rfl⟩ (fun _ _ => rfl)
/-- a text's signs -/
def isTx (c : Nat) : Bool := decide (32 ≤ c) && decide (c ≤ 126) && decide (c ≠ 62)
theorem isTx_t {c : Nat} : isTx c = true ↔ 32 ≤ c ∧ c ≤ 126 ∧ c ≠ 62 := by simp [isTx, and_assoc]
def txE (l : List Nat) (a : Nat) : Nat := scan l isTx (a + 1) 160
theorem d39_0 : dc 39 0 = some (.aload_n 0, 1) := by decide +kernel
theorem d39_1 : dc 39 1 = some (.bipush 60, 3) := by decide +kernel
theorem d39_3 : dc 39 3 = some (.invokevirtual 40, 6) := by decide +kernel
theorem d39_6 : dc 39 6 = some (.ifCond .ne ((11 : Nat) : Int), 9) := by decide +kernel
theorem d39_9 : dc 39 9 = some (.iconst 0, 10) := by decide +kernel
theorem d39_10 : dc 39 10 = some (.freturn, 11) := by decide +kernel
theorem d39_11 : dc 39 11 = some (.aload_n 0, 12) := by decide +kernel
theorem d39_12 : dc 39 12 = some (.aload_n 0, 13) := by decide +kernel
theorem d39_13 : dc 39 13 = some (.getfield 516, 16) := by decide +kernel
theorem d39_16 : dc 39 16 = some (.putfield 522, 19) := by decide +kernel
theorem d39_19 : dc 39 19 = some (.iconst 0, 20) := by decide +kernel
theorem d39_20 : dc 39 20 = some (.istore_n 1, 21) := by decide +kernel
theorem d39_21 : dc 39 21 = some (.iload_n 1, 22) := by decide +kernel
theorem d39_22 : dc 39 22 = some (.sipush 160, 25) := by decide +kernel
theorem d39_25 : dc 39 25 = some (.if_icmp .ge ((77 : Nat) : Int), 28) := by decide +kernel
theorem d39_28 : dc 39 28 = some (.aload_n 0, 29) := by decide +kernel
theorem d39_29 : dc 39 29 = some (.dload 512, 32) := by decide +kernel
theorem d39_32 : dc 39 32 = some (.aload_n 0, 33) := by decide +kernel
theorem d39_33 : dc 39 33 = some (.getfield 516, 36) := by decide +kernel
theorem d39_36 : dc 39 36 = some (.invokevirtual 23, 39) := by decide +kernel
theorem d39_39 : dc 39 39 = some (.istore_n 2, 40) := by decide +kernel
theorem d39_40 : dc 39 40 = some (.iload_n 2, 41) := by decide +kernel
theorem d39_41 : dc 39 41 = some (.bipush 32, 43) := by decide +kernel
theorem d39_43 : dc 39 43 = some (.if_icmp .lt ((77 : Nat) : Int), 46) := by decide +kernel
theorem d39_46 : dc 39 46 = some (.iload_n 2, 47) := by decide +kernel
theorem d39_47 : dc 39 47 = some (.bipush 126, 49) := by decide +kernel
theorem d39_49 : dc 39 49 = some (.if_icmp .gt ((77 : Nat) : Int), 52) := by decide +kernel
theorem d39_52 : dc 39 52 = some (.iload_n 2, 53) := by decide +kernel
theorem d39_53 : dc 39 53 = some (.bipush 62, 55) := by decide +kernel
theorem d39_55 : dc 39 55 = some (.if_icmp .ne ((61 : Nat) : Int), 58) := by decide +kernel
theorem d39_58 : dc 39 58 = some (.goto ((77 : Nat) : Int), 61) := by decide +kernel
theorem d39_61 : dc 39 61 = some (.aload_n 0, 62) := by decide +kernel
theorem d39_62 : dc 39 62 = some (.dup, 63) := by decide +kernel
theorem d39_63 : dc 39 63 = some (.getfield 516, 66) := by decide +kernel
theorem d39_66 : dc 39 66 = some (.iconst 1, 67) := by decide +kernel
theorem d39_67 : dc 39 67 = some (.iadd, 68) := by decide +kernel
theorem d39_68 : dc 39 68 = some (.putfield 516, 71) := by decide +kernel
theorem d39_71 : dc 39 71 = some (.iinc 1 1, 74) := by decide +kernel
theorem d39_74 : dc 39 74 = some (.goto ((21 : Nat) : Int), 77) := by decide +kernel
theorem d39_77 : dc 39 77 = some (.aload_n 0, 78) := by decide +kernel
theorem d39_78 : dc 39 78 = some (.aload_n 0, 79) := by decide +kernel
theorem d39_79 : dc 39 79 = some (.getfield 516, 82) := by decide +kernel
theorem d39_82 : dc 39 82 = some (.putfield 523, 85) := by decide +kernel
theorem d39_85 : dc 39 85 = some (.aload_n 0, 86) := by decide +kernel
theorem d39_86 : dc 39 86 = some (.bipush 62, 88) := by decide +kernel
theorem d39_88 : dc 39 88 = some (.invokevirtual 40, 91) := by decide +kernel
theorem d39_91 : dc 39 91 = some (.freturn, 92) := by decide +kernel
theorem k_Rq_readText {S : Shp} {G : Nat → Option Nat} {d : Nat} {h : Hp} {Q : Option MV → Hp → Prop} {q : Nat}  (ok : Ok S h) (h1 : 2 ≤ d) (hq : sK S q = 5) {vb : Option Nat} {l : List Nat} {a : Nat} {ws : List (List Nat)} {ns : List Nat} (R : RqC S h q l a ws ns vb)
    (kk : ∀ h' v a', Mo S (fun y => y = q) h h' → RqC S h' q l a' ws ns vb → (pSign l 60 a = false → v = false ∧ a' = a) → (pSign l 60 a = true → v = pSign l 62 (txE l a) ∧ (a' = if v = true then txE l a + 1 else txE l a) ∧ FI h' 522 q = ((a + 1 : Nat) : Int) ∧ FI h' 523 q = (txE l a : Nat)) → Q (some (vI (b2i v))) h') : Cl G d 39 [vR (some q)] h Q := by
  show Wp G d 39 0 [some (vR (some q)), none, none] [] h Q
  have R0 := R
  have r4 := R.2.2.2.1
  have r2 := R.2.1
  have kR := kT512 ok hq
  have nT : ∀ f, f < 4096 → sT S f q ≠ q := fun f hf => ok.so.pT hf
  refine w_aload_n d39_0 rfl ?_
  refine w_bipush d39_1 (by decide) ?_
  refine w_callv2 d39_3 (by omega) rfl (ok.kd hq) (by simp) (Nat.le_of_ble_eq_true rfl) ?_
  refine k_Rq_readSign (c := 60) ok (by omega) hq R (fun h3 v3 a3 m3 R e3 => ?_)
  have ok3 := m3.ok
  have M3 := Mo.tr ok (Mo.refl (A := (fun x => x = q)) ok) m3 (fun x e => e)
  refine w_ifne d39_6 (fun c6 => ?_) (fun c6 => ?_)
  · have b6 : v3 = true := b2i_nz c6
    have p6 : pSign l 60 a = true := by rw [← e3.1]; exact b6
    have a3e : a3 = a + 1 := by rw [e3.2, if_pos b6]
    refine w_aload_n d39_11 rfl ?_
    refine w_aload_n d39_12 rfl ?_
    refine w_getI (x := ((a3 : Nat) : Int)) d39_13 (ok3.kd hq) R.2.2.1 ?_
    refine wf522 d39_16 ok3 hq (by have := R.2.2.2.1; omega) (fun h16 e16 m16 => ?_)
    have ok16 := m16.ok
    have M16 := Mo.tr ok M3 m16 (fun x e => e)
    have R := (RqC.tx ok3 hq R e16 m16 (Or.inl rfl))
    have tf : FI h16 522 q = ((a + 1 : Nat) : Int) := by rw [e16, FI_sFI, if_pos ⟨rfl, rfl⟩, a3e]
    refine w_iconst d39_19 (by decide) ?_
    refine w_istore1 d39_20 rfl ?_
    have L21 : ∀ (m21 : Nat) (g : Hp) (i b : Nat), 160 - i = m21 → Mo S (fun x => x = q) h g → (i ≤ 160) → (b = a + 1 + i) → (RqC S g q l b ws ns vb) → (txE l a = scan l isTx b (160 - i)) → (FI g 522 q = ((a + 1 : Nat) : Int)) → Wp G d 39 21 [some (vR (some q)), some (vI (i : Nat)), none] [] g Q := by
      intro m21
      induction m21 using Nat.strongRecOn with | ind m21 IH21 => ?_
      intro g i b hm21 Mg i1 i2 R2 i3 i4
      have okg := Mg.ok
      have b4 := R2.2.2.2.1
      refine w_iload_n d39_21 rfl ?_
      refine w_sipush d39_22 (by decide) ?_
      refine w_icmpge d39_25 (fun c25 => ?_) (fun c25 => ?_)
      · have ex : txE l a = b := by rw [i3, scan_stop (Or.inr (Or.inl (by omega)))]
        refine w_aload_n d39_77 rfl ?_
        refine w_aload_n d39_78 rfl ?_
        refine w_getI (x := ((b : Nat) : Int)) d39_79 (okg.kd hq) R2.2.2.1 ?_
        refine wf523 d39_82 okg hq (by omega) (fun h82 e82 m82 => ?_)
        have ok82 := m82.ok
        have M82 := Mo.tr ok Mg m82 (fun x e => e)
        have R3 := (RqC.tx okg hq R2 e82 m82 (Or.inr rfl))
        have t3 : FI h82 522 q = ((a + 1 : Nat) : Int) := by rw [e82, FI_sFI, if_neg (by simp)]; exact i4
        have t4 : FI h82 523 q = (txE l a : Nat) := by rw [e82, FI_sFI, if_pos ⟨rfl, rfl⟩, ex]
        refine w_aload_n d39_85 rfl ?_
        refine w_bipush d39_86 (by decide) ?_
        refine w_callv2 d39_88 (by omega) rfl (ok82.kd hq) (by simp) (Nat.le_of_ble_eq_true rfl) ?_
        refine k_Rq_readSign2 (c := 62) ok82 (by omega) hq R3 (fun h88 v88 a88 m88 R4 e88 f88 => ?_)
        have ok88 := m88.ok
        have M88 := Mo.tr ok M82 m88 (fun x e => e)
        refine w_zreturn d39_91 (b2i_01 _) ?_
        exact kk h88 v88 a88 M88 R4 (fun z => by rw [p6] at z; cases z) (fun _ => by rw [ex]; exact ⟨e88.1, e88.2, (f88 522 (by decide)).trans t3, (f88 523 (by decide)).trans (by rw [t4, ex])⟩)
      · have nx : ¬ (b < l.length ∧ 32 ≤ l.getD b 0 ∧ l.getD b 0 ≤ 126 ∧ l.getD b 0 ≠ 62) → txE l a = b := fun z => by
          rw [i3]
          refine scan_stop ?_
          by_cases c : b < l.length
          · refine Or.inr (Or.inr ?_)
            cases t : isTx (l.getD b 0) with
            | true => exact absurd ⟨c, isTx_t.mp t⟩ z
            | false => rfl
          · exact Or.inl (by omega)
        have va : (b < l.length ∧ atv l ((b : Nat) : Int) = (l.getD b 0 : Nat)) ∨ (¬ b < l.length ∧ atv l ((b : Nat) : Int) = -1) := by
          by_cases c : b < l.length
          · exact Or.inl ⟨c, atvN c⟩
          · refine Or.inr ⟨c, ?_⟩; unfold atv; rw [if_neg (by omega)]
        refine w_aload_n d39_28 rfl ?_
        refine w_dloadS d39_29 (okg.kd hq) (fr512 okg hq) ?_
        refine w_aload_n d39_32 rfl ?_
        refine w_getI (x := ((b : Nat) : Int)) d39_33 (okg.kd hq) R2.2.2.1 ?_
        refine w_callv2 d39_36 (by omega) rfl (okg.kd (kT512 okg hq)) (by simp) (Nat.le_of_ble_eq_true rfl) ?_
        refine r_Row_at okg (kT512 okg hq) ?_
        rw [R2.1]
        refine w_istore2 d39_39 rfl ?_
        refine w_iload_n d39_40 rfl ?_
        refine w_bipush d39_41 (by decide) ?_
        refine w_icmplt d39_43 (fun c43 => ?_) (fun c43 => ?_)
        · have ex := nx (fun z => by omega)
          refine w_aload_n d39_77 rfl ?_
          refine w_aload_n d39_78 rfl ?_
          refine w_getI (x := ((b : Nat) : Int)) d39_79 (okg.kd hq) R2.2.2.1 ?_
          refine wf523 d39_82 okg hq (by omega) (fun h82 e82 m82 => ?_)
          have ok82 := m82.ok
          have M82 := Mo.tr ok Mg m82 (fun x e => e)
          have R3 := (RqC.tx okg hq R2 e82 m82 (Or.inr rfl))
          have t3 : FI h82 522 q = ((a + 1 : Nat) : Int) := by rw [e82, FI_sFI, if_neg (by simp)]; exact i4
          have t4 : FI h82 523 q = (txE l a : Nat) := by rw [e82, FI_sFI, if_pos ⟨rfl, rfl⟩, ex]
          refine w_aload_n d39_85 rfl ?_
          refine w_bipush d39_86 (by decide) ?_
          refine w_callv2 d39_88 (by omega) rfl (ok82.kd hq) (by simp) (Nat.le_of_ble_eq_true rfl) ?_
          refine k_Rq_readSign2 (c := 62) ok82 (by omega) hq R3 (fun h88 v88 a88 m88 R4 e88 f88 => ?_)
          have ok88 := m88.ok
          have M88 := Mo.tr ok M82 m88 (fun x e => e)
          refine w_zreturn d39_91 (b2i_01 _) ?_
          exact kk h88 v88 a88 M88 R4 (fun z => by rw [p6] at z; cases z) (fun _ => by rw [ex]; exact ⟨e88.1, e88.2, (f88 522 (by decide)).trans t3, (f88 523 (by decide)).trans (by rw [t4, ex])⟩)
        · refine w_iload_n d39_46 rfl ?_
          refine w_bipush d39_47 (by decide) ?_
          refine w_icmpgt d39_49 (fun c49 => ?_) (fun c49 => ?_)
          · have ex := nx (fun z => by omega)
            refine w_aload_n d39_77 rfl ?_
            refine w_aload_n d39_78 rfl ?_
            refine w_getI (x := ((b : Nat) : Int)) d39_79 (okg.kd hq) R2.2.2.1 ?_
            refine wf523 d39_82 okg hq (by omega) (fun h82 e82 m82 => ?_)
            have ok82 := m82.ok
            have M82 := Mo.tr ok Mg m82 (fun x e => e)
            have R3 := (RqC.tx okg hq R2 e82 m82 (Or.inr rfl))
            have t3 : FI h82 522 q = ((a + 1 : Nat) : Int) := by rw [e82, FI_sFI, if_neg (by simp)]; exact i4
            have t4 : FI h82 523 q = (txE l a : Nat) := by rw [e82, FI_sFI, if_pos ⟨rfl, rfl⟩, ex]
            refine w_aload_n d39_85 rfl ?_
            refine w_bipush d39_86 (by decide) ?_
            refine w_callv2 d39_88 (by omega) rfl (ok82.kd hq) (by simp) (Nat.le_of_ble_eq_true rfl) ?_
            refine k_Rq_readSign2 (c := 62) ok82 (by omega) hq R3 (fun h88 v88 a88 m88 R4 e88 f88 => ?_)
            have ok88 := m88.ok
            have M88 := Mo.tr ok M82 m88 (fun x e => e)
            refine w_zreturn d39_91 (b2i_01 _) ?_
            exact kk h88 v88 a88 M88 R4 (fun z => by rw [p6] at z; cases z) (fun _ => by rw [ex]; exact ⟨e88.1, e88.2, (f88 522 (by decide)).trans t3, (f88 523 (by decide)).trans (by rw [t4, ex])⟩)
          · refine w_iload_n d39_52 rfl ?_
            refine w_bipush d39_53 (by decide) ?_
            refine w_icmpne d39_55 (fun c55 => ?_) (fun c55 => ?_)
            · have yes : b < l.length ∧ isTx (l.getD b 0) = true := ⟨by omega, isTx_t.mpr ⟨by omega, by omega, by omega⟩⟩
              refine w_aload_n d39_61 rfl ?_
              refine w_dupR d39_62 ?_
              refine w_getI (x := ((b : Nat) : Int)) d39_63 (okg.kd hq) R2.2.2.1 ?_
              refine w_iconst d39_66 (by decide) ?_
              refine w_iadd d39_67 (by constructor <;> omega) ?_
              refine wf516 d39_68 okg hq (by omega) (fun h68 e68 m68 => ?_)
              have ok68 := m68.ok
              have M68 := Mo.tr ok Mg m68 (fun x e => e)
              refine w_iinc1 d39_71 rfl (by constructor <;> omega) ?_
              refine w_goto d39_74 ?_
              refine w_less ?_ (IH21 _ (by omega) h68 (i + 1) (b + 1) rfl M68 (by omega) (by omega) (R2.at okg hq e68 m68 ⟨by omega, by omega⟩) (by rw [i3, show 160 - i = (160 - (i + 1)) + 1 by omega, scan_go yes.1 yes.2]) (by rw [e68, FI_sFI, if_neg (by simp)]; exact i4))
              exact ⟨Or.inr rfl, Or.inr rfl, Or.inl rfl, trivial⟩
            · have ex := nx (fun z => by omega)
              refine w_goto d39_58 ?_
              refine w_aload_n d39_77 rfl ?_
              refine w_aload_n d39_78 rfl ?_
              refine w_getI (x := ((b : Nat) : Int)) d39_79 (okg.kd hq) R2.2.2.1 ?_
              refine wf523 d39_82 okg hq (by omega) (fun h82 e82 m82 => ?_)
              have ok82 := m82.ok
              have M82 := Mo.tr ok Mg m82 (fun x e => e)
              have R3 := (RqC.tx okg hq R2 e82 m82 (Or.inr rfl))
              have t3 : FI h82 522 q = ((a + 1 : Nat) : Int) := by rw [e82, FI_sFI, if_neg (by simp)]; exact i4
              have t4 : FI h82 523 q = (txE l a : Nat) := by rw [e82, FI_sFI, if_pos ⟨rfl, rfl⟩, ex]
              refine w_aload_n d39_85 rfl ?_
              refine w_bipush d39_86 (by decide) ?_
              refine w_callv2 d39_88 (by omega) rfl (ok82.kd hq) (by simp) (Nat.le_of_ble_eq_true rfl) ?_
              refine k_Rq_readSign2 (c := 62) ok82 (by omega) hq R3 (fun h88 v88 a88 m88 R4 e88 f88 => ?_)
              have ok88 := m88.ok
              have M88 := Mo.tr ok M82 m88 (fun x e => e)
              refine w_zreturn d39_91 (b2i_01 _) ?_
              exact kk h88 v88 a88 M88 R4 (fun z => by rw [p6] at z; cases z) (fun _ => by rw [ex]; exact ⟨e88.1, e88.2, (f88 522 (by decide)).trans t3, (f88 523 (by decide)).trans (by rw [t4, ex])⟩)
    refine w_less ?_ (L21 _ h16 0 a3 rfl M16 (by omega) a3e R (by rw [a3e]; rfl) tf)
    exact ⟨Or.inr rfl, Or.inr rfl, Or.inl rfl, trivial⟩
  · have b6 := b2i_f.mp c6
    refine w_iconst d39_9 (by decide) ?_
    refine w_zreturn d39_10 (by decide) ?_
    exact kk h3 false a3 m3 R (fun _ => ⟨rfl, by rw [e3.2, b6]; rfl⟩) (fun z => by rw [← e3.1, b6] at z; cases z)
