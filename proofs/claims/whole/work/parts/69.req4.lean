/-! requests: rules, inputs, conditions -/
section DEFW
variable {S : Shp} {h h' : Hp} {a : Nat} {t : TgV} {tx : List Nat}
theorem DefC.setN {n : List Nat} (ok : Ok S h) (ha : sK S a = 2) (D : DefC S h a t tx) (hn : okN n) (m : Mo S (fun y => y = a) h h') (e : h' = sFL h 129 a (hd n)) : DefC S h' a (n, tgR t, tgW t, tgI t, tgC t, tgK t) tx := by
  obtain ⟨d1, d2, d3, d4, d5, d6, d7, d8, d9, o1, o2, o3, o4, o5, o6⟩ := D
  exact ⟨by rw [e, FL_sFL, if_pos ⟨rfl, rfl⟩]; rfl, by rw [e, FL_sFL, if_neg (by simp)]; exact d2, by rw [e]; exact d3, by rw [e, FL_sFL, if_neg (by simp)]; exact d4, by rw [e]; exact d5, by rw [e]; exact d6, by rw [e, FL_sFL, if_neg (by simp)]; exact d7, by rw [e]; exact d8, by rw [m.rb ok (kT139 ok ha) (ok.so.pT (by decide))]; exact d9, hn, o2, o3, o4, o5, o6⟩
theorem DefC.setW {n : List Nat} (ok : Ok S h) (ha : sK S a = 2) (D : DefC S h a t tx) (hn : okN n) (m : Mo S (fun y => y = a) h h') (e : h' = sFL h 132 a (hd n)) : DefC S h' a (tgN t, tgR t, n, tgI t, tgC t, tgK t) tx := by
  obtain ⟨d1, d2, d3, d4, d5, d6, d7, d8, d9, o1, o2, o3, o4, o5, o6⟩ := D
  exact ⟨by rw [e, FL_sFL, if_neg (by simp)]; exact d1, by rw [e, FL_sFL, if_neg (by simp)]; exact d2, by rw [e]; exact d3, by rw [e, FL_sFL, if_pos ⟨rfl, rfl⟩]; rfl, by rw [e]; exact d5, by rw [e]; exact d6, by rw [e, FL_sFL, if_neg (by simp)]; exact d7, by rw [e]; exact d8, by rw [m.rb ok (kT139 ok ha) (ok.so.pT (by decide))]; exact d9, o1, o2, hn, o4, o5, o6⟩
theorem DefC.setC {n : List Nat} (ok : Ok S h) (ha : sK S a = 2) (D : DefC S h a t tx) (hn : okN n) (m : Mo S (fun y => y = a) h h') (e : h' = sFL h 137 a (hd n)) : DefC S h' a (tgN t, tgR t, tgW t, tgI t, n, tgK t) tx := by
  obtain ⟨d1, d2, d3, d4, d5, d6, d7, d8, d9, o1, o2, o3, o4, o5, o6⟩ := D
  exact ⟨by rw [e, FL_sFL, if_neg (by simp)]; exact d1, by rw [e, FL_sFL, if_neg (by simp)]; exact d2, by rw [e]; exact d3, by rw [e, FL_sFL, if_neg (by simp)]; exact d4, by rw [e]; exact d5, by rw [e]; exact d6, by rw [e, FL_sFL, if_pos ⟨rfl, rfl⟩]; rfl, by rw [e]; exact d8, by rw [m.rb ok (kT139 ok ha) (ok.so.pT (by decide))]; exact d9, o1, o2, o3, o4, hn, o6⟩
theorem DefC.setK {n : Nat} (ok : Ok S h) (ha : sK S a = 2) (D : DefC S h a t tx) (hn : n ≤ 9999) (m : Mo S (fun y => y = a) h h') (e : h' = sFI h 138 a (n : Nat)) : DefC S h' a (tgN t, tgR t, tgW t, tgI t, tgC t, n) tx := by
  obtain ⟨d1, d2, d3, d4, d5, d6, d7, d8, d9, o1, o2, o3, o4, o5, o6⟩ := D
  exact ⟨by rw [e]; exact d1, by rw [e]; exact d2, by rw [e, FI_sFI, if_neg (by simp)]; exact d3, by rw [e]; exact d4, by rw [e, FI_sFI, if_neg (by simp)]; exact d5, by rw [e]; exact d6, by rw [e]; exact d7, by rw [e, FI_sFI, if_pos ⟨rfl, rfl⟩]; rfl, by rw [m.rb ok (kT139 ok ha) (ok.so.pT (by decide))]; exact d9, o1, o2, o3, o4, o5, hn⟩
theorem DefC.setR {n : List Nat} (ok : Ok S h) (ha : sK S a = 2) (D : DefC S h a t tx) (hn : okN n) (m : Mo S (fun y => y = a) h h') (e1 : FL h' 130 a = hd n) (e2 : FI h' 131 a = rixJ (hd n) 8) (e3 : ∀ f, f ≠ 130 → FL h' f a = FL h f a) (e4 : ∀ f, f ≠ 131 → FI h' f a = FI h f a) : DefC S h' a (tgN t, n, tgW t, tgI t, tgC t, tgK t) tx := by
  obtain ⟨d1, d2, d3, d4, d5, d6, d7, d8, d9, o1, o2, o3, o4, o5, o6⟩ := D
  have k4 := kT134 ok ha
  have k5 := kT135 ok ha
  have k6 := kT136 ok ha
  refine ⟨by rw [e3 129 (by decide)]; exact d1, e1, by rw [e2, rixJ_eq hn 8 (Nat.le_refl _)]; rfl, by rw [e3 132 (by decide)]; exact d4, by rw [e4 133 (by decide)]; exact d5, ?_, by rw [e3 137 (by decide)]; exact d7, by rw [e4 138 (by decide)]; exact d8, by rw [m.rb ok (kT139 ok ha) (ok.so.pT (by decide))]; exact d9, o1, hn, o3, o4, o5, o6⟩
  rw [m.ai ok (by omega) (ok.so.pT (by decide)), m.al ok (by omega) (ok.so.pT (by decide)), m.al ok (by omega) (ok.so.pT (by decide))]
  exact d6
end DEFW
theorem SOk.pTT {S : Shp} (so : SOk S) {f g a : Nat} (hf : f < 4096) (hg : g < 4096) (h : f ≠ g) : sT S f a ≠ sT S g a := fun z => h ((so.inj hf hg).mp z).1
/-- a rule: right, where it ends, its name and word -/
def pRule (l : List Nat) (a : Nat) : Bool × Nat × List Nat × List Nat :=
  if pWord l 8 48 a = true then (if pSign l 46 (wordE l a 8 48) = true then (pWord l 8 48 (wordE l a 8 48 + 1), wordE l (wordE l a 8 48 + 1) 8 48, sl l a (wordE l a 8 48), sl l (wordE l a 8 48 + 1) (wordE l (wordE l a 8 48 + 1) 8 48)) else (true, wordE l a 8 48, sl l a (wordE l a 8 48), [])) else (false, a, [], [])
def pIn (l : List Nat) (a : Nat) : Bool × Nat × InV :=
  if pSign l 58 a = true then (pWord l 8 48 (a + 1), wordE l (a + 1) 8 48, (true, sl l (a + 1) (wordE l (a + 1) 8 48))) else (pWord l 12 46 a, wordE l a 12 46, (false, sl l a (wordE l a 12 46)))
theorem pWord_f {l : List Nat} {m lo a : Nat} (h : pWord l m lo a = false) : wordE l a m lo = a := by
  have := of_decide_eq_false h
  omega
theorem d43_0 : dc 43 0 = some (.aload_n 0, 1) := by decide +kernel
theorem d43_1 : dc 43 1 = some (.iconst 0, 2) := by decide +kernel
theorem d43_2 : dc 43 2 = some (.putfield 519, 5) := by decide +kernel
theorem d43_5 : dc 43 5 = some (.aload_n 0, 6) := by decide +kernel
theorem d43_6 : dc 43 6 = some (.invokevirtual 30, 9) := by decide +kernel
theorem d43_9 : dc 43 9 = some (.ifCond .ne ((14 : Nat) : Int), 12) := by decide +kernel
theorem d43_12 : dc 43 12 = some (.iconst 0, 13) := by decide +kernel
theorem d43_13 : dc 43 13 = some (.freturn, 14) := by decide +kernel
theorem d43_14 : dc 43 14 = some (.aload_n 0, 15) := by decide +kernel
theorem d43_15 : dc 43 15 = some (.dload 524, 18) := by decide +kernel
theorem d43_18 : dc 43 18 = some (.aload_n 0, 19) := by decide +kernel
theorem d43_19 : dc 43 19 = some (.dload 517, 22) := by decide +kernel
theorem d43_22 : dc 43 22 = some (.iconst 0, 23) := by decide +kernel
theorem d43_23 : dc 43 23 = some (.laload, 24) := by decide +kernel
theorem d43_24 : dc 43 24 = some (.invokevirtual 44, 27) := by decide +kernel
theorem d43_27 : dc 43 27 = some (.aload_n 0, 28) := by decide +kernel
theorem d43_28 : dc 43 28 = some (.dload 512, 31) := by decide +kernel
theorem d43_31 : dc 43 31 = some (.aload_n 0, 32) := by decide +kernel
theorem d43_32 : dc 43 32 = some (.getfield 516, 35) := by decide +kernel
theorem d43_35 : dc 43 35 = some (.invokevirtual 23, 38) := by decide +kernel
theorem d43_38 : dc 43 38 = some (.bipush 46, 40) := by decide +kernel
theorem d43_40 : dc 43 40 = some (.if_icmp .eq ((45 : Nat) : Int), 43) := by decide +kernel
theorem d43_43 : dc 43 43 = some (.iconst 1, 44) := by decide +kernel
theorem d43_44 : dc 43 44 = some (.freturn, 45) := by decide +kernel
theorem d43_45 : dc 43 45 = some (.aload_n 0, 46) := by decide +kernel
theorem d43_46 : dc 43 46 = some (.dup, 47) := by decide +kernel
theorem d43_47 : dc 43 47 = some (.getfield 516, 50) := by decide +kernel
theorem d43_50 : dc 43 50 = some (.iconst 1, 51) := by decide +kernel
theorem d43_51 : dc 43 51 = some (.iadd, 52) := by decide +kernel
theorem d43_52 : dc 43 52 = some (.putfield 516, 55) := by decide +kernel
theorem d43_55 : dc 43 55 = some (.aload_n 0, 56) := by decide +kernel
theorem d43_56 : dc 43 56 = some (.iconst 0, 57) := by decide +kernel
theorem d43_57 : dc 43 57 = some (.putfield 519, 60) := by decide +kernel
theorem d43_60 : dc 43 60 = some (.aload_n 0, 61) := by decide +kernel
theorem d43_61 : dc 43 61 = some (.invokevirtual 30, 64) := by decide +kernel
theorem d43_64 : dc 43 64 = some (.ifCond .ne ((69 : Nat) : Int), 67) := by decide +kernel
theorem d43_67 : dc 43 67 = some (.iconst 0, 68) := by decide +kernel
theorem d43_68 : dc 43 68 = some (.freturn, 69) := by decide +kernel
theorem d43_69 : dc 43 69 = some (.aload_n 0, 70) := by decide +kernel
theorem d43_70 : dc 43 70 = some (.dload 524, 73) := by decide +kernel
theorem d43_73 : dc 43 73 = some (.aload_n 0, 74) := by decide +kernel
theorem d43_74 : dc 43 74 = some (.dload 517, 77) := by decide +kernel
theorem d43_77 : dc 43 77 = some (.iconst 0, 78) := by decide +kernel
theorem d43_78 : dc 43 78 = some (.laload, 79) := by decide +kernel
theorem d43_79 : dc 43 79 = some (.fstore 132, 82) := by decide +kernel
theorem d43_82 : dc 43 82 = some (.iconst 1, 83) := by decide +kernel
theorem d43_83 : dc 43 83 = some (.freturn, 84) := by decide +kernel
theorem k_Rq_readRule {S : Shp} {G : Nat → Option Nat} {d : Nat} {h : Hp} {Q : Option MV → Hp → Prop} {q : Nat}  (ok : Ok S h) (h1 : 5 ≤ d) (hq : sK S q = 5) {vb : Option Nat} {l : List Nat} {a : Nat} {ws : List (List Nat)} {ns : List Nat} (R : RqC S h q l a ws ns vb) {t : TgV} {tx : List Nat} (tg : Tg S G) (D : DefC S h (sT S 524 q) t tx) (hW : tgW t = [])
    (kk : ∀ h' v a' ws', Mo S (fun x => x = q ∨ x = (sT S 517 q) ∨ x = (sT S 518 q) ∨ x = (sT S 520 q) ∨ x = (sT S 524 q)) h h' → RqC S h' q l a' ws' ns vb → (v = (pRule l a).1 ∧ a' = (pRule l a).2.1) → (v = true → DefC S h' (sT S 524 q) (tgN t, (pRule l a).2.2.1, (pRule l a).2.2.2, tgI t, tgC t, tgK t) tx) → Q (some (vI (b2i v))) h') : Cl G d 43 [vR (some q)] h Q := by
  show Wp G d 43 0 [some (vR (some q))] [] h Q
  have nT : ∀ f, f < 4096 → sT S f q ≠ q := fun f hf => ok.so.pT hf
  have kD := kT524 ok hq
  have nTT : ∀ f, f < 4096 → f ≠ 524 → sT S f q ≠ sT S 524 q := fun f hf hn => ok.so.pTT hf (by decide) hn
  have uD : ∀ y, U S (sT S 524 q) y → ¬ rqA S q y := fun y u => rqA_U ok.so (by decide) (by decide) (by decide) (by decide) u
  have uq : ∀ y, U S (sT S 524 q) y → ¬ y = q := fun y u z => uD y u (Or.inl z)
  refine w_aload_n d43_0 rfl ?_
  refine w_iconst d43_1 (by decide) ?_
  refine wf519 d43_2 ok hq (by omega) (fun h2 e2 m2 => ?_)
  have ok2 := m2.ok
  have M2 := Mo.tr ok (Mo.refl (A := (fun x => x = q ∨ x = (sT S 517 q) ∨ x = (sT S 518 q) ∨ x = (sT S 520 q) ∨ x = (sT S 524 q))) ok) m2 (fun x e => (Or.inl e))
  have R := R.w0 ok hq e2 m2
  have D := D.mo ok m2 kD uq
  have r4 := R.2.2.2.1
  have er := wordE_rg (m := 8) (lo := 48) r4
  have wo := word_ok (m := 8) (lo := 48) r4 (by decide)
  refine w_aload_n d43_5 rfl ?_
  refine w_callv1 d43_6 (by omega) rfl (ok2.kd hq) (by simp) (Nat.le_of_ble_eq_true rfl) ?_
  refine k_Rq_readName ok2 (by omega) hq R (fun h6 v6 a6 m6 e6 R => ?_)
  have ok6 := m6.ok
  have M6 := Mo.tr ok M2 m6 (fun x q => q.elim ((fun x e => (Or.inl e)) x) ((fun x q => q.elim ((fun x e => (Or.inr (Or.inl e))) x) ((fun x q => q.elim ((fun x e => (Or.inr (Or.inr (Or.inl e)))) x) ((fun x e => (Or.inr (Or.inr (Or.inr (Or.inl e))))) x)) x)) x))
  refine w_ifne d43_9 (fun c9 => ?_) (fun c9 => ?_)
  · have b9 := b2i_nz c9
    have p9 : pWord l 8 48 a = true := by rw [← e6.1]; exact b9
    have a6e : a6 = wordE l a 8 48 := e6.2
    have D := D.mo ok2 m6 kD uD
    rw [if_pos b9] at R
    have h0 := (R.2.2.2.2.2.2.1 0 (by simp [wPush])).1
    refine w_aload_n d43_14 rfl ?_
    refine w_dloadS d43_15 (ok6.kd hq) (fr524 ok6 hq) ?_
    refine w_aload_n d43_18 rfl ?_
    refine w_dloadS d43_19 (ok6.kd hq) (fr517 ok6 hq) ?_
    refine w_iconst d43_22 (by decide) ?_
    refine w_laloadV (x := (hd (sl l a a6))) d43_23 (gi517 ok6 hq (by omega)) h0 ?_
    refine w_callv2 d43_24 (by omega) rfl (ok6.kd (kT524 ok6 hq)) (by simp) (Nat.le_of_ble_eq_true rfl) ?_
    refine k_Def_setRule (x := hd (sl l a a6)) ok6 (by omega) (kT524 ok6 hq) tg (fun h24 m24 f1 f2 f3 f4 => ?_)
    have ok24 := m24.ok
    have M24 := Mo.tr ok M6 m24 (fun x e => (Or.inr (Or.inr (Or.inr (Or.inr e)))))
    have won : okN (sl l a a6) := a6e ▸ wo
    have D := D.setR ok6 kD won m24 f1 f2 f3 f4
    have R := R.fr ok6 m24 hq (ok.so.pT (by decide)).symm (fun f hf => nTT f (by omega) (by omega))
    refine w_aload_n d43_27 rfl ?_
    refine w_dloadS d43_28 (ok24.kd hq) (fr512 ok24 hq) ?_
    refine w_aload_n d43_31 rfl ?_
    refine w_getI (x := ((a6 : Nat) : Int)) d43_32 (ok24.kd hq) R.2.2.1 ?_
    refine w_callv2 d43_35 (by omega) rfl (ok24.kd (kT512 ok24 hq)) (by simp) (Nat.le_of_ble_eq_true rfl) ?_
    refine r_Row_at ok24 (kT512 ok24 hq) ?_
    rw [R.1]
    have va : (a6 < l.length ∧ atv l ((a6 : Nat) : Int) = (l.getD a6 0 : Nat)) ∨ (¬ a6 < l.length ∧ atv l ((a6 : Nat) : Int) = -1) := by
      by_cases c : a6 < l.length
      · exact Or.inl ⟨c, atvN c⟩
      · refine Or.inr ⟨c, ?_⟩; unfold atv; rw [if_neg (by omega)]
    refine w_bipush d43_38 (by decide) ?_
    refine w_icmpeq d43_40 (fun c40 => ?_) (fun c40 => ?_)
    · have p40 : pSign l 46 a6 = true := decide_eq_true ⟨by omega, by omega⟩
      have r44 := R.2.2.2.1
      have r2 := R.2.1
      refine w_aload_n d43_45 rfl ?_
      refine w_dupR d43_46 ?_
      refine w_getI (x := ((a6 : Nat) : Int)) d43_47 (ok24.kd hq) R.2.2.1 ?_
      refine w_iconst d43_50 (by decide) ?_
      refine w_iadd d43_51 (by constructor <;> omega) ?_
      refine wf516 d43_52 ok24 hq (by omega) (fun h52 e52 m52 => ?_)
      have ok52 := m52.ok
      have M52 := Mo.tr ok M24 m52 (fun x e => (Or.inl e))
      have R := R.at ok24 hq (b := a6 + 1) e52 m52 ⟨by omega, by omega⟩
      have D := D.mo ok24 m52 kD uq
      refine w_aload_n d43_55 rfl ?_
      refine w_iconst d43_56 (by decide) ?_
      refine wf519 d43_57 ok52 hq (by omega) (fun h57 e57 m57 => ?_)
      have ok57 := m57.ok
      have M57 := Mo.tr ok M52 m57 (fun x e => (Or.inl e))
      have R := R.w0 ok52 hq e57 m57
      have D := D.mo ok52 m57 kD uq
      have r48 := R.2.2.2.1
      have er2 := wordE_rg (m := 8) (lo := 48) r48
      have wo2 := word_ok (m := 8) (lo := 48) r48 (by decide)
      refine w_aload_n d43_60 rfl ?_
      refine w_callv1 d43_61 (by omega) rfl (ok57.kd hq) (by simp) (Nat.le_of_ble_eq_true rfl) ?_
      refine k_Rq_readName ok57 (by omega) hq R (fun h61 v61 a61 m61 e61 R => ?_)
      have ok61 := m61.ok
      have M61 := Mo.tr ok M57 m61 (fun x q => q.elim ((fun x e => (Or.inl e)) x) ((fun x q => q.elim ((fun x e => (Or.inr (Or.inl e))) x) ((fun x q => q.elim ((fun x e => (Or.inr (Or.inr (Or.inl e)))) x) ((fun x e => (Or.inr (Or.inr (Or.inr (Or.inl e))))) x)) x)) x))
      refine w_ifne d43_64 (fun c64 => ?_) (fun c64 => ?_)
      · have b64 := b2i_nz c64
        have p64 : pWord l 8 48 (a6 + 1) = true := by rw [← e61.1]; exact b64
        have a61e : a61 = wordE l (a6 + 1) 8 48 := e61.2
        have D := D.mo ok57 m61 kD uD
        rw [if_pos b64] at R
        have h0b := (R.2.2.2.2.2.2.1 0 (by simp [wPush])).1
        refine w_aload_n d43_69 rfl ?_
        refine w_dloadS d43_70 (ok61.kd hq) (fr524 ok61 hq) ?_
        refine w_aload_n d43_73 rfl ?_
        refine w_dloadS d43_74 (ok61.kd hq) (fr517 ok61 hq) ?_
        refine w_iconst d43_77 (by decide) ?_
        refine w_laloadV (x := (hd (sl l (a6 + 1) a61))) d43_78 (gi517 ok61 hq (by omega)) h0b ?_
        refine wf132 d43_79 ok61 (kT524 ok61 hq) (fun h79 e79 m79 => ?_)
        have ok79 := m79.ok
        have M79 := Mo.tr ok M61 m79 (fun x e => (Or.inr (Or.inr (Or.inr (Or.inr e)))))
        have won2 : okN (sl l (a6 + 1) a61) := a61e ▸ wo2
        have D := D.setW ok61 kD won2 m79 e79
        have R := R.fr ok61 m79 hq (ok.so.pT (by decide)).symm (fun f hf => nTT f (by omega) (by omega))
        refine w_iconst d43_82 (by decide) ?_
        refine w_zreturn d43_83 (by decide) ?_
        have ez : pRule l a = (true, a61, sl l a a6, sl l (a6 + 1) a61) := by unfold pRule; rw [← a6e, if_pos p9, if_pos p40, p64, ← a61e]
        refine kk h79 true a61 _ M79 R ⟨by rw [ez], by rw [ez]⟩ (fun _ => ?_)
        rw [ez]
        exact D
      · have b64 := b2i_f.mp c64
        have p64 : pWord l 8 48 (a6 + 1) = false := by rw [← e61.1]; exact b64
        refine w_iconst d43_67 (by decide) ?_
        refine w_zreturn d43_68 (by decide) ?_
        have ez : pRule l a = (false, a61, sl l a a6, sl l (a6 + 1) a61) := by unfold pRule; rw [← a6e, if_pos p9, if_pos p40, p64, ← e61.2]
        exact kk h61 false a61 _ M61 R ⟨by rw [ez], by rw [ez]⟩ (fun z => by cases z)
    · have p40 : pSign l 46 a6 = false := decide_eq_false (fun z => by omega)
      refine w_iconst d43_43 (by decide) ?_
      refine w_zreturn d43_44 (by decide) ?_
      have ez : pRule l a = (true, a6, sl l a a6, []) := by unfold pRule; rw [← a6e, if_pos p9, if_neg (by rw [p40]; decide)]
      refine kk h24 true a6 _ M24 R ⟨by rw [ez], by rw [ez]⟩ (fun _ => ?_)
      rw [ez]
      rw [hW] at D
      exact D
  · have b9 := b2i_f.mp c9
    have p9 : pWord l 8 48 a = false := by rw [← e6.1]; exact b9
    refine w_iconst d43_12 (by decide) ?_
    refine w_zreturn d43_13 (by decide) ?_
    have ez : pRule l a = (false, a, [], []) := by unfold pRule; rw [if_neg (by rw [p9]; decide)]
    exact kk h6 false a6 _ M6 R ⟨by rw [ez], by rw [ez, e6.2]; exact pWord_f p9⟩ (fun z => by cases z)
theorem d45_0 : dc 45 0 = some (.aload_n 0, 1) := by decide +kernel
theorem d45_1 : dc 45 1 = some (.iconst 0, 2) := by decide +kernel
theorem d45_2 : dc 45 2 = some (.putfield 519, 5) := by decide +kernel
theorem d45_5 : dc 45 5 = some (.aload_n 0, 6) := by decide +kernel
theorem d45_6 : dc 45 6 = some (.bipush 58, 8) := by decide +kernel
theorem d45_8 : dc 45 8 = some (.invokevirtual 40, 11) := by decide +kernel
theorem d45_11 : dc 45 11 = some (.istore_n 1, 12) := by decide +kernel
theorem d45_12 : dc 45 12 = some (.iload_n 1, 13) := by decide +kernel
theorem d45_13 : dc 45 13 = some (.ifCond .eq ((26 : Nat) : Int), 16) := by decide +kernel
theorem d45_16 : dc 45 16 = some (.aload_n 0, 17) := by decide +kernel
theorem d45_17 : dc 45 17 = some (.invokevirtual 30, 20) := by decide +kernel
theorem d45_20 : dc 45 20 = some (.ifCond .ne ((35 : Nat) : Int), 23) := by decide +kernel
theorem d45_23 : dc 45 23 = some (.goto ((33 : Nat) : Int), 26) := by decide +kernel
theorem d45_26 : dc 45 26 = some (.aload_n 0, 27) := by decide +kernel
theorem d45_27 : dc 45 27 = some (.invokevirtual 34, 30) := by decide +kernel
theorem d45_30 : dc 45 30 = some (.ifCond .ne ((35 : Nat) : Int), 33) := by decide +kernel
theorem d45_33 : dc 45 33 = some (.iconst 0, 34) := by decide +kernel
theorem d45_34 : dc 45 34 = some (.freturn, 35) := by decide +kernel
theorem d45_35 : dc 45 35 = some (.aload_n 0, 36) := by decide +kernel
theorem d45_36 : dc 45 36 = some (.dload 524, 39) := by decide +kernel
theorem d45_39 : dc 45 39 = some (.iload_n 1, 40) := by decide +kernel
theorem d45_40 : dc 45 40 = some (.aload_n 0, 41) := by decide +kernel
theorem d45_41 : dc 45 41 = some (.dload 517, 44) := by decide +kernel
theorem d45_44 : dc 45 44 = some (.iconst 0, 45) := by decide +kernel
theorem d45_45 : dc 45 45 = some (.laload, 46) := by decide +kernel
theorem d45_46 : dc 45 46 = some (.aload_n 0, 47) := by decide +kernel
theorem d45_47 : dc 45 47 = some (.dload 518, 50) := by decide +kernel
theorem d45_50 : dc 45 50 = some (.iconst 0, 51) := by decide +kernel
theorem d45_51 : dc 45 51 = some (.laload, 52) := by decide +kernel
theorem d45_52 : dc 45 52 = some (.invokevirtual 46, 55) := by decide +kernel
theorem d45_55 : dc 45 55 = some (.iconst 1, 56) := by decide +kernel
theorem d45_56 : dc 45 56 = some (.freturn, 57) := by decide +kernel
theorem k_Rq_readInput {S : Shp} {G : Nat → Option Nat} {d : Nat} {h : Hp} {Q : Option MV → Hp → Prop} {q : Nat}  (ok : Ok S h) (h1 : 3 ≤ d) (hq : sK S q = 5) {vb : Option Nat} {l : List Nat} {a : Nat} {ws : List (List Nat)} {ns : List Nat} (R : RqC S h q l a ws ns vb) {t : TgV} {tx : List Nat} (D : DefC S h (sT S 524 q) t tx) (hl : (tgI t).length < 6)
    (kk : ∀ h' v a' ws', Mo S (fun x => U S q x) h h' → RqC S h' q l a' ws' ns vb → (v = (pIn l a).1 ∧ a' = (pIn l a).2.1) → (v = true → DefC S h' (sT S 524 q) (tgN t, tgR t, tgW t, tgI t ++ [(pIn l a).2.2], tgC t, tgK t) tx) → Q (some (vI (b2i v))) h') : Cl G d 45 [vR (some q)] h Q := by
  show Wp G d 45 0 [some (vR (some q)), none] [] h Q
  have nT : ∀ f, f < 4096 → sT S f q ≠ q := fun f hf => ok.so.pT hf
  have kD := kT524 ok hq
  have nTT : ∀ f, f < 4096 → f ≠ 524 → sT S f q ≠ sT S 524 q := fun f hf hn => ok.so.pTT hf (by decide) hn
  have uD : ∀ y, U S (sT S 524 q) y → ¬ rqA S q y := fun y u => rqA_U ok.so (by decide) (by decide) (by decide) (by decide) u
  have uq : ∀ y, U S (sT S 524 q) y → ¬ y = q := fun y u z => uD y u (Or.inl z)
  have uA : ∀ f, f < 4096 → f ≠ 524 → ¬ U S (sT S 524 q) (sT S f q) := fun f hf hn u => by
    rcases (ok.so.U_T hf).mp u with z | z
    · exact hn ((ok.so.inj (by decide) hf).mp z).1.symm
    · have := ok.so.uLe z; have := ok.so.ltT (f := 524) (a := q) (by decide); omega
  have uAq : ¬ U S (sT S 524 q) q := fun u => by have := ok.so.uLe u; have := ok.so.ltT (f := 524) (a := q) (by decide); omega
  refine w_aload_n d45_0 rfl ?_
  refine w_iconst d45_1 (by decide) ?_
  refine wf519 d45_2 ok hq (by omega) (fun h2 e2 m2 => ?_)
  have ok2 := m2.ok
  have M2 := Mo.tr ok (Mo.refl (A := (fun x => U S q x)) ok) m2 (fun x e => (e ▸ U_refl))
  have R := R.w0 ok hq e2 m2
  have D := D.mo ok m2 kD uq
  refine w_aload_n d45_5 rfl ?_
  refine w_bipush d45_6 (by decide) ?_
  refine w_callv2 d45_8 (by omega) rfl (ok2.kd hq) (by simp) (Nat.le_of_ble_eq_true rfl) ?_
  refine k_Rq_readSign (c := 58) ok2 (by omega) hq R (fun h8 v8 a8 m8 R e8 => ?_)
  have ok8 := m8.ok
  have M8 := Mo.tr ok M2 m8 (fun x e => (e ▸ U_refl))
  have D := D.mo ok2 m8 kD uq
  have r4 := R.2.2.2.1
  refine w_istore1 d45_11 rfl ?_
  refine w_iload_n d45_12 rfl ?_
  refine w_ifeq d45_13 (fun c13 => ?_) (fun c13 => ?_)
  · have b13 := b2i_f.mp c13
    have p13 : pSign l 58 a = false := by rw [← e8.1]; exact b13
    have a8e : a8 = a := by rw [e8.2, b13]; rfl
    have wo := word_ok (m := 12) (lo := 46) r4 (by decide)
    have ez : pIn l a = (pWord l 12 46 a8, wordE l a8 12 46, (false, sl l a8 (wordE l a8 12 46))) := by unfold pIn; rw [if_neg (by rw [p13]; decide), a8e]
    refine w_aload_n d45_26 rfl ?_
    refine w_callv1 d45_27 (by omega) rfl (ok8.kd hq) (by simp) (Nat.le_of_ble_eq_true rfl) ?_
    refine k_Rq_readPath ok8 (by omega) hq R (fun h27 v27 a27 m27 e27 R => ?_)
    have ok27 := m27.ok
    have M27 := Mo.tr ok M8 m27 (fun x q => q.elim ((fun x e => (e ▸ U_refl)) x) ((fun x q => q.elim ((fun x e => (e ▸ (ok.so.uT (by decide) U_refl))) x) ((fun x q => q.elim ((fun x e => (e ▸ (ok.so.uT (by decide) U_refl))) x) ((fun x e => (e ▸ (ok.so.uT (by decide) U_refl))) x)) x)) x))
    have a27e : a27 = wordE l a8 12 46 := e27.2
    have D := D.mo ok8 m27 kD uD
    refine w_ifne d45_30 (fun c30 => ?_) (fun c30 => ?_)
    · have bb := b2i_nz c30
      rw [if_pos bb] at R
      obtain ⟨g1, g2, g3⟩ := R.2.2.2.2.2.2.1 0 (by simp [wPush])
      refine w_aload_n d45_35 rfl ?_
      refine w_dloadS d45_36 (ok27.kd hq) (fr524 ok27 hq) ?_
      refine w_iload_n d45_39 rfl ?_
      refine w_aload_n d45_40 rfl ?_
      refine w_dloadS d45_41 (ok27.kd hq) (fr517 ok27 hq) ?_
      refine w_iconst d45_44 (by decide) ?_
      refine w_laloadV (x := (hd (sl l a8 a27))) d45_45 (gi517 ok27 hq (by omega)) g1 ?_
      refine w_aload_n d45_46 rfl ?_
      refine w_dloadS d45_47 (ok27.kd hq) (fr518 ok27 hq) ?_
      refine w_iconst d45_50 (by decide) ?_
      refine w_laloadV (x := (tl (sl l a8 a27))) d45_51 (gi518 ok27 hq (by omega)) g2 ?_
      refine w_callv4 d45_52 (by omega) rfl (ok27.kd (kT524 ok27 hq)) (by simp) (Nat.le_of_ble_eq_true rfl) ?_
      refine k_Def_addInput (b := false) (n := sl l a8 a27) ok27 (by omega) (kT524 ok27 hq) D hl (by rw [b13]) g3 (fun z => by cases z) rfl rfl (fun h52 m52 f1 f2 => ?_)
      have ok52 := m52.ok
      have M52 := Mo.tr ok M27 m52 (fun x u => (U_trans (ok.so.uT (by decide) U_refl) u))
      have R := R.fr ok27 m52 hq uAq (fun f hf => uA f (by omega) (by omega))
      refine w_iconst d45_55 (by decide) ?_
      refine w_zreturn d45_56 (by decide) ?_
      refine kk h52 true a27 _ M52 R ⟨by rw [ez, ← e27.1, bb], by rw [ez]; exact e27.2⟩ (fun _ => ?_)
      rw [ez]
      rw [← e27.2]
      exact f1
    · have bb := b2i_f.mp c30
      have av := e27.1
      have av2 := e27.2
      refine w_iconst d45_33 (by decide) ?_
      refine w_zreturn d45_34 (by decide) ?_
      exact kk _ false _ _ (by assumption) R ⟨by rw [ez, ← av, bb], by rw [ez, ← av2]⟩ (fun z => by cases z)
  · have b13 := b2i_nz c13
    have p13 : pSign l 58 a = true := by rw [← e8.1]; exact b13
    have a8e : a8 = a + 1 := by rw [e8.2, b13]; rfl
    have wo := word_ok (m := 8) (lo := 48) r4 (by decide)
    have ez : pIn l a = (pWord l 8 48 a8, wordE l a8 8 48, (true, sl l a8 (wordE l a8 8 48))) := by unfold pIn; rw [if_pos p13, a8e]
    refine w_aload_n d45_16 rfl ?_
    refine w_callv1 d45_17 (by omega) rfl (ok8.kd hq) (by simp) (Nat.le_of_ble_eq_true rfl) ?_
    refine k_Rq_readName ok8 (by omega) hq R (fun h17 v17 a17 m17 e17 R => ?_)
    have ok17 := m17.ok
    have M17 := Mo.tr ok M8 m17 (fun x q => q.elim ((fun x e => (e ▸ U_refl)) x) ((fun x q => q.elim ((fun x e => (e ▸ (ok.so.uT (by decide) U_refl))) x) ((fun x q => q.elim ((fun x e => (e ▸ (ok.so.uT (by decide) U_refl))) x) ((fun x e => (e ▸ (ok.so.uT (by decide) U_refl))) x)) x)) x))
    have a17e : a17 = wordE l a8 8 48 := e17.2
    have D := D.mo ok8 m17 kD uD
    refine w_ifne d45_20 (fun c20 => ?_) (fun c20 => ?_)
    · have bb := b2i_nz c20
      rw [if_pos bb] at R
      obtain ⟨g1, g2, g3⟩ := R.2.2.2.2.2.2.1 0 (by simp [wPush])
      refine w_aload_n d45_35 rfl ?_
      refine w_dloadS d45_36 (ok17.kd hq) (fr524 ok17 hq) ?_
      refine w_iload_n d45_39 rfl ?_
      refine w_aload_n d45_40 rfl ?_
      refine w_dloadS d45_41 (ok17.kd hq) (fr517 ok17 hq) ?_
      refine w_iconst d45_44 (by decide) ?_
      refine w_laloadV (x := (hd (sl l a8 a17))) d45_45 (gi517 ok17 hq (by omega)) g1 ?_
      refine w_aload_n d45_46 rfl ?_
      refine w_dloadS d45_47 (ok17.kd hq) (fr518 ok17 hq) ?_
      refine w_iconst d45_50 (by decide) ?_
      refine w_laloadV (x := (tl (sl l a8 a17))) d45_51 (gi518 ok17 hq (by omega)) g2 ?_
      refine w_callv4 d45_52 (by omega) rfl (ok17.kd (kT524 ok17 hq)) (by simp) (Nat.le_of_ble_eq_true rfl) ?_
      refine k_Def_addInput (b := true) (n := sl l a8 a17) ok17 (by omega) (kT524 ok17 hq) D hl (by rw [b13]) g3 (fun _ => a17e ▸ wo) rfl rfl (fun h52 m52 f1 f2 => ?_)
      have ok52 := m52.ok
      have M52 := Mo.tr ok M17 m52 (fun x u => (U_trans (ok.so.uT (by decide) U_refl) u))
      have R := R.fr ok17 m52 hq uAq (fun f hf => uA f (by omega) (by omega))
      refine w_iconst d45_55 (by decide) ?_
      refine w_zreturn d45_56 (by decide) ?_
      refine kk h52 true a17 _ M52 R ⟨by rw [ez, ← e17.1, bb], by rw [ez]; exact e17.2⟩ (fun _ => ?_)
      rw [ez]
      rw [← e17.2]
      exact f1
    · have bb := b2i_f.mp c20
      have av := e17.1
      have av2 := e17.2
      refine w_goto d45_23 ?_
      refine w_iconst d45_33 (by decide) ?_
      refine w_zreturn d45_34 (by decide) ?_
      exact kk _ false _ _ (by assumption) R ⟨by rw [ez, ← av, bb], by rw [ez, ← av2]⟩ (fun z => by cases z)
/-- a condition from behind its ? on -/
def pCond (l : List Nat) (a : Nat) : Bool × Nat × List Nat × Nat :=
  if pWord l 8 48 a = true then (if pSign l 61 (wordE l a 8 48) = true then (pNum l (wordE l a 8 48 + 1), numE l (wordE l a 8 48 + 1), sl l a (wordE l a 8 48), numV (sl l (wordE l a 8 48 + 1) (numE l (wordE l a 8 48 + 1)))) else (false, wordE l a 8 48, [], 0)) else (false, a, [], 0)
theorem pNum_f {l : List Nat} {a : Nat} (h : pNum l a = false) : numE l a = a := by
  have := of_decide_eq_false h
  omega
theorem d47_0 : dc 47 0 = some (.aload_n 0, 1) := by decide +kernel
theorem d47_1 : dc 47 1 = some (.dup, 2) := by decide +kernel
theorem d47_2 : dc 47 2 = some (.getfield 516, 5) := by decide +kernel
theorem d47_5 : dc 47 5 = some (.iconst 1, 6) := by decide +kernel
theorem d47_6 : dc 47 6 = some (.iadd, 7) := by decide +kernel
theorem d47_7 : dc 47 7 = some (.putfield 516, 10) := by decide +kernel
theorem d47_10 : dc 47 10 = some (.aload_n 0, 11) := by decide +kernel
theorem d47_11 : dc 47 11 = some (.iconst 0, 12) := by decide +kernel
theorem d47_12 : dc 47 12 = some (.putfield 519, 15) := by decide +kernel
theorem d47_15 : dc 47 15 = some (.aload_n 0, 16) := by decide +kernel
theorem d47_16 : dc 47 16 = some (.invokevirtual 30, 19) := by decide +kernel
theorem d47_19 : dc 47 19 = some (.ifCond .eq ((38 : Nat) : Int), 22) := by decide +kernel
theorem d47_22 : dc 47 22 = some (.aload_n 0, 23) := by decide +kernel
theorem d47_23 : dc 47 23 = some (.bipush 61, 25) := by decide +kernel
theorem d47_25 : dc 47 25 = some (.invokevirtual 40, 28) := by decide +kernel
theorem d47_28 : dc 47 28 = some (.ifCond .eq ((38 : Nat) : Int), 31) := by decide +kernel
theorem d47_31 : dc 47 31 = some (.aload_n 0, 32) := by decide +kernel
theorem d47_32 : dc 47 32 = some (.invokevirtual 35, 35) := by decide +kernel
theorem d47_35 : dc 47 35 = some (.ifCond .ne ((40 : Nat) : Int), 38) := by decide +kernel
theorem d47_38 : dc 47 38 = some (.iconst 0, 39) := by decide +kernel
theorem d47_39 : dc 47 39 = some (.freturn, 40) := by decide +kernel
theorem d47_40 : dc 47 40 = some (.aload_n 0, 41) := by decide +kernel
theorem d47_41 : dc 47 41 = some (.dload 524, 44) := by decide +kernel
theorem d47_44 : dc 47 44 = some (.aload_n 0, 45) := by decide +kernel
theorem d47_45 : dc 47 45 = some (.dload 517, 48) := by decide +kernel
theorem d47_48 : dc 47 48 = some (.iconst 0, 49) := by decide +kernel
theorem d47_49 : dc 47 49 = some (.laload, 50) := by decide +kernel
theorem d47_50 : dc 47 50 = some (.fstore 137, 53) := by decide +kernel
theorem d47_53 : dc 47 53 = some (.aload_n 0, 54) := by decide +kernel
theorem d47_54 : dc 47 54 = some (.dload 524, 57) := by decide +kernel
theorem d47_57 : dc 47 57 = some (.aload_n 0, 58) := by decide +kernel
theorem d47_58 : dc 47 58 = some (.dload 520, 61) := by decide +kernel
theorem d47_61 : dc 47 61 = some (.iconst 0, 62) := by decide +kernel
theorem d47_62 : dc 47 62 = some (.iaload, 63) := by decide +kernel
theorem d47_63 : dc 47 63 = some (.putfield 138, 66) := by decide +kernel
theorem d47_66 : dc 47 66 = some (.iconst 1, 67) := by decide +kernel
theorem d47_67 : dc 47 67 = some (.freturn, 68) := by decide +kernel
theorem k_Rq_readCondition {S : Shp} {G : Nat → Option Nat} {d : Nat} {h : Hp} {Q : Option MV → Hp → Prop} {q : Nat}  (ok : Ok S h) (h1 : 3 ≤ d) (hq : sK S q = 5) {vb : Option Nat} {l : List Nat} {a : Nat} {ws : List (List Nat)} (R : RqC S h q l a ws [] vb) {t : TgV} {tx : List Nat} (D : DefC S h (sT S 524 q) t tx) (ha : a < l.length)
    (kk : ∀ h' v a' ws' ns', Mo S (fun x => x = q ∨ x = (sT S 517 q) ∨ x = (sT S 518 q) ∨ x = (sT S 520 q) ∨ x = (sT S 524 q)) h h' → RqC S h' q l a' ws' ns' vb → (v = (pCond l (a + 1)).1 ∧ a' = (pCond l (a + 1)).2.1) → (v = true → DefC S h' (sT S 524 q) (tgN t, tgR t, tgW t, tgI t, (pCond l (a + 1)).2.2.1, (pCond l (a + 1)).2.2.2) tx) → Q (some (vI (b2i v))) h') : Cl G d 47 [vR (some q)] h Q := by
  show Wp G d 47 0 [some (vR (some q))] [] h Q
  have nT : ∀ f, f < 4096 → sT S f q ≠ q := fun f hf => ok.so.pT hf
  have kD := kT524 ok hq
  have nTT : ∀ f, f < 4096 → f ≠ 524 → sT S f q ≠ sT S 524 q := fun f hf hn => ok.so.pTT hf (by decide) hn
  have uD : ∀ y, U S (sT S 524 q) y → ¬ rqA S q y := fun y u => rqA_U ok.so (by decide) (by decide) (by decide) (by decide) u
  have uq : ∀ y, U S (sT S 524 q) y → ¬ y = q := fun y u z => uD y u (Or.inl z)
  refine w_aload_n d47_0 rfl ?_
  refine w_dupR d47_1 ?_
  refine w_getI (x := ((a : Nat) : Int)) d47_2 (ok.kd hq) R.2.2.1 ?_
  have r2 := R.2.1
  refine w_iconst d47_5 (by decide) ?_
  refine w_iadd d47_6 (by constructor <;> omega) ?_
  refine wf516 d47_7 ok hq (by omega) (fun h7 e7 m7 => ?_)
  have ok7 := m7.ok
  have M7 := Mo.tr ok (Mo.refl (A := (fun x => x = q ∨ x = (sT S 517 q) ∨ x = (sT S 518 q) ∨ x = (sT S 520 q) ∨ x = (sT S 524 q))) ok) m7 (fun x e => (Or.inl e))
  have R := R.at ok hq (b := a + 1) e7 m7 ⟨by omega, by omega⟩
  have D := D.mo ok m7 kD uq
  refine w_aload_n d47_10 rfl ?_
  refine w_iconst d47_11 (by decide) ?_
  refine wf519 d47_12 ok7 hq (by omega) (fun h12 e12 m12 => ?_)
  have ok12 := m12.ok
  have M12 := Mo.tr ok M7 m12 (fun x e => (Or.inl e))
  have R := R.w0 ok7 hq e12 m12
  have D := D.mo ok7 m12 kD uq
  have r4 := R.2.2.2.1
  have er := wordE_rg (m := 8) (lo := 48) r4
  have wo := word_ok (m := 8) (lo := 48) r4 (by decide)
  refine w_aload_n d47_15 rfl ?_
  refine w_callv1 d47_16 (by omega) rfl (ok12.kd hq) (by simp) (Nat.le_of_ble_eq_true rfl) ?_
  refine k_Rq_readName ok12 (by omega) hq R (fun h16 v16 a16 m16 e16 R => ?_)
  have ok16 := m16.ok
  have M16 := Mo.tr ok M12 m16 (fun x q => q.elim ((fun x e => (Or.inl e)) x) ((fun x q => q.elim ((fun x e => (Or.inr (Or.inl e))) x) ((fun x q => q.elim ((fun x e => (Or.inr (Or.inr (Or.inl e)))) x) ((fun x e => (Or.inr (Or.inr (Or.inr (Or.inl e))))) x)) x)) x))
  refine w_ifeq d47_19 (fun c19 => ?_) (fun c19 => ?_)
  · have b19 := b2i_f.mp c19
    have p19 : pWord l 8 48 (a + 1) = false := by rw [← e16.1]; exact b19
    have ez : pCond l (a + 1) = (false, a + 1, [], 0) := by unfold pCond; rw [if_neg (by rw [p19]; decide)]
    have av : false = (pCond l (a + 1)).1 ∧ a16 = (pCond l (a + 1)).2.1 := ⟨by rw [ez], by rw [ez, e16.2]; exact pWord_f p19⟩
    refine w_iconst d47_38 (by decide) ?_
    refine w_zreturn d47_39 (by decide) ?_
    exact kk _ false _ _ _ (by assumption) R av (fun z => by cases z)
  · have b19 := b2i_nz c19
    have p19 : pWord l 8 48 (a + 1) = true := by rw [← e16.1]; exact b19
    have a16e : a16 = wordE l (a + 1) 8 48 := e16.2
    have D := D.mo ok12 m16 kD uD
    rw [if_pos b19] at R
    refine w_aload_n d47_22 rfl ?_
    refine w_bipush d47_23 (by decide) ?_
    refine w_callv2 d47_25 (by omega) rfl (ok16.kd hq) (by simp) (Nat.le_of_ble_eq_true rfl) ?_
    refine k_Rq_readSign (c := 61) ok16 (by omega) hq R (fun h25 v25 a25 m25 R e25 => ?_)
    have ok25 := m25.ok
    have M25 := Mo.tr ok M16 m25 (fun x e => (Or.inl e))
    refine w_ifeq d47_28 (fun c28 => ?_) (fun c28 => ?_)
    · have b28 := b2i_f.mp c28
      have p28 : pSign l 61 a16 = false := by rw [← e25.1]; exact b28
      have a25e : a25 = a16 := by rw [e25.2, b28]; rfl
      have ez : pCond l (a + 1) = (false, a16, [], 0) := by unfold pCond; rw [if_pos p19, ← a16e, if_neg (by rw [p28]; decide)]
      have av : false = (pCond l (a + 1)).1 ∧ a25 = (pCond l (a + 1)).2.1 := ⟨by rw [ez], by rw [ez, a25e]⟩
      refine w_iconst d47_38 (by decide) ?_
      refine w_zreturn d47_39 (by decide) ?_
      exact kk _ false _ _ _ (by assumption) R av (fun z => by cases z)
    · have b28 := b2i_nz c28
      have p28 : pSign l 61 a16 = true := by rw [← e25.1]; exact b28
      have a25e : a25 = a16 + 1 := by rw [e25.2, b28]; rfl
      have D := D.mo ok16 m25 kD uq
      have r25 := R.2.2.2.1
      have no := num_ok r25
      refine w_aload_n d47_31 rfl ?_
      refine w_callv1 d47_32 (by omega) rfl (ok25.kd hq) (by simp) (Nat.le_of_ble_eq_true rfl) ?_
      refine k_Rq_readNumber ok25 (by omega) hq R (fun h32 v32 a32 m32 e32 R => ?_)
      have ok32 := m32.ok
      have M32 := Mo.tr ok M25 m32 (fun x q => q.elim ((fun x e => (Or.inl e)) x) ((fun x q => q.elim ((fun x e => (Or.inr (Or.inl e))) x) ((fun x q => q.elim ((fun x e => (Or.inr (Or.inr (Or.inl e)))) x) ((fun x e => (Or.inr (Or.inr (Or.inr (Or.inl e))))) x)) x)) x))
      refine w_ifne d47_35 (fun c35 => ?_) (fun c35 => ?_)
      · have b35 := b2i_nz c35
        have p35 : pNum l a25 = true := by rw [← e32.1]; exact b35
        have a32e : a32 = numE l a25 := e32.2
        have D := D.mo ok25 m32 kD uD
        rw [if_pos b35] at R
        have g1 := (R.2.2.2.2.2.2.1 0 (by simp [wPush])).1
        have g5 := (R.2.2.2.2.2.2.2.2.2.1 0 (by simp) (by decide)).1
        refine w_aload_n d47_40 rfl ?_
        refine w_dloadS d47_41 (ok32.kd hq) (fr524 ok32 hq) ?_
        refine w_aload_n d47_44 rfl ?_
        refine w_dloadS d47_45 (ok32.kd hq) (fr517 ok32 hq) ?_
        refine w_iconst d47_48 (by decide) ?_
        refine w_laloadV (x := (hd (sl l (a + 1) a16))) d47_49 (gi517 ok32 hq (by omega)) g1 ?_
        refine wf137 d47_50 ok32 (kT524 ok32 hq) (fun h50 e50 m50 => ?_)
        have ok50 := m50.ok
        have M50 := Mo.tr ok M32 m50 (fun x e => (Or.inr (Or.inr (Or.inr (Or.inr e)))))
        have won : okN (sl l (a + 1) a16) := a16e ▸ wo
        have D := D.setC ok32 kD won m50 e50
        have R := R.fr ok32 m50 hq (ok.so.pT (by decide)).symm (fun f hf => nTT f (by omega) (by omega))
        refine w_aload_n d47_53 rfl ?_
        refine w_dloadS d47_54 (ok50.kd hq) (fr524 ok50 hq) ?_
        refine w_aload_n d47_57 rfl ?_
        refine w_dloadS d47_58 (ok50.kd hq) (fr520 ok50 hq) ?_
        refine w_iconst d47_61 (by decide) ?_
        refine w_ialoadV (x := ((numV (sl l a25 a32) : Nat) : Int)) d47_62 (gi520 ok50 hq (by omega)) (by rw [e50]; exact g5) ?_
        refine wf138 d47_63 ok50 (kT524 ok50 hq) (by rw [a32e]; omega) (fun h63 e63 m63 => ?_)
        have ok63 := m63.ok
        have M63 := Mo.tr ok M50 m63 (fun x e => (Or.inr (Or.inr (Or.inr (Or.inr e)))))
        have D := D.setK ok50 kD (by rw [a32e]; exact no) m63 e63
        have R := R.fr ok50 m63 hq (ok.so.pT (by decide)).symm (fun f hf => nTT f (by omega) (by omega))
        refine w_iconst d47_66 (by decide) ?_
        refine w_zreturn d47_67 (by decide) ?_
        have ez : pCond l (a + 1) = (pNum l a25, numE l a25, sl l (a + 1) a16, numV (sl l a25 (numE l a25))) := by unfold pCond; rw [if_pos p19, ← a16e, if_pos p28, a25e]
        refine kk h63 true a32 _ _ M63 R ⟨by rw [ez, p35], by rw [ez]; exact a32e⟩ (fun _ => ?_)
        rw [ez, ← a32e]
        exact D
      · have b35 := b2i_f.mp c35
        have p35 : pNum l a25 = false := by rw [← e32.1]; exact b35
        have ez : pCond l (a + 1) = (pNum l a25, numE l a25, sl l (a + 1) a16, numV (sl l a25 (numE l a25))) := by unfold pCond; rw [if_pos p19, ← a16e, if_pos p28, a25e]
        have av : false = (pCond l (a + 1)).1 ∧ a32 = (pCond l (a + 1)).2.1 := ⟨by rw [ez, p35], by rw [ez]; exact e32.2⟩
        refine w_iconst d47_38 (by decide) ?_
        refine w_zreturn d47_39 (by decide) ?_
        exact kk _ false _ _ _ (by assumption) R av (fun z => by cases z)
