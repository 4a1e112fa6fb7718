/-! requests: verbs, the whole -/
def vw (t : Nat) : List Nat := txt (vbW.getD t 0)
def vf (t : Nat) : List Nat := txt (vbF.getD t 0)
theorem vbW_lt : ∀ t : Fin 35, vbW.getD t.val 0 < 89 ∧ vbF.getD t.val 0 < 89 := by decide
/-- how many signs are alike from the beginning on -/
def cpl : List Nat → List Nat → Nat
  | c :: w, d :: l => if c = d then cpl w l + 1 else 0
  | _, _ => 0
theorem cpl_le : ∀ (w l : List Nat), cpl w l ≤ w.length ∧ cpl w l ≤ l.length
  | [], l => by unfold cpl; simp
  | c :: w, [] => by unfold cpl; simp
  | c :: w, d :: l => by
    have := cpl_le w l
    unfold cpl
    split <;> simp <;> omega
theorem cpl_go {w l : List Nat} {j : Nat} (h1 : j < w.length) (h2 : j < l.length) (he : w.getD j 0 = l.getD j 0) : cpl (w.drop j) (l.drop j) = cpl (w.drop (j + 1)) (l.drop (j + 1)) + 1 := by
  rw [drop_at h1, drop_at h2, cpl, if_pos he]
theorem cpl_stop {w l : List Nat} {j : Nat} (h : w.length ≤ j ∨ l.length ≤ j ∨ w.getD j 0 ≠ l.getD j 0) : cpl (w.drop j) (l.drop j) = 0 := by
  rcases Nat.lt_or_ge j w.length with a | a
  · rcases Nat.lt_or_ge j l.length with b | b
    · rw [drop_at a, drop_at b, cpl, if_neg (by omega)]
    · rw [List.drop_eq_nil_of_le b]; cases w.drop j <;> rfl
  · rw [List.drop_eq_nil_of_le a]; rfl
/-- the first verb of those from v on (f of them) that the bytes begin with, and its length; else the most signs that are alike -/
def vbR (l : List Nat) : Nat → Nat → Nat → Option Nat × Nat
  | 0, _, a => (none, a)
  | f + 1, v, a => if cpl (vw v) l = (vw v).length then (some v, cpl (vw v) l) else vbR l f (v + 1) (max a (cpl (vw v) l))
def pStep (l : List Nat) (s : Bool × Nat × List (List Nat) × List Nat) (c : Nat) : Bool × Nat × List (List Nat) × List Nat :=
  if s.1 = true then (pOk l c s.2.1, pEnd l c s.2.1, pWs l c s.2.1 s.2.2.1, pNs l c s.2.1 s.2.2.2) else s
/-- the parts of a form from a on -/
def pFo (l f : List Nat) (a : Nat) : Bool × Nat × List (List Nat) × List Nat := f.foldl (pStep l) (true, a, [], [])
theorem pFo_snoc (l f : List Nat) (a c : Nat) : pFo l (f ++ [c]) a = pStep l (pFo l f a) c := by unfold pFo; rw [List.foldl_append]; rfl
theorem pFo_bad {l f : List Nat} {a : Nat} (h : (pFo l f a).1 = false) : ∀ g, pFo l (f ++ g) a = pFo l f a := by
  intro g
  unfold pFo at h ⊢
  rw [List.foldl_append]
  generalize f.foldl (pStep l) (true, a, [], []) = s at h ⊢
  induction g with
  | nil => rfl
  | cons c g ih =>
    rw [List.foldl_cons, show pStep l s c = s by unfold pStep; rw [if_neg (by rw [h]; decide)]]
    exact ih
theorem RqC.at0 {S : Shp} {h h' : Hp} {q a b : Nat} {vb : Option Nat} {l : List Nat} {ws : List (List Nat)} (ok : Ok S h) (hq : sK S q = 5) (R : RqC S h q l a ws [] vb) (e : h' = sFI h 516 q (b : Nat)) (m : Mo S (fun y => y = q) h h') (hb : b ≤ l.length) : RqC S h' q l b ws [] vb := by
  obtain ⟨r1, r2, r3, r4, r5, r6, r7, r8, r9, r10⟩ := R
  exact ⟨by rw [m.rb ok (kT512 ok hq) (ok.so.pT (by decide))]; exact r1, r2, by rw [e, FI_sFI, if_pos ⟨rfl, rfl⟩], hb, by rw [e, FI_sFI, if_neg (by simp)]; exact r5, r6, by rw [e]; exact r7, by rw [e, FI_sFI, if_neg (by simp)]; exact r8, by simp, by rw [e]; exact r10⟩
theorem RqC.vb {S : Shp} {h h' : Hp} {q a : Nat} {x : Option Nat} {vb : Option Nat} {l : List Nat} {ws : List (List Nat)} {ns : List Nat} (ok : Ok S h) (hq : sK S q = 5) (R : RqC S h q l a ws ns vb) (e : h' = sFR h 514 q x) (m : Mo S (fun y => y = q) h h') : RqC S h' q l a ws ns x := by
  obtain ⟨r1, r2, r3, r4, r5, r6, r7, r8, r9, r10, r11⟩ := R
  exact ⟨by rw [m.rb ok (kT512 ok hq) (ok.so.pT (by decide))]; exact r1, r2, by rw [e]; exact r3, r4, by rw [e]; exact r5, r6, by rw [e]; exact r7, by rw [e]; exact r8, r9, by rw [e]; exact r10, by rw [e, FR_sFR, if_pos ⟨rfl, rfl⟩]⟩
theorem RqC.wr {S : Shp} {h h' : Hp} {q a : Nat} {v : Int} {vb : Option Nat} {l : List Nat} {ws : List (List Nat)} {ns : List Nat} (ok : Ok S h) (hq : sK S q = 5) (R : RqC S h q l a ws ns vb) (e : h' = sFI h 515 q v) (m : Mo S (fun y => y = q) h h') : RqC S h' q l a ws ns vb := by
  obtain ⟨r1, r2, r3, r4, r5, r6, r7, r8, r9, r10⟩ := R
  exact ⟨by rw [m.rb ok (kT512 ok hq) (ok.so.pT (by decide))]; exact r1, r2, by rw [e, FI_sFI, if_neg (by simp)]; exact r3, r4, by rw [e, FI_sFI, if_neg (by simp)]; exact r5, r6, by rw [e]; exact r7, by rw [e, FI_sFI, if_neg (by simp)]; exact r8, r9, by rw [e]; exact r10⟩
theorem r_charAtN {S : Shp} {G : Nat → Option Nat} {d : Nat} {h : Hp} {Q : Option MV → Hp → Prop} {g i : Nat} {bs : List Nat} (h1 : 3 ≤ d) (hS : St h g bs) (hi : i < bs.length) (kk : Q (some (vI ((bs.getD i 0 : Nat) : Int))) h) : Cl G d 24 [vR (some g), vI (i : Nat)] h Q := c_Str_charAt h1 hS ⟨by omega, by omega⟩ kk
theorem d20_0 : dc 20 0 = some (.iconst 0, 1) := by decide +kernel
theorem d20_1 : dc 20 1 = some (.istore_n 1, 2) := by decide +kernel
theorem d20_2 : dc 20 2 = some (.iload_n 1, 3) := by decide +kernel
theorem d20_3 : dc 20 3 = some (.aload_n 0, 4) := by decide +kernel
theorem d20_4 : dc 20 4 = some (.dload 513, 7) := by decide +kernel
theorem d20_7 : dc 20 7 = some (.arraylength, 8) := by decide +kernel
theorem d20_8 : dc 20 8 = some (.if_icmp .ge ((96 : Nat) : Int), 11) := by decide +kernel
theorem d20_11 : dc 20 11 = some (.aload_n 0, 12) := by decide +kernel
theorem d20_12 : dc 20 12 = some (.dload 513, 15) := by decide +kernel
theorem d20_15 : dc 20 15 = some (.iload_n 1, 16) := by decide +kernel
theorem d20_16 : dc 20 16 = some (.aaload, 17) := by decide +kernel
theorem d20_17 : dc 20 17 = some (.dload 2176, 20) := by decide +kernel
theorem d20_20 : dc 20 20 = some (.astore_n 2, 21) := by decide +kernel
theorem d20_21 : dc 20 21 = some (.iconst 0, 22) := by decide +kernel
theorem d20_22 : dc 20 22 = some (.istore_n 3, 23) := by decide +kernel
theorem d20_23 : dc 20 23 = some (.iload_n 3, 24) := by decide +kernel
theorem d20_24 : dc 20 24 = some (.aload_n 2, 25) := by decide +kernel
theorem d20_25 : dc 20 25 = some (.invokevirtual 21, 28) := by decide +kernel
theorem d20_28 : dc 20 28 = some (.if_icmp .ge ((53 : Nat) : Int), 31) := by decide +kernel
theorem d20_31 : dc 20 31 = some (.aload_n 0, 32) := by decide +kernel
theorem d20_32 : dc 20 32 = some (.dload 512, 35) := by decide +kernel
theorem d20_35 : dc 20 35 = some (.iload_n 3, 36) := by decide +kernel
theorem d20_36 : dc 20 36 = some (.invokevirtual 23, 39) := by decide +kernel
theorem d20_39 : dc 20 39 = some (.aload_n 2, 40) := by decide +kernel
theorem d20_40 : dc 20 40 = some (.iload_n 3, 41) := by decide +kernel
theorem d20_41 : dc 20 41 = some (.invokevirtual 24, 44) := by decide +kernel
theorem d20_44 : dc 20 44 = some (.if_icmp .ne ((53 : Nat) : Int), 47) := by decide +kernel
theorem d20_47 : dc 20 47 = some (.iinc 3 1, 50) := by decide +kernel
theorem d20_50 : dc 20 50 = some (.goto ((23 : Nat) : Int), 53) := by decide +kernel
theorem d20_53 : dc 20 53 = some (.aload_n 0, 54) := by decide +kernel
theorem d20_54 : dc 20 54 = some (.aload_n 0, 55) := by decide +kernel
theorem d20_55 : dc 20 55 = some (.getfield 516, 58) := by decide +kernel
theorem d20_58 : dc 20 58 = some (.iload_n 3, 59) := by decide +kernel
theorem d20_59 : dc 20 59 = some (.invokestatic 3, 62) := by decide +kernel
theorem d20_62 : dc 20 62 = some (.putfield 516, 65) := by decide +kernel
theorem d20_65 : dc 20 65 = some (.iload_n 3, 66) := by decide +kernel
theorem d20_66 : dc 20 66 = some (.aload_n 2, 67) := by decide +kernel
theorem d20_67 : dc 20 67 = some (.invokevirtual 21, 70) := by decide +kernel
theorem d20_70 : dc 20 70 = some (.if_icmp .ne ((90 : Nat) : Int), 73) := by decide +kernel
theorem d20_73 : dc 20 73 = some (.aload_n 0, 74) := by decide +kernel
theorem d20_74 : dc 20 74 = some (.aload_n 0, 75) := by decide +kernel
theorem d20_75 : dc 20 75 = some (.dload 513, 78) := by decide +kernel
theorem d20_78 : dc 20 78 = some (.iload_n 1, 79) := by decide +kernel
theorem d20_79 : dc 20 79 = some (.aaload, 80) := by decide +kernel
theorem d20_80 : dc 20 80 = some (.dstore 514, 83) := by decide +kernel
theorem d20_83 : dc 20 83 = some (.aload_n 0, 84) := by decide +kernel
theorem d20_84 : dc 20 84 = some (.iload_n 3, 85) := by decide +kernel
theorem d20_85 : dc 20 85 = some (.putfield 516, 88) := by decide +kernel
theorem d20_88 : dc 20 88 = some (.iconst 1, 89) := by decide +kernel
theorem d20_89 : dc 20 89 = some (.freturn, 90) := by decide +kernel
theorem d20_90 : dc 20 90 = some (.iinc 1 1, 93) := by decide +kernel
theorem d20_93 : dc 20 93 = some (.goto ((2 : Nat) : Int), 96) := by decide +kernel
theorem d20_96 : dc 20 96 = some (.iconst 0, 97) := by decide +kernel
theorem d20_97 : dc 20 97 = some (.freturn, 98) := by decide +kernel
theorem k_Rq_readVerb {S : Shp} {G : Nat → Option Nat} {d : Nat} {h : Hp} {Q : Option MV → Hp → Prop} {q : Nat}  (ok : Ok S h) (h1 : 4 ≤ d) (hq : sK S q = 5) {vb : Option Nat} {l : List Nat} (tg : Tg S G) (R : RqC S h q l 0 [] [] vb)
    (kk : ∀ h' b vb', Mo S (fun y => y = q) h h' → RqC S h' q l (vbR l 35 0 0).2 [] [] vb' → b = (vbR l 35 0 0).1.isSome → ((vbR l 35 0 0).1 = none → vb' = vb) → (∀ t, (vbR l 35 0 0).1 = some t → t < 35 ∧ vb' = G t) → Q (some (vI (b2i b))) h') : Cl G d 20 [vR (some q)] h Q := by
  show Wp G d 20 0 [some (vR (some q)), none, none, none] [] h Q
  have nT : ∀ f, f < 4096 → sT S f q ≠ q := fun f hf => ok.so.pT hf
  generalize hP : vbR l 35 0 0 = P at kk
  refine w_iconst d20_0 (by decide) ?_
  refine w_istore1 d20_1 rfl ?_
  have L2 : ∀ (m2 : Nat) (g : Hp) (v a : Nat), 35 - v = m2 → Mo S (fun x => x = q) h g → (v ≤ 35) → (RqC S g q l a [] [] vb) → (P = vbR l (35 - v) v a) → Wp G d 20 2 [some (vR (some q)), some (vI (v : Nat)), none, none] [] g Q := by
    intro m2
    induction m2 using Nat.strongRecOn with | ind m2 IH2 => ?_
    intro g v a hm2 Mg i1 R i3
    have okg := Mg.ok
    have r4 := R.2.2.2.1
    have r2 := R.2.1
    refine w_iload_n d20_2 rfl ?_
    refine w_aload_n d20_3 rfl ?_
    refine w_dloadS d20_4 (okg.kd hq) (fr513 okg hq) ?_
    refine wl513 d20_7 okg hq ?_
    refine w_icmpge d20_8 (fun c8 => ?_) (fun c8 => ?_)
    · have pz : P = (none, a) := by rw [i3, show 35 - v = 0 by omega]; rfl
      refine w_iconst d20_96 (by decide) ?_
      refine w_zreturn d20_97 (by decide) ?_
      exact kk g false vb Mg (by rw [pz]; exact R) (by rw [pz]; rfl) (fun _ => rfl) (fun t ht => by rw [pz] at ht; cases ht)
    · have hv : v < 35 := by omega
      rw [show 35 - v = (35 - (v + 1)) + 1 by omega, vbR] at i3
      refine w_aload_n d20_11 rfl ?_
      refine w_dloadS d20_12 (okg.kd hq) (fr513 okg hq) ?_
      refine w_iload_n d20_15 rfl ?_
      obtain ⟨av, g1, g2, g3, g4, g5, g6⟩ := tg.vb okg v hv
      have hvr := tg.vs okg hq v hv
      refine w_aaloadSN d20_16 (gi513 okg hq (by omega)) (hvr.trans g1) ?_
      obtain ⟨gw, w1, w2⟩ := tg.tx okg (vbW.getD v 0) (vbW_lt ⟨v, hv⟩).1
      refine w_dloadS d20_17 g2 (g5.trans w1) ?_
      refine w_astore2 d20_20 rfl ?_
      refine w_iconst d20_21 (by decide) ?_
      refine w_istore3 d20_22 rfl ?_
      have L23 : ∀ (m23 : Nat) (j : Nat), (vw v).length - j = m23 → (j ≤ (vw v).length) → (j ≤ l.length) → (cpl (vw v) l = j + cpl ((vw v).drop j) (l.drop j)) → Wp G d 20 23 [some (vR (some q)), some (vI (v : Nat)), some (vR (some gw)), some (vI (j : Nat))] [] g Q := by
        intro m23
        induction m23 using Nat.strongRecOn with | ind m23 IH23 => ?_
        intro j hm23 j1 j2 j3
        refine w_iload_n d20_23 rfl ?_
        refine w_aload_n d20_24 rfl ?_
        refine w_callv1 d20_25 (by omega) rfl w2.1 (by simp) (Nat.le_of_ble_eq_true rfl) ?_
        refine c_Str_length (by omega) w2 ?_
        refine w_icmpge d20_28 (fun c28 => ?_) (fun c28 => ?_)
        · have fin : cpl (vw v) l = j := by rw [j3, cpl_stop (Or.inl (by have : (vw v).length = (txt (vbW.getD v 0)).length := rfl; omega))]; rfl
          have cl := cpl_le (vw v) l
          refine w_aload_n d20_53 rfl ?_
          refine w_aload_n d20_54 rfl ?_
          refine w_getI (x := ((a : Nat) : Int)) d20_55 (okg.kd hq) R.2.2.1 ?_
          refine w_iload_n d20_58 rfl ?_
          refine w_max d20_59 (by refine ⟨by simp, ?_⟩; omega) ?_
          refine wf516 d20_62 okg hq (by split <;> omega) (fun h62 e62 m62 => ?_)
          have ok62 := m62.ok
          have M62 := Mo.tr ok Mg m62 (fun x e => e)
          have e62 : h62 = sFI g 516 q ((max a (cpl (vw v) l) : Nat) : Int) := by rw [e62, fin]; congr 1; split <;> omega
          have R62 := R.at okg hq e62 m62 ⟨Nat.le_max_left _ _, by omega⟩
          have w2b := m62.St (fun x e => by subst e; have := okg.kd hq; omega) w2
          refine w_iload_n d20_65 rfl ?_
          refine w_aload_n d20_66 rfl ?_
          refine w_callv1 d20_67 (by omega) rfl w2b.1 (by simp) (Nat.le_of_ble_eq_true rfl) ?_
          refine c_Str_length (by omega) w2b ?_
          refine w_icmpne d20_70 (fun c70 => ?_) (fun c70 => ?_)
          · have neq : cpl (vw v) l ≠ (vw v).length := by have : (vw v).length = (txt (vbW.getD v 0)).length := rfl; omega
            refine w_iinc1 d20_90 rfl (by constructor <;> omega) ?_
            refine w_goto d20_93 ?_
            refine w_less ?_ (IH2 _ (by omega) h62 (v + 1) (max a (cpl (vw v) l)) rfl M62 (by omega) R62 (by rw [i3, if_neg (by omega)]))
            exact ⟨Or.inr rfl, Or.inr rfl, Or.inl rfl, Or.inl rfl, trivial⟩
          · have eq : cpl (vw v) l = (vw v).length := by have : (vw v).length = (txt (vbW.getD v 0)).length := rfl; omega
            refine w_aload_n d20_73 rfl ?_
            refine w_aload_n d20_74 rfl ?_
            refine w_dloadS d20_75 (ok62.kd hq) (fr513 ok62 hq) ?_
            refine w_iload_n d20_78 rfl ?_
            have g1b := (tg.vs ok62 hq v hv).trans g1
            refine w_aaloadSN d20_79 (gi513 ok62 hq (by omega)) g1b ?_
            refine wr514 d20_80 ok62 hq (fun h80 e80 m80 => ?_)
            have ok80 := m80.ok
            have M80 := Mo.tr ok M62 m80 (fun x e => e)
            have R80 := R62.vb ok62 hq e80 m80
            refine w_aload_n d20_83 rfl ?_
            refine w_iload_n d20_84 rfl ?_
            refine wf516 d20_85 ok80 hq (by omega) (fun h85 e85 m85 => ?_)
            have ok85 := m85.ok
            have M85 := Mo.tr ok M80 m85 (fun x e => e)
            have e85 : h85 = sFI h80 516 q ((cpl (vw v) l : Nat) : Int) := by rw [e85, fin]
            have R85 := R80.at0 ok80 hq e85 m85 (by omega)
            refine w_iconst d20_88 (by decide) ?_
            refine w_zreturn d20_89 (by decide) ?_
            have pz : P = (some v, cpl (vw v) l) := by rw [i3, if_pos eq]
            exact kk h85 true _ M85 (by rw [pz]; exact R85) (by rw [pz]; rfl) (fun z => by rw [pz] at z; cases z) (fun t ht => by
              rw [pz] at ht
              cases ht
              exact ⟨hv, g1.symm⟩)
        · have hj : j < (vw v).length := by have : (vw v).length = (txt (vbW.getD v 0)).length := rfl; omega
          refine w_aload_n d20_31 rfl ?_
          refine w_dloadS d20_32 (okg.kd hq) (fr512 okg hq) ?_
          refine w_iload_n d20_35 rfl ?_
          refine w_callv2 d20_36 (by omega) rfl (okg.kd (kT512 okg hq)) (by simp) (Nat.le_of_ble_eq_true rfl) ?_
          refine r_Row_at okg (kT512 okg hq) ?_
          rw [R.1]
          refine w_aload_n d20_39 rfl ?_
          refine w_iload_n d20_40 rfl ?_
          refine w_callv2 d20_41 (by omega) rfl w2.1 (by simp) (Nat.le_of_ble_eq_true rfl) ?_
          refine r_charAtN (S := S) (by omega) w2 hj ?_
          refine w_icmpne d20_44 (fun c44 => ?_) (fun c44 => ?_)
          · have fin : cpl (vw v) l = j := by
              rw [j3, cpl_stop ?_]; rfl
              by_cases c : j < l.length
              · refine Or.inr (Or.inr (fun z => c44 ?_)); rw [atvN c, ← z]; rfl
              · exact Or.inr (Or.inl (by omega))
            have cl := cpl_le (vw v) l
            refine w_aload_n d20_53 rfl ?_
            refine w_aload_n d20_54 rfl ?_
            refine w_getI (x := ((a : Nat) : Int)) d20_55 (okg.kd hq) R.2.2.1 ?_
            refine w_iload_n d20_58 rfl ?_
            refine w_max d20_59 (by refine ⟨by simp, ?_⟩; omega) ?_
            refine wf516 d20_62 okg hq (by split <;> omega) (fun h62 e62 m62 => ?_)
            have ok62 := m62.ok
            have M62 := Mo.tr ok Mg m62 (fun x e => e)
            have e62 : h62 = sFI g 516 q ((max a (cpl (vw v) l) : Nat) : Int) := by rw [e62, fin]; congr 1; split <;> omega
            have R62 := R.at okg hq e62 m62 ⟨Nat.le_max_left _ _, by omega⟩
            have w2b := m62.St (fun x e => by subst e; have := okg.kd hq; omega) w2
            refine w_iload_n d20_65 rfl ?_
            refine w_aload_n d20_66 rfl ?_
            refine w_callv1 d20_67 (by omega) rfl w2b.1 (by simp) (Nat.le_of_ble_eq_true rfl) ?_
            refine c_Str_length (by omega) w2b ?_
            refine w_icmpne d20_70 (fun c70 => ?_) (fun c70 => ?_)
            · have neq : cpl (vw v) l ≠ (vw v).length := by have : (vw v).length = (txt (vbW.getD v 0)).length := rfl; omega
              refine w_iinc1 d20_90 rfl (by constructor <;> omega) ?_
              refine w_goto d20_93 ?_
              refine w_less ?_ (IH2 _ (by omega) h62 (v + 1) (max a (cpl (vw v) l)) rfl M62 (by omega) R62 (by rw [i3, if_neg (by omega)]))
              exact ⟨Or.inr rfl, Or.inr rfl, Or.inl rfl, Or.inl rfl, trivial⟩
            · have eq : cpl (vw v) l = (vw v).length := by have : (vw v).length = (txt (vbW.getD v 0)).length := rfl; omega
              refine w_aload_n d20_73 rfl ?_
              refine w_aload_n d20_74 rfl ?_
              refine w_dloadS d20_75 (ok62.kd hq) (fr513 ok62 hq) ?_
              refine w_iload_n d20_78 rfl ?_
              have g1b := (tg.vs ok62 hq v hv).trans g1
              refine w_aaloadSN d20_79 (gi513 ok62 hq (by omega)) g1b ?_
              refine wr514 d20_80 ok62 hq (fun h80 e80 m80 => ?_)
              have ok80 := m80.ok
              have M80 := Mo.tr ok M62 m80 (fun x e => e)
              have R80 := R62.vb ok62 hq e80 m80
              refine w_aload_n d20_83 rfl ?_
              refine w_iload_n d20_84 rfl ?_
              refine wf516 d20_85 ok80 hq (by omega) (fun h85 e85 m85 => ?_)
              have ok85 := m85.ok
              have M85 := Mo.tr ok M80 m85 (fun x e => e)
              have e85 : h85 = sFI h80 516 q ((cpl (vw v) l : Nat) : Int) := by rw [e85, fin]
              have R85 := R80.at0 ok80 hq e85 m85 (by omega)
              refine w_iconst d20_88 (by decide) ?_
              refine w_zreturn d20_89 (by decide) ?_
              have pz : P = (some v, cpl (vw v) l) := by rw [i3, if_pos eq]
              exact kk h85 true _ M85 (by rw [pz]; exact R85) (by rw [pz]; rfl) (fun z => by rw [pz] at z; cases z) (fun t ht => by
                rw [pz] at ht
                cases ht
                exact ⟨hv, g1.symm⟩)
          · have hc : j < l.length := by
              by_cases c : j < l.length
              · exact c
              · exfalso; unfold atv at c44; rw [if_neg (by omega)] at c44; omega
            have he : (vw v).getD j 0 = l.getD j 0 := by
              rw [atvN hc] at c44
              have c44 : ((l.getD j 0 : Nat) : Int) = (((vw v).getD j 0 : Nat) : Int) := c44
              omega
            refine w_iinc3 d20_47 rfl (by constructor <;> omega) ?_
            refine w_goto d20_50 ?_
            refine w_less ?_ (IH23 _ (by omega) (j + 1) rfl (by omega) (by omega) (by rw [j3, cpl_go hj hc he]; omega))
            exact ⟨Or.inr rfl, Or.inr rfl, Or.inr rfl, Or.inr rfl, trivial⟩
      refine w_less ?_ (L23 _ 0 rfl (by omega) (by omega) (by simp))
      exact ⟨Or.inr rfl, Or.inr rfl, Or.inr rfl, Or.inr rfl, trivial⟩
  have M0_ := Mo.refl (A := (fun x => x = q)) ok
  refine w_less ?_ (L2 _ h 0 0 rfl M0_ (by omega) R hP.symm)
  exact ⟨Or.inr rfl, Or.inr rfl, Or.inl rfl, Or.inl rfl, trivial⟩
