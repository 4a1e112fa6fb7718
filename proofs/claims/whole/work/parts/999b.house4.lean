/-! the house: a told request is admitted -/
abbrev BkV : Type := (Nat → Nat) × Nat × Int × Bool
def BoV (S : Shp) (h : Hp) (b : BkV) : Prop := BoC S h b.1 b.2.1 b.2.2.1 b.2.2.2
def bk0 (w : Bool) (t : Nat) (b : BkV) : BkV := if w = true ∧ t = 0 then (fun _ => 0, 0, -1, false) else b
def bkW (b : BkV) (l : List Nat) : BkV := (wrB b.1 b.2.1 l, b.2.1 + l.length + 2, (b.2.1 : Nat), b.2.2.2)
def bkF (b : BkV) (n : Nat) : Prop := 0 < n ∧ n ≤ 200 ∧ b.2.1 + n + 2 ≤ 2048
section HO4
variable {S : Shp} {h h' : Hp} {A : Nat → Prop} {w : HoS}
/-- marks, and what lies apart, change nothing of the house -/
theorem HoC.mk (ok : Ok S h) (m : Mo S A h h') (hA : ∀ z, A z → z = sT S 393 (sT S 1284 (sX S)) ∨ ∀ f, 1284 ≤ f → f ≤ 1288 → ¬ U S (sT S f (sX S)) z) (D : HoC S h w) : HoC S h' w := by
  obtain ⟨d1, d2, d3, ⟨z, d4⟩, d5⟩ := D
  have kp := kT1284 ok ok.kX
  have um : U S (sT S 1284 (sX S)) (sT S 393 (sT S 1284 (sX S))) := ok.so.uT (by decide) U_refl
  have ap : ∀ f, 1285 ≤ f → f ≤ 1288 → ∀ y, U S (sT S f (sX S)) y → ¬ A y := fun f f1 f2 y u q => by
    rcases hA y q with e | e
    · exact apX ok.so (f := f) (g := 1284) (by omega) (by decide) (by omega) y u (e ▸ um)
    · exact e f (by omega) f2 u
  have pl : ∀ y, U S (sT S 1284 (sX S)) y → y ≠ sT S 393 (sT S 1284 (sX S)) → ¬ A y := fun y u hy q => by
    rcases hA y q with e | e
    · exact hy e
    · exact e 1284 (by decide) (by decide) u
  have l14 := d1.2.2.2.1
  refine ⟨⟨d1.1.fr ok m kp (Or.inl (pl _ U_refl (fun e => ok.so.pT (by decide) e.symm))) (fun f hf => pl _ (ok.so.uT (by omega) U_refl) (ok.so.ou (by omega) (by decide) (Or.inl (by omega)))) (fun i hi => pl _ (ok.so.uE (by omega) (ok.so.uT (by decide) U_refl)) (fun e => ok.so.neE (by decide) (by omega) e.symm)), d1.2.1.fr ok m kp (Or.inl (pl _ U_refl (fun e => ok.so.pT (by decide) e.symm))) (fun f hf => pl _ (ok.so.uT (by omega) U_refl) (ok.so.ou (by omega) (by decide) (Or.inl (by omega)))), d1.2.2.fr ok m kp (Or.inl (pl _ U_refl (fun e => ok.so.pT (by decide) e.symm))) (fun i y hi u => pl y (U_trans (ok.so.uE (by omega) (ok.so.uT (by decide) U_refl)) u) (fun e => (ok.so.defN (f := 393) (p := sT S 1284 (sX S)) (i := i) (by omega) (by decide) (by decide)).2.1 (e ▸ u)))⟩, d2.u ok m (kT1285 ok ok.kX) (ap 1285 (by decide) (by decide)), d3.u ok m (kT1286 ok ok.kX) (ap 1286 (by decide) (by decide)), ⟨z, d4.u ok m (kT1287 ok ok.kX) (ap 1287 (by decide) (by decide))⟩, ?_⟩
  rw [m.rb ok (kT1152 ok ok.kW) (ap 1288 (by decide) (by decide) _ (ok.so.uT (by decide) U_refl))]
  exact d5
theorem nmC.f {q t : Nat} {n : List Nat} (ok : Ok S h) (m : Mo S A h h') (hq : sK S q = 5) (h1 : ¬ A (sT S 517 q)) (h2 : ¬ A (sT S 518 q)) (D : nmC S h q t n) : nmC S h' q t n := fun c => by
  have k1 := kT517 ok hq
  have k2 := kT518 ok hq
  rw [m.al ok (by omega) h1, m.al ok (by omega) h2]
  exact D c
theorem rfs_lt {nu : Nat → Int} {f n : Nat} : rfs nu f n < 89 := by unfold rfs; (repeat' split) <;> omega
theorem refN_lt {t : Nat} {P : PlV} {rs : List RuV} {pu : Nat → OutV} {g : Bool} {n : List Nat} {D : TgV} {nu : Nat → Int} {ci : Bool} : refN t P rs pu g n D nu ci < 89 := by
  unfold refN
  (repeat' split) <;> first | omega | exact rfs_lt
theorem txt_emp : ∀ i : Fin 89, (txt i.val).length = 0 ↔ i.val = 19 := by decide +kernel
theorem txt_em {c : Nat} (h : c < 89) : (txt c).length = 0 ↔ c = 19 := txt_emp ⟨c, h⟩
theorem txt_300 {c : Nat} (h : c < 89) : (txt c).length ≤ 300 := (txt_ok ⟨c, h⟩).1
/-- two verbs are one -/
theorem vb_inj {G : Nat → Option Nat} {S : Shp} {h : Hp} (tg : Tg S G) (ok : Ok S h) {t u : Nat} (ht : t < 35) (hu : u < 35) (e : G t = G u) : t = u := by
  obtain ⟨a, g1, g2, g3, -⟩ := tg.vb ok t ht
  obtain ⟨b, j1, j2, j3, -⟩ := tg.vb ok u hu
  rw [g1, j1] at e
  have e := Option.some.inj e
  rw [e] at g3
  omega
end HO4
theorem d63_0 : dc 63 0 = some (.aload_n 0, 1) := by decide +kernel
theorem d63_1 : dc 63 1 = some (.dload 1281, 4) := by decide +kernel
theorem d63_4 : dc 63 4 = some (.invokevirtual 18, 7) := by decide +kernel
theorem d63_7 : dc 63 7 = some (.iload_n 1, 8) := by decide +kernel
theorem d63_8 : dc 63 8 = some (.ifCond .eq ((31 : Nat) : Int), 11) := by decide +kernel
theorem d63_11 : dc 63 11 = some (.aload_n 0, 12) := by decide +kernel
theorem d63_12 : dc 63 12 = some (.dload 1282, 15) := by decide +kernel
theorem d63_15 : dc 63 15 = some (.dload 514, 18) := by decide +kernel
theorem d63_18 : dc 63 18 = some (.getstatic 0, 21) := by decide +kernel
theorem d63_21 : dc 63 21 = some (.if_acmp .ne ((31 : Nat) : Int), 24) := by decide +kernel
theorem d63_24 : dc 63 24 = some (.aload_n 0, 25) := by decide +kernel
theorem d63_25 : dc 63 25 = some (.dload 1283, 28) := by decide +kernel
theorem d63_28 : dc 63 28 = some (.invokevirtual 64, 31) := by decide +kernel
theorem d63_31 : dc 63 31 = some (.aload_n 0, 32) := by decide +kernel
theorem d63_32 : dc 63 32 = some (.invokevirtual 68, 35) := by decide +kernel
theorem d63_35 : dc 63 35 = some (.astore_n 2, 36) := by decide +kernel
theorem d63_36 : dc 63 36 = some (.aload_n 2, 37) := by decide +kernel
theorem d63_37 : dc 63 37 = some (.invokevirtual 82, 40) := by decide +kernel
theorem d63_40 : dc 63 40 = some (.ifCond .eq ((70 : Nat) : Int), 43) := by decide +kernel
theorem d63_43 : dc 63 43 = some (.iload_n 1, 44) := by decide +kernel
theorem d63_44 : dc 63 44 = some (.ifCond .eq ((70 : Nat) : Int), 47) := by decide +kernel
theorem d63_47 : dc 63 47 = some (.aload_n 0, 48) := by decide +kernel
theorem d63_48 : dc 63 48 = some (.dload 1283, 51) := by decide +kernel
theorem d63_51 : dc 63 51 = some (.aload_n 0, 52) := by decide +kernel
theorem d63_52 : dc 63 52 = some (.dload 1282, 55) := by decide +kernel
theorem d63_55 : dc 63 55 = some (.dload 512, 58) := by decide +kernel
theorem d63_58 : dc 63 58 = some (.invokevirtual 13, 61) := by decide +kernel
theorem d63_61 : dc 63 61 = some (.invokevirtual 83, 64) := by decide +kernel
theorem d63_64 : dc 63 64 = some (.ifCond .ne ((70 : Nat) : Int), 67) := by decide +kernel
theorem d63_67 : dc 63 67 = some (.getstatic 68, 69) := by decide +kernel
theorem d63_69 : dc 63 69 = some (.astore_n 2, 70) := by decide +kernel
theorem d63_70 : dc 63 70 = some (.aload_n 2, 71) := by decide +kernel
theorem d63_71 : dc 63 71 = some (.invokevirtual 82, 74) := by decide +kernel
theorem d63_74 : dc 63 74 = some (.ifCond .ne ((87 : Nat) : Int), 77) := by decide +kernel
theorem d63_77 : dc 63 77 = some (.aload_n 0, 78) := by decide +kernel
theorem d63_78 : dc 63 78 = some (.dload 1281, 81) := by decide +kernel
theorem d63_81 : dc 63 81 = some (.aload_n 2, 82) := by decide +kernel
theorem d63_82 : dc 63 82 = some (.invokevirtual 84, 85) := by decide +kernel
theorem d63_85 : dc 63 85 = some (.iconst 0, 86) := by decide +kernel
theorem d63_86 : dc 63 86 = some (.freturn, 87) := by decide +kernel
theorem d63_87 : dc 63 87 = some (.iload_n 1, 88) := by decide +kernel
theorem d63_88 : dc 63 88 = some (.ifCond .eq ((105 : Nat) : Int), 91) := by decide +kernel
theorem d63_91 : dc 63 91 = some (.aload_n 0, 92) := by decide +kernel
theorem d63_92 : dc 63 92 = some (.dload 1283, 95) := by decide +kernel
theorem d63_95 : dc 63 95 = some (.aload_n 0, 96) := by decide +kernel
theorem d63_96 : dc 63 96 = some (.dload 1282, 99) := by decide +kernel
theorem d63_99 : dc 63 99 = some (.dload 512, 102) := by decide +kernel
theorem d63_102 : dc 63 102 = some (.invokevirtual 85, 105) := by decide +kernel
theorem d63_105 : dc 63 105 = some (.iconst 1, 106) := by decide +kernel
theorem d63_106 : dc 63 106 = some (.freturn, 107) := by decide +kernel
theorem k_Ho_admit {S : Shp} {G : Nat → Option Nat} {d : Nat} {h : Hp} {Q : Option MV → Hp → Prop} {z : Int} {w : Bool} (ok : Ok S h) (h1 : 6 ≤ d) (tg : Tg S G) (hz : z = b2i w) {t : Nat} (ht35 : t < 35) (hvb : FR h 514 (sT S 1282 (sX S)) = G t) (ht12 : t ≤ 12) {v : HoS} {a : ArV} {b0 : BkV} (D : HoC S h v) (Bk : BoV S h b0) (hn0 : nmC S h (sT S 1282 (sX S)) t a.1) (hD : t = 4 → DefC S h (sT S 524 (sT S 1282 (sX S))) a.2.2.1 (tgTxt a.2.2.1)) (hnu : AI h (sT S 520 (sT S 1282 (sX S))) = a.2.2.2) (hcl : 4096 ≤ cap h (sT S 1281 (sX S))) (hll : (rl h (sT S 512 (sT S 1282 (sX S)))).length ≤ 100000)
    (kk : ∀ ci r b' h', Mo S (fun y => y = sT S 1281 (sX S) ∨ U S (sT S 1283 (sX S)) y ∨ y = sT S 393 (sT S 1284 (sX S))) h h' → (t = 4 → ((refN t v.1 v.2.1 (seGo v.2.2).1 (seOn v.2.2) a.1 a.2.2.1 a.2.2.2 ci) = 32 → circV v.1.2.2 a.2.2.1) ∧ ((refN t v.1 v.2.1 (seGo v.2.2).1 (seOn v.2.2) a.1 a.2.2.1 a.2.2.2 ci) = 19 → ¬ circV v.1.2.2 a.2.2.1)) → HoC S h' v → BoV S h' b' → ((((refN t v.1 v.2.1 (seGo v.2.2).1 (seOn v.2.2) a.1 a.2.2.1 a.2.2.2 ci) = 19 ∧ (w = true → bkF (bk0 w t b0) (rl h (sT S 512 (sT S 1282 (sX S)))).length)) ∧ r = true ∧ rl h' (sT S 1281 (sX S)) = [] ∧ b' = if w = true then bkW (bk0 w t b0) (rl h (sT S 512 (sT S 1282 (sX S)))) else (bk0 w t b0)) ∨ (¬ ((refN t v.1 v.2.1 (seGo v.2.2).1 (seOn v.2.2) a.1 a.2.2.1 a.2.2.2 ci) = 19 ∧ (w = true → bkF (bk0 w t b0) (rl h (sT S 512 (sT S 1282 (sX S)))).length)) ∧ r = false ∧ rl h' (sT S 1281 (sX S)) = txt (if (refN t v.1 v.2.1 (seGo v.2.2).1 (seOn v.2.2) a.1 a.2.2.1 a.2.2.2 ci) = 19 then 18 else (refN t v.1 v.2.1 (seGo v.2.2).1 (seOn v.2.2) a.1 a.2.2.1 a.2.2.2 ci)) ∧ b' = (bk0 w t b0))) → cap h' (sT S 1281 (sX S)) = cap h (sT S 1281 (sX S)) → Q (some (vI (b2i r))) h') : Cl G d 63 [vR (some (sX S)), vI z] h Q := by
  show Wp G d 63 0 [some (vR (some (sX S))), some (vI z), none] [] h Q
  obtain ⟨vb, g1, g2, g3, g4, g5, g6⟩ := tg.vb ok t ht35
  obtain ⟨vb0, z1, z2, z3, z4, z5, z6⟩ := tg.vb ok 0 (by decide)
  have kq := kT1282 ok ok.kX
  have kb := kT1283 ok ok.kX
  have kl := kT1281 ok ok.kX
  have nla2 : ∀ f, 1284 ≤ f → f ≤ 1288 → ∀ z, U S (sT S f (sX S)) z → ¬ z = sT S 1281 (sX S) := fun f f1 f2 z u q => ok.so.nUT (f := f) (g := 1281) (x := sX S) (by omega) (by decide) (by omega) (q ▸ u)
  have nlb2 : ∀ z, U S (sT S 1283 (sX S)) z → ¬ z = sT S 1281 (sX S) := fun z u q => ok.so.nUT (f := 1283) (g := 1281) (x := sX S) (by decide) (by decide) (by decide) (q ▸ u)
  have nlB : ¬ U S (sT S 1283 (sX S)) (sT S 1281 (sX S)) := ok.so.nUT (by decide) (by decide) (by decide)
  have nql : ¬ sT S 1282 (sX S) = sT S 1281 (sX S) := ok.so.ou (by decide) (by decide) (Or.inl (by decide))
  have nQA : ∀ y, U S (sT S 1282 (sX S)) y → ¬ (y = sT S 1281 (sX S) ∨ U S (sT S 1283 (sX S)) y ∨ y = sT S 393 (sT S 1284 (sX S))) := fun y u q => by
    rcases q with q | q | q
    · exact ok.so.nUT (f := 1282) (g := 1281) (x := sX S) (by decide) (by decide) (by decide) (q ▸ u)
    · exact apX ok.so (f := 1282) (g := 1283) (by decide) (by decide) (by decide) y u q
    · exact apX ok.so (f := 1282) (g := 1284) (by decide) (by decide) (by decide) y u (q ▸ ok.so.uT (by decide) U_refl)
  refine w_aload_n d63_0 rfl ?_
  refine w_dloadS d63_1 (ok.kd ok.kX) (fr1281 ok ok.kX) ?_
  refine w_callv1 d63_4 (by omega) rfl (ok.kd (kT1281 ok ok.kX)) (by simp) (Nat.le_of_ble_eq_true rfl) ?_
  refine r_Row_clear ok (kT1281 ok ok.kX) (fun h4 m4 e4_1 e4_2 => ?_)
  have ok4 := m4.ok
  have M4 := Mo.tr ok (Mo.refl (A := (fun ζ => ζ = (sT S 1281 (sX S)) ∨ U S (sT S 1283 (sX S)) ζ ∨ ζ = (sT S 393 (sT S 1284 (sX S))))) ok) m4 (fun ζ e => (Or.inl e))
  have H4 := D.f ok m4 nla2
  have b4 : BoV S h4 b0 := BoC.f ok m4 nlb2 Bk
  have L31 : ∀ (m31 : Nat) (g : Hp) , 0 = m31 → Mo S (fun ζ => ζ = (sT S 1281 (sX S)) ∨ U S (sT S 1283 (sX S)) ζ ∨ ζ = (sT S 393 (sT S 1284 (sX S)))) h g → (HoC S g v) → (BoV S g (bk0 w t b0)) → (rl g (sT S 1281 (sX S)) = []) → (cap g (sT S 1281 (sX S)) = cap h (sT S 1281 (sX S))) → Wp G d 63 31 [some (vR (some (sX S))), some (vI z), none] [] g Q := by
    intro m31
    induction m31 using Nat.strongRecOn with | ind m31 IH31 => ?_
    intro g  hm31 Mg j1 j2 j3 j4
    have okg := Mg.ok
    obtain ⟨pl, d2, ⟨y0, sd, sI, sL_, sY⟩, dtr, dno⟩ := id j1
    have nmg := hn0.f ok Mg kq (nQA _ (ok.so.uT (by decide) U_refl)) (nQA _ (ok.so.uT (by decide) U_refl))
    have DDg : t = 4 → DefC S g (sT S 524 (sT S 1282 (sX S))) a.2.2.1 (tgTxt a.2.2.1) := fun e => (hD e).mo ok Mg (kT524 ok kq) (fun y u => nQA y (U_trans (ok.so.uT (by decide) U_refl) u))
    have nug : AI g (sT S 520 (sT S 1282 (sX S))) = a.2.2.2 := (Mg.ai ok (by have := kT520 ok kq; omega) (nQA _ (ok.so.uT (by decide) U_refl))).trans hnu
    have hvg : FR g 514 (sT S 1282 (sX S)) = G t := (Mg.fr ok (by omega) (nQA _ U_refl) 514).trans hvb
    refine w_aload_n d63_31 rfl ?_
    refine w_callv1 d63_32 (by omega) rfl (okg.kd ok.kX) (by simp) (Nat.le_of_ble_eq_true rfl) ?_
    refine k_Ho_refusal okg (by omega) tg ht35 hvg ht12 pl d2 sd.2.1 sd.2.2.2.2.1 nmg DDg (fun ci h32 m32 e32_1 => ?_)
    have ok32 := m32.ok
    have M32 := Mo.tr ok Mg m32 (fun ζ e => (Or.inr (Or.inr e)))
    rw [nug] at e32_1 ⊢
    have cl := refN_lt (t := t) (P := v.1) (rs := v.2.1) (pu := (seGo v.2.2).1) (g := seOn v.2.2) (n := a.1) (D := a.2.2.1) (nu := a.2.2.2) (ci := ci)
    obtain ⟨gc, vgc, sgc⟩ := tg.tx ok32 (refN t v.1 v.2.1 (seGo v.2.2).1 (seOn v.2.2) a.1 a.2.2.1 a.2.2.2 ci) cl
    rw [show G (50 + refN t v.1 v.2.1 v.2.2.2.2.2.2.1.1 v.2.2.2.2.2.2.2.1 a.1 a.2.2.1 a.2.2.2 ci) = some gc from vgc]
    have H32 := j1.mk okg m32 (fun z q => Or.inl q)
    have B32 : BoV S h32 (bk0 w t b0) := BoC.f okg m32 (fun z u q => apX ok.so (f := 1283) (g := 1284) (by decide) (by decide) (by decide) z u (q ▸ ok.so.uT (by decide) U_refl)) j2
    have nl32 : sT S 1281 (sX S) ≠ sT S 393 (sT S 1284 (sX S)) := fun e => ok.so.nUT (f := 1284) (g := 1281) (x := sX S) (by decide) (by decide) (by decide) (e ▸ ok.so.uT (by decide) U_refl)
    have L32 : rl h32 (sT S 1281 (sX S)) = [] := (m32.rb okg kl nl32).trans j3
    have C32 : cap h32 (sT S 1281 (sX S)) = cap h (sT S 1281 (sX S)) := by rw [(m32.cp okg kl).2 nl32]; exact j4
    have R32 : rl h32 (sT S 512 (sT S 1282 (sX S))) = (rl h (sT S 512 (sT S 1282 (sX S)))) := M32.rb ok (kT512 ok kq) (nQA _ (ok.so.uT (by decide) U_refl))
    refine w_astore2 d63_35 rfl ?_
    refine w_aload_n d63_36 rfl ?_
    refine w_callv1 d63_37 (by omega) rfl sgc.1 (by simp) (Nat.le_of_ble_eq_true rfl) ?_
    refine c_Str_isEmpty sgc ?_
    refine w_ifeq d63_40 (fun c40 => ?_) (fun c40 => ?_)
    · have nc : ¬ (refN t v.1 v.2.1 (seGo v.2.2).1 (seOn v.2.2) a.1 a.2.2.1 a.2.2.2 ci) = 19 := fun e => by rw [if_pos ((txt_em cl).mpr e)] at c40; exact absurd c40 (by decide)
      refine w_aload_n d63_70 rfl ?_
      refine w_callv1 d63_71 (by omega) rfl sgc.1 (by simp) (Nat.le_of_ble_eq_true rfl) ?_
      refine c_Str_isEmpty sgc ?_
      rw [if_neg (fun e => nc ((txt_em cl).mp e))]
      refine w_ifne d63_74 (fun c74 => ?_) (fun c74 => ?_)
      · exact absurd rfl c74
      · refine w_aload_n d63_77 rfl ?_
        refine w_dloadS d63_78 (ok32.kd ok.kX) (fr1281 ok32 ok.kX) ?_
        refine w_aload_n d63_81 rfl ?_
        refine w_callv2 d63_82 (by omega) rfl (ok32.kd (kT1281 ok32 ok.kX)) (by simp) (Nat.le_of_ble_eq_true rfl) ?_
        refine r_Row_addText (by omega) ok32 (kT1281 ok32 ok.kX) sgc (fun h82 m82 e82_1 e82_2 => ?_)
        have ok82 := m82.ok
        have M82 := Mo.tr ok M32 m82 (fun ζ e => (Or.inl e))
        refine w_iconst d63_85 (by decide) ?_
        refine w_zreturn d63_86 (by decide) ?_
        refine kk ci false _ h82 M82 e32_1 (H32.f ok32 m82 nla2) (BoC.f ok32 m82 nlb2 B32) (Or.inr ⟨fun q => nc q.1, rfl, ?_, rfl⟩) (by rw [e82_2, C32])
        rw [if_neg nc, e82_1, L32]
        exact addBs_lat (by omega) (by have := txt_300 cl; omega)
    · have yc : (refN t v.1 v.2.1 (seGo v.2.2).1 (seOn v.2.2) a.1 a.2.2.1 a.2.2.2 ci) = 19 := (txt_em cl).mp (by by_cases e : (txt (refN t v.1 v.2.1 (seGo v.2.2).1 (seOn v.2.2) a.1 a.2.2.1 a.2.2.2 ci)).length = 0; exact e; rw [if_neg e] at c40; exact absurd rfl c40)
      refine w_iload_n d63_43 rfl ?_
      refine w_ifeq d63_44 (fun c44 => ?_) (fun c44 => ?_)
      · have w0 : ¬ w = true := fun e => by rw [hz, e] at c44; exact absurd c44 (by decide)
        refine w_aload_n d63_70 rfl ?_
        refine w_callv1 d63_71 (by omega) rfl sgc.1 (by simp) (Nat.le_of_ble_eq_true rfl) ?_
        refine c_Str_isEmpty sgc ?_
        rw [if_pos ((txt_em cl).mpr yc)]
        refine w_ifne d63_74 (fun c74 => ?_) (fun c74 => ?_)
        · refine w_iload_n d63_87 rfl ?_
          refine w_ifeq d63_88 (fun c88 => ?_) (fun c88 => ?_)
          · refine w_iconst d63_105 (by decide) ?_
            refine w_zreturn d63_106 (by decide) ?_
            exact kk ci true _ h32 M32 e32_1 H32 B32 (Or.inl ⟨⟨yc, fun e => absurd e w0⟩, rfl, L32, by rw [if_neg w0]⟩) C32
          · exact absurd c44 c88
        · exact absurd c74 (by decide)
      · have w1 : w = true := by cases e : w with
          | true => rfl
          | false => rw [hz, e] at c44; exact absurd rfl c44
        refine w_aload_n d63_47 rfl ?_
        refine w_dloadS d63_48 (ok32.kd ok.kX) (fr1283 ok32 ok.kX) ?_
        refine w_aload_n d63_51 rfl ?_
        refine w_dloadS d63_52 (ok32.kd ok.kX) (fr1282 ok32 ok.kX) ?_
        refine w_dloadS d63_55 (ok32.kd (kT1282 ok32 ok.kX)) (fr512 ok32 (kT1282 ok32 ok.kX)) ?_
        refine w_callv1 d63_58 (by omega) rfl (ok32.kd (kT512 ok32 (kT1282 ok32 ok.kX))) (by simp) (Nat.le_of_ble_eq_true rfl) ?_
        refine r_Row_size ok32 (kT512 ok32 (kT1282 ok32 ok.kX)) ?_
        rw [R32]
        refine w_callv2 d63_61 (by omega) rfl (ok32.kd (kT1283 ok32 ok.kX)) (by simp) (Nat.le_of_ble_eq_true rfl) ?_
        refine k_Book_fits (u := (bk0 w t b0).2.1) (n := (rl h (sT S 512 (sT S 1282 (sX S)))).length) ok32 (by omega) kb B32.2.1 (by omega) ?_
        refine w_ifne d63_64 (fun c64 => ?_) (fun c64 => ?_)
        · have yf : bkF (bk0 w t b0) (rl h (sT S 512 (sT S 1282 (sX S)))).length := by by_cases e : bkF (bk0 w t b0) (rl h (sT S 512 (sT S 1282 (sX S)))).length; exact e; unfold bkF at e; rw [if_neg e] at c64; exact absurd rfl c64
          refine w_aload_n d63_70 rfl ?_
          refine w_callv1 d63_71 (by omega) rfl sgc.1 (by simp) (Nat.le_of_ble_eq_true rfl) ?_
          refine c_Str_isEmpty sgc ?_
          rw [if_pos ((txt_em cl).mpr yc)]
          refine w_ifne d63_74 (fun c74 => ?_) (fun c74 => ?_)
          · refine w_iload_n d63_87 rfl ?_
            refine w_ifeq d63_88 (fun c88 => ?_) (fun c88 => ?_)
            · exact (c44 c88).elim
            · refine w_aload_n d63_91 rfl ?_
              refine w_dloadS d63_92 (ok32.kd ok.kX) (fr1283 ok32 ok.kX) ?_
              refine w_aload_n d63_95 rfl ?_
              refine w_dloadS d63_96 (ok32.kd ok.kX) (fr1282 ok32 ok.kX) ?_
              refine w_dloadS d63_99 (ok32.kd (kT1282 ok32 ok.kX)) (fr512 ok32 (kT1282 ok32 ok.kX)) ?_
              refine w_callv2 d63_102 (by omega) rfl (ok32.kd (kT1283 ok32 ok.kX)) (by simp) (Nat.le_of_ble_eq_true rfl) ?_
              refine k_Book_write ok32 (by omega) kb (kT512 ok kq) B32.1 B32.2.1 (by rw [R32]; exact yf) (fun q => apX ok.so (f := 1282) (g := 1283) (by decide) (by decide) (by decide) _ (ok.so.uT (by decide) U_refl) q) (fun h102 m102 e102_1 e102_2 e102_3 e102_4 => ?_)
              rw [R32] at e102_1 e102_2
              have ok102 := m102.ok
              have M102 := Mo.tr ok M32 m102 (fun ζ u => (Or.inr (Or.inl (U_trans U_refl u))))
              refine w_iconst d63_105 (by decide) ?_
              refine w_zreturn d63_106 (by decide) ?_
              refine kk ci true (bkW (bk0 w t b0) (rl h (sT S 512 (sT S 1282 (sX S))))) h102 M102 e32_1 (H32.f ok32 m102 (fun f f1 f2 => apX ok.so (f := f) (g := 1283) (by omega) (by decide) (by omega))) ⟨e102_1, e102_2, e102_3, e102_4.trans B32.2.2.2⟩ (Or.inl ⟨⟨yc, fun _ => yf⟩, rfl, (m102.rb ok32 kl nlB).trans L32, by rw [if_pos w1]⟩) (by rw [(m102.cp ok32 kl).2 nlB, C32])
          · exact absurd c74 (by decide)
        · have nf : ¬ bkF (bk0 w t b0) (rl h (sT S 512 (sT S 1282 (sX S)))).length := fun e => by unfold bkF at e; rw [if_pos e] at c64; exact absurd c64 (by decide)
          obtain ⟨g67, v67, s67⟩ := tg.tx ok32 18 (by decide)
          refine w_getstaticS d63_67 v67 ?_
          refine w_astore2 d63_69 rfl ?_
          refine w_aload_n d63_70 rfl ?_
          refine w_callv1 d63_71 (by omega) rfl s67.1 (by simp) (Nat.le_of_ble_eq_true rfl) ?_
          refine c_Str_isEmpty s67 ?_
          rw [if_neg (fun e => absurd ((txt_em (by decide)).mp e) (by decide))]
          refine w_ifne d63_74 (fun c74 => ?_) (fun c74 => ?_)
          · exact absurd rfl c74
          · refine w_aload_n d63_77 rfl ?_
            refine w_dloadS d63_78 (ok32.kd ok.kX) (fr1281 ok32 ok.kX) ?_
            refine w_aload_n d63_81 rfl ?_
            refine w_callv2 d63_82 (by omega) rfl (ok32.kd (kT1281 ok32 ok.kX)) (by simp) (Nat.le_of_ble_eq_true rfl) ?_
            refine r_Row_addText (by omega) ok32 (kT1281 ok32 ok.kX) s67 (fun h82 m82 e82_1 e82_2 => ?_)
            have ok82 := m82.ok
            have M82 := Mo.tr ok M32 m82 (fun ζ e => (Or.inl e))
            refine w_iconst d63_85 (by decide) ?_
            refine w_zreturn d63_86 (by decide) ?_
            refine kk ci false _ h82 M82 e32_1 (H32.f ok32 m82 nla2) (BoC.f ok32 m82 nlb2 B32) (Or.inr ⟨fun q => nf (q.2 w1), rfl, ?_, rfl⟩) (by rw [e82_2, C32])
            rw [if_pos yc, e82_1, L32]
            exact addBs_lat (by omega) (by decide)
  refine w_iload_n d63_7 rfl ?_
  refine w_ifeq d63_8 (fun c8 => ?_) (fun c8 => ?_)
  · have nb : ¬ (w = true ∧ t = 0) := fun e => by rw [hz, e.1] at c8; exact absurd c8 (by decide)
    refine w_less ?_ (L31 _ h4  rfl M4 H4 (by unfold bk0; rw [if_neg nb]; exact b4) e4_1 e4_2)
    exact ⟨Or.inr rfl, Or.inr rfl, Or.inl rfl, trivial⟩
  · have w1 : w = true := by cases e : w with
      | true => rfl
      | false => rw [hz, e] at c8; exact absurd rfl c8
    refine w_aload_n d63_11 rfl ?_
    refine w_dloadS d63_12 (ok4.kd ok.kX) (fr1282 ok4 ok.kX) ?_
    refine w_dloadS d63_15 (ok4.kd (kT1282 ok4 ok.kX)) ((m4.fr ok (by omega) nql 514).trans (hvb.trans g1)) ?_
    refine w_getstaticS d63_18 z1 ?_
    refine w_acmpne d63_21 (fun c21 => ?_) (fun c21 => ?_)
    · have nb : ¬ (w = true ∧ t = 0) := fun e => by rw [e.2] at g1; rw [g1] at z1; exact c21 z1
      refine w_less ?_ (L31 _ h4  rfl M4 H4 (by unfold bk0; rw [if_neg nb]; exact b4) e4_1 e4_2)
      exact ⟨Or.inr rfl, Or.inr rfl, Or.inl rfl, trivial⟩
    · have t0 : t = 0 := vb_inj tg ok ht35 (by decide) (by rw [g1, z1]; exact c21)
      refine w_aload_n d63_24 rfl ?_
      refine w_dloadS d63_25 (ok4.kd ok.kX) (fr1283 ok4 ok.kX) ?_
      refine w_callv1 d63_28 (by omega) rfl (ok4.kd (kT1283 ok4 ok.kX)) (by simp) (Nat.le_of_ble_eq_true rfl) ?_
      refine k_Book_begin ok4 (by omega) kb b4.1 (fun h28 m28 e28_1 e28_2 e28_3 e28_4 => ?_)
      have ok28 := m28.ok
      have M28 := Mo.tr ok M4 m28 (fun ζ u => (Or.inr (Or.inl (U_trans U_refl u))))
      have H28 := H4.f ok4 m28 (fun f f1 f2 => apX ok.so (f := f) (g := 1283) (by omega) (by decide) (by omega))
      refine w_less ?_ (L31 _ h28  rfl M28 H28 (by unfold bk0; rw [if_pos ⟨w1, t0⟩]; exact ⟨e28_1, e28_2, e28_3, e28_4⟩) (by rw [m28.rb ok4 kl nlB]; exact e4_1) (by rw [(m28.cp ok4 kl).2 nlB]; exact e4_2))
      exact ⟨Or.inr rfl, Or.inr rfl, Or.inl rfl, trivial⟩
