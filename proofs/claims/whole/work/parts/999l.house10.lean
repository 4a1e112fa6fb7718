/-! the house: the book is done again -/
/-- the record at a is right, may be done -/
def mdC (B : Nat → Nat) (a : Nat) (v : HoS) : Prop := recOk B a ∧ qrR (recL B a) = true ∧ kd (qrT (recL B a)) = 0 ∧ rfQ (recL B a) v = 19
/-- the records from a on are done, n are done already: the house, where it stops, how many -/
noncomputable def mdS (L : Nat) (B : Nat → Nat) : Nat → HoS → Nat → Nat → HoS × Nat × Nat
  | 0, v, a, n => (v, a, n)
  | f + 1, v, a, n => @ite _ (mdC B a v) (Classical.propDecidable _) (mdS L B f (caS L (qrT (recL B a)) (qrA (recL B a) (qrN (recL B a))) v).1 (a + ((recL B a).length + 2)) (n + 1)) (v, a, n)
theorem mdS_no {L f a n : Nat} {B : Nat → Nat} {v : HoS} (h : ¬ mdC B a v) : mdS L B f v a n = (v, a, n) := by
  cases f with
  | zero => rfl
  | succ f => rw [mdS, if_neg h]
theorem mdS_go {L f a n : Nat} {B : Nat → Nat} {v : HoS} (hf : 0 < f) (h : mdC B a v) : mdS L B f v a n = mdS L B (f - 1) (caS L (qrT (recL B a)) (qrA (recL B a) (qrN (recL B a))) v).1 (a + ((recL B a).length + 2)) (n + 1) := by
  obtain ⟨f, rfl⟩ : ∃ k, f = k + 1 := ⟨f - 1, by omega⟩
  rw [mdS, if_pos h]
  rfl
theorem kd_12 : ∀ t : Fin 35, (kd t.val = 0 → t.val ≤ 12) ∧ (t.val ≤ 12 → kd t.val = 0) := by decide
theorem d51_0 : dc 51 0 = some (.aload_n 0, 1) := by decide +kernel
theorem d51_1 : dc 51 1 = some (.invokevirtual 52, 4) := by decide +kernel
theorem d51_4 : dc 51 4 = some (.iconst 0, 5) := by decide +kernel
theorem d51_5 : dc 51 5 = some (.istore_n 1, 6) := by decide +kernel
theorem d51_6 : dc 51 6 = some (.iconst 0, 7) := by decide +kernel
theorem d51_7 : dc 51 7 = some (.istore_n 2, 8) := by decide +kernel
theorem d51_8 : dc 51 8 = some (.iload_n 2, 9) := by decide +kernel
theorem d51_9 : dc 51 9 = some (.sipush 2048, 12) := by decide +kernel
theorem d51_12 : dc 51 12 = some (.if_icmp .ge ((101 : Nat) : Int), 15) := by decide +kernel
theorem d51_15 : dc 51 15 = some (.aload_n 0, 16) := by decide +kernel
theorem d51_16 : dc 51 16 = some (.dload 1283, 19) := by decide +kernel
theorem d51_19 : dc 51 19 = some (.iload_n 1, 20) := by decide +kernel
theorem d51_20 : dc 51 20 = some (.aload_n 0, 21) := by decide +kernel
theorem d51_21 : dc 51 21 = some (.dload 1282, 24) := by decide +kernel
theorem d51_24 : dc 51 24 = some (.dload 512, 27) := by decide +kernel
theorem d51_27 : dc 51 27 = some (.invokevirtual 60, 30) := by decide +kernel
theorem d51_30 : dc 51 30 = some (.ifCond .eq ((101 : Nat) : Int), 33) := by decide +kernel
theorem d51_33 : dc 51 33 = some (.aload_n 0, 34) := by decide +kernel
theorem d51_34 : dc 51 34 = some (.dload 1282, 37) := by decide +kernel
theorem d51_37 : dc 51 37 = some (.dload 512, 40) := by decide +kernel
theorem d51_40 : dc 51 40 = some (.invokevirtual 13, 43) := by decide +kernel
theorem d51_43 : dc 51 43 = some (.istore_n 3, 44) := by decide +kernel
theorem d51_44 : dc 51 44 = some (.aload_n 0, 45) := by decide +kernel
theorem d51_45 : dc 51 45 = some (.dload 1282, 48) := by decide +kernel
theorem d51_48 : dc 51 48 = some (.invokevirtual 19, 51) := by decide +kernel
theorem d51_51 : dc 51 51 = some (.aload_n 0, 52) := by decide +kernel
theorem d51_52 : dc 51 52 = some (.dload 1282, 55) := by decide +kernel
theorem d51_55 : dc 51 55 = some (.getfield 515, 58) := by decide +kernel
theorem d51_58 : dc 51 58 = some (.ifCond .ge ((101 : Nat) : Int), 61) := by decide +kernel
theorem d51_61 : dc 51 61 = some (.aload_n 0, 62) := by decide +kernel
theorem d51_62 : dc 51 62 = some (.dload 1282, 65) := by decide +kernel
theorem d51_65 : dc 51 65 = some (.dload 514, 68) := by decide +kernel
theorem d51_68 : dc 51 68 = some (.getfield 2178, 71) := by decide +kernel
theorem d51_71 : dc 51 71 = some (.ifCond .ne ((101 : Nat) : Int), 74) := by decide +kernel
theorem d51_74 : dc 51 74 = some (.aload_n 0, 75) := by decide +kernel
theorem d51_75 : dc 51 75 = some (.iconst 0, 76) := by decide +kernel
theorem d51_76 : dc 51 76 = some (.invokevirtual 63, 79) := by decide +kernel
theorem d51_79 : dc 51 79 = some (.ifCond .ne ((85 : Nat) : Int), 82) := by decide +kernel
theorem d51_82 : dc 51 82 = some (.goto ((101 : Nat) : Int), 85) := by decide +kernel
theorem d51_85 : dc 51 85 = some (.aload_n 0, 86) := by decide +kernel
theorem d51_86 : dc 51 86 = some (.invokevirtual 86, 89) := by decide +kernel
theorem d51_89 : dc 51 89 = some (.iload_n 1, 90) := by decide +kernel
theorem d51_90 : dc 51 90 = some (.iload_n 3, 91) := by decide +kernel
theorem d51_91 : dc 51 91 = some (.iconst 2, 92) := by decide +kernel
theorem d51_92 : dc 51 92 = some (.iadd, 93) := by decide +kernel
theorem d51_93 : dc 51 93 = some (.iadd, 94) := by decide +kernel
theorem d51_94 : dc 51 94 = some (.istore_n 1, 95) := by decide +kernel
theorem d51_95 : dc 51 95 = some (.iinc 2 1, 98) := by decide +kernel
theorem d51_98 : dc 51 98 = some (.goto ((8 : Nat) : Int), 101) := by decide +kernel
theorem d51_101 : dc 51 101 = some (.aload_n 0, 102) := by decide +kernel
theorem d51_102 : dc 51 102 = some (.dload 1283, 105) := by decide +kernel
theorem d51_105 : dc 51 105 = some (.iload_n 1, 106) := by decide +kernel
theorem d51_106 : dc 51 106 = some (.invokevirtual 65, 109) := by decide +kernel
theorem d51_109 : dc 51 109 = some (.aload_n 0, 110) := by decide +kernel
theorem d51_110 : dc 51 110 = some (.dload 1281, 113) := by decide +kernel
theorem d51_113 : dc 51 113 = some (.invokevirtual 18, 116) := by decide +kernel
theorem d51_116 : dc 51 116 = some (.aload_n 0, 117) := by decide +kernel
theorem d51_117 : dc 51 117 = some (.dload 1281, 120) := by decide +kernel
theorem d51_120 : dc 51 120 = some (.iload_n 2, 121) := by decide +kernel
theorem d51_121 : dc 51 121 = some (.invokevirtual 124, 124) := by decide +kernel
theorem d51_124 : dc 51 124 = some (.return_, 125) := by decide +kernel
theorem k_Ho_mend {S : Shp} {G : Nat → Option Nat} {d : Nat} {h : Hp} {Q : Option MV → Hp → Prop} (ok : Ok S h) (h1 : 12 ≤ d) (tg : Tg S G) {v0 : HoS} {b : BkV} {k0 : Nat} (D : HoC S h v0) (Bk : BoV S h b) (I : hInv k0 v0) (hk0 : k0 ≤ 60000) (hcl : 4096 ≤ cap h (sT S 1281 (sX S)))
    (kk : ∀ h', Mo S (fun z => U S (sT S 1284 (sX S)) z ∨ U S (sT S 1285 (sX S)) z ∨ U S (sT S 1286 (sX S)) z ∨ U S (sT S 1287 (sX S)) z ∨ U S (sT S 1288 (sX S)) z ∨ U S (sT S 1283 (sX S)) z ∨ z = sT S 1281 (sX S) ∨ U S (sT S 1282 (sX S)) z) h h' → HoC S h' (mdS (stL S (sT S 1286 (sX S))) b.1 2048 (hoNo v0) 0 0).1 → BoV S h' (clB b.1 (mdS (stL S (sT S 1286 (sX S))) b.1 2048 (hoNo v0) 0 0).2.1 2048, (mdS (stL S (sT S 1286 (sX S))) b.1 2048 (hoNo v0) 0 0).2.1, -1, false) → hInv (k0 + 683) (mdS (stL S (sT S 1286 (sX S))) b.1 2048 (hoNo v0) 0 0).1 → (mdS (stL S (sT S 1286 (sX S))) b.1 2048 (hoNo v0) 0 0).2.1 ≤ 2048 → rl h' (sT S 1281 (sX S)) = addBs (cap h (sT S 1281 (sX S))) [] (dec (mdS (stL S (sT S 1286 (sX S))) b.1 2048 (hoNo v0) 0 0).2.2) → cap h' (sT S 1281 (sX S)) = cap h (sT S 1281 (sX S)) → Q none h') : Cl G d 51 [vR (some (sX S))] h Q := by
  show Wp G d 51 0 [some (vR (some (sX S))), none, none, none] [] h Q
  have kq := kT1282 ok ok.kX
  have kl := kT1281 ok ok.kX
  have kb := kT1283 ok ok.kX
  have kr := kT512 ok kq
  have nla2 : ∀ f, 1284 ≤ f → f ≤ 1288 → ∀ z, U S (sT S f (sX S)) z → ¬ z = sT S 1281 (sX S) := fun f f1 f2 z u q => ok.so.nUT (f := f) (g := 1281) (x := sX S) (by omega) (by decide) (by omega) (q ▸ u)
  have nqh : ∀ f, 1284 ≤ f → f ≤ 1288 → ∀ z, U S (sT S f (sX S)) z → ¬ U S (sT S 1282 (sX S)) z := fun f f1 f2 z u => apX ok.so (f := f) (g := 1282) (by omega) (by decide) (by omega) z u
  have nqb : ∀ z, U S (sT S 1283 (sX S)) z → ¬ U S (sT S 1282 (sX S)) z := fun z u => apX ok.so (f := 1283) (g := 1282) (by decide) (by decide) (by decide) z u
  have nrh : ∀ f, 1284 ≤ f → f ≤ 1288 → ∀ z, U S (sT S f (sX S)) z → ¬ z = (sT S 512 (sT S 1282 (sX S))) := fun f f1 f2 z u e => nqh f f1 f2 z u (e ▸ ok.so.uT (by decide) U_refl)
  have nrb : ∀ z, U S (sT S 1283 (sX S)) z → ¬ z = (sT S 512 (sT S 1282 (sX S))) := fun z u e => nqb z u (e ▸ ok.so.uT (by decide) U_refl)
  have nlq : ¬ U S (sT S 1282 (sX S)) (sT S 1281 (sX S)) := fun u => ok.so.nUT (f := 1282) (g := 1281) (x := sX S) (by decide) (by decide) (by decide) u
  have nlr : sT S 1281 (sX S) ≠ (sT S 512 (sT S 1282 (sX S))) := fun e => nlq (e ▸ ok.so.uT (by decide) U_refl)
  have cr : 200 ≤ sC S (sT S 512 (sT S 1282 (sX S))) := Nat.le_trans (m := fc 512) (by decide) ((ok.so.2.2.1 512 _ (by decide) kq).2.2)
  have nlb2 : ∀ z, U S (sT S 1283 (sX S)) z → ¬ z = sT S 1281 (sX S) := fun z u q => ok.so.nUT (f := 1283) (g := 1281) (x := sX S) (by decide) (by decide) (by decide) (q ▸ u)
  have nq2 : ∀ z, U S (sT S 1282 (sX S)) z → ¬ z = sT S 1281 (sX S) := fun z u q => nlq (q ▸ u)
  have nlk : ¬ U S (sT S 1283 (sX S)) (sT S 1281 (sX S)) := fun u => nlb2 _ u rfl
  have nbh : ∀ f, 1284 ≤ f → f ≤ 1288 → ∀ z, U S (sT S f (sX S)) z → ¬ U S (sT S 1283 (sX S)) z := fun f f1 f2 z u => apX ok.so (f := f) (g := 1283) (by omega) (by decide) (by omega) z u
  have nqA : ∀ y, U S (sT S 1282 (sX S)) y → ¬ (y = sT S 1281 (sX S) ∨ U S (sT S 1283 (sX S)) y ∨ y = sT S 393 (sT S 1284 (sX S))) := fun y u q => by
    rcases q with q | q | q
    · exact nq2 y u q
    · exact apX ok.so (f := 1282) (g := 1283) (by decide) (by decide) (by decide) y u q
    · exact apX ok.so (f := 1282) (g := 1284) (by decide) (by decide) (by decide) y u (q ▸ ok.so.uT (by decide) U_refl)
  have nbA : ∀ z, U S (sT S 1283 (sX S)) z → ¬ (U S (sT S 1284 (sX S)) z ∨ U S (sT S 1285 (sX S)) z ∨ U S (sT S 1286 (sX S)) z ∨ U S (sT S 1288 (sX S)) z ∨ z = sT S 1281 (sX S)) := fun z u q => by
    rcases q with q | q | q | q | q
    · exact apX ok.so (f := 1283) (g := 1284) (by decide) (by decide) (by decide) z u q
    · exact apX ok.so (f := 1283) (g := 1285) (by decide) (by decide) (by decide) z u q
    · exact apX ok.so (f := 1283) (g := 1286) (by decide) (by decide) (by decide) z u q
    · exact apX ok.so (f := 1283) (g := 1288) (by decide) (by decide) (by decide) z u q
    · exact nlb2 z u q
  refine w_aload_n d51_0 rfl ?_
  refine w_callv1 d51_1 (by omega) rfl (ok.kd ok.kX) (by simp) (Nat.le_of_ble_eq_true rfl) ?_
  refine k_Ho_forget ok (by omega) D (fun h1 m1 e1_1 => ?_)
  have ok1 := m1.ok
  have M1 := Mo.tr ok (Mo.refl (A := (fun ζ => U S (sT S 1284 (sX S)) ζ ∨ U S (sT S 1285 (sX S)) ζ ∨ U S (sT S 1286 (sX S)) ζ ∨ U S (sT S 1287 (sX S)) ζ ∨ U S (sT S 1288 (sX S)) ζ ∨ U S (sT S 1283 (sX S)) ζ ∨ ζ = (sT S 1281 (sX S)) ∨ U S (sT S 1282 (sX S)) ζ)) ok) m1 (fun z q => by rcases q with q | q | q; exact Or.inl q; exact Or.inr (Or.inl (q ▸ U_refl)); exact Or.inr (Or.inr (Or.inl q)))
  refine w_iconst d51_4 (by decide) ?_
  refine w_istore1 d51_5 rfl ?_
  refine w_iconst d51_6 (by decide) ?_
  refine w_istore2 d51_7 rfl ?_
  have L8 : ∀ (m8 : Nat) (g : Hp) (a n : Nat) (v : HoS), 2048 - n = m8 → Mo S (fun ζ => U S (sT S 1284 (sX S)) ζ ∨ U S (sT S 1285 (sX S)) ζ ∨ U S (sT S 1286 (sX S)) ζ ∨ U S (sT S 1287 (sX S)) ζ ∨ U S (sT S 1288 (sX S)) ζ ∨ U S (sT S 1283 (sX S)) ζ ∨ ζ = (sT S 1281 (sX S)) ∨ U S (sT S 1282 (sX S)) ζ) h g → (HoC S g v) → (BoV S g b) → (cap g (sT S 1281 (sX S)) = cap h (sT S 1281 (sX S))) → (hInv (k0 + n) v) → (3 * n ≤ a ∧ a ≤ 2048) → (mdS (stL S (sT S 1286 (sX S))) b.1 2048 (hoNo v0) 0 0 = mdS (stL S (sT S 1286 (sX S))) b.1 (2048 - n) v a n) → Wp G d 51 8 [some (vR (some (sX S))), some (vI (a : Nat)), some (vI (n : Nat)), none] [] g Q := by
    intro m8
    induction m8 using Nat.strongRecOn with | ind m8 IH8 => ?_
    intro g a n v hm8 Mg iD iB iC iI ia iE
    have okg := Mg.ok
    refine w_iload_n d51_8 rfl ?_
    refine w_sipush d51_9 (by decide) ?_
    refine w_icmpge d51_12 (fun c12 => ?_) (fun c12 => ?_)
    · have DX := iD
      have BX := iB
      have CX := iC
      have EX : mdS (stL S (sT S 1286 (sX S))) b.1 2048 (hoNo v0) 0 0 = (v, a, n) := by rw [iE, show 2048 - n = 0 by omega]; rfl
      refine w_aload_n d51_101 rfl ?_
      refine w_dloadS d51_102 (okg.kd okg.kX) (fr1283 okg okg.kX) ?_
      refine w_iload_n d51_105 rfl ?_
      have okX := okg
      refine w_callv2 d51_106 (by omega) rfl (okg.kd (kT1283 okg okg.kX)) (by simp) (Nat.le_of_ble_eq_true rfl) ?_
      refine k_Book_open okg (by omega) kb BX.1 (by omega) (fun h106 m106 e106_1 e106_2 e106_3 e106_4 => ?_)
      have ok106 := m106.ok
      have M106 := Mo.tr ok Mg m106 (fun ζ u => (Or.inr (Or.inr (Or.inr (Or.inr (Or.inr (Or.inl (U_trans U_refl u))))))))
      refine w_aload_n d51_109 rfl ?_
      refine w_dloadS d51_110 (ok106.kd okg.kX) (fr1281 ok106 okg.kX) ?_
      refine w_callv1 d51_113 (by omega) rfl (ok106.kd (kT1281 ok106 okg.kX)) (by simp) (Nat.le_of_ble_eq_true rfl) ?_
      refine r_Row_clear ok106 (kT1281 ok106 okg.kX) (fun h113 m113 e113_1 e113_2 => ?_)
      have ok113 := m113.ok
      have M113 := Mo.tr ok M106 m113 (fun ζ e => (Or.inr (Or.inr (Or.inr (Or.inr (Or.inr (Or.inr (Or.inl e))))))))
      refine w_aload_n d51_116 rfl ?_
      refine w_dloadS d51_117 (ok113.kd okg.kX) (fr1281 ok113 okg.kX) ?_
      refine w_iload_n d51_120 rfl ?_
      refine w_callv2 d51_121 (by omega) rfl (ok113.kd (kT1281 ok113 okg.kX)) (by simp) (Nat.le_of_ble_eq_true rfl) ?_
      refine r_Row_addNumber (by omega) ok113 (kT1281 ok113 okg.kX) (by omega) (fun h121 m121 e121_1 e121_2 => ?_)
      have ok121 := m121.ok
      have M121 := Mo.tr ok M113 m121 (fun ζ e => (Or.inr (Or.inr (Or.inr (Or.inr (Or.inr (Or.inr (Or.inl e))))))))
      refine w_return d51_124 ?_
      rw [EX] at kk
      refine kk h121 M121 ((((DX.f okX m106 nbh).f ok106 m113 nla2).f ok113 m121 nla2)) ((BoC.f ok113 m121 nlb2 (BoC.f ok106 m113 nlb2 ⟨e106_1, e106_2, e106_3, by rw [e106_4]; rfl⟩))) (iI.up (by omega)) ia.2 (by rw [e121_1, e113_1, e113_2, (m106.cp okX kl).2 nlk, CX]) (by rw [e121_2, e113_2, (m106.cp okX kl).2 nlk, CX])
    · have hn12 : n < 2048 := by omega
      have hs12 : 2048 - (n + 1) < 2048 - n := by omega
      have hq12 : 2048 - n - 1 = 2048 - (n + 1) := by omega
      have hp12 : 0 < 2048 - n := by omega
      refine w_aload_n d51_15 rfl ?_
      refine w_dloadS d51_16 (okg.kd okg.kX) (fr1283 okg okg.kX) ?_
      refine w_iload_n d51_19 rfl ?_
      refine w_aload_n d51_20 rfl ?_
      refine w_dloadS d51_21 (okg.kd okg.kX) (fr1282 okg okg.kX) ?_
      refine w_dloadS d51_24 (okg.kd (kT1282 okg okg.kX)) (fr512 okg (kT1282 okg okg.kX)) ?_
      refine w_callv3 d51_27 (by omega) rfl (okg.kd (kT1283 okg okg.kX)) (by simp) (Nat.le_of_ble_eq_true rfl) ?_
      refine k_Book_readRecord okg (by omega) kb kr iB.1 (by omega) (fun u => nqb _ u (ok.so.uT (by decide) U_refl)) cr (fun h27 v27 m27 e27_1 e27_2 => ?_)
      have ok27 := m27.ok
      have M27 := Mo.tr ok Mg m27 (fun ζ e => (Or.inr (Or.inr (Or.inr (Or.inr (Or.inr (Or.inr (Or.inr (e ▸ (ok.so.uT (by decide) U_refl))))))))))
      have D27 := iD.f okg m27 nrh
      have B27 : BoV S h27 b := BoC.f okg m27 nrb iB
      have C27 := ((m27.cp okg kl).2 nlr).trans iC
      refine w_ifeq d51_30 (fun c30 => ?_) (fun c30 => ?_)
      · have f27 : v27 = false := by cases z : v27 with
          | true => rw [z] at c30; exact absurd c30 (by decide)
          | false => rfl
        have DX := D27
        have BX := B27
        have CX := C27
        have nX : ¬ mdC b.1 a v := fun z => by have := e27_1.mpr z.1; rw [f27] at this; exact absurd this (by decide)
        have EX : mdS (stL S (sT S 1286 (sX S))) b.1 2048 (hoNo v0) 0 0 = (v, a, n) := by rw [iE]; exact mdS_no nX
        refine w_aload_n d51_101 rfl ?_
        refine w_dloadS d51_102 (ok27.kd okg.kX) (fr1283 ok27 okg.kX) ?_
        refine w_iload_n d51_105 rfl ?_
        have okX := ok27
        refine w_callv2 d51_106 (by omega) rfl (ok27.kd (kT1283 ok27 okg.kX)) (by simp) (Nat.le_of_ble_eq_true rfl) ?_
        refine k_Book_open ok27 (by omega) kb BX.1 (by omega) (fun h106 m106 e106_1 e106_2 e106_3 e106_4 => ?_)
        have ok106 := m106.ok
        have M106 := Mo.tr ok M27 m106 (fun ζ u => (Or.inr (Or.inr (Or.inr (Or.inr (Or.inr (Or.inl (U_trans U_refl u))))))))
        refine w_aload_n d51_109 rfl ?_
        refine w_dloadS d51_110 (ok106.kd okg.kX) (fr1281 ok106 okg.kX) ?_
        refine w_callv1 d51_113 (by omega) rfl (ok106.kd (kT1281 ok106 okg.kX)) (by simp) (Nat.le_of_ble_eq_true rfl) ?_
        refine r_Row_clear ok106 (kT1281 ok106 okg.kX) (fun h113 m113 e113_1 e113_2 => ?_)
        have ok113 := m113.ok
        have M113 := Mo.tr ok M106 m113 (fun ζ e => (Or.inr (Or.inr (Or.inr (Or.inr (Or.inr (Or.inr (Or.inl e))))))))
        refine w_aload_n d51_116 rfl ?_
        refine w_dloadS d51_117 (ok113.kd okg.kX) (fr1281 ok113 okg.kX) ?_
        refine w_iload_n d51_120 rfl ?_
        refine w_callv2 d51_121 (by omega) rfl (ok113.kd (kT1281 ok113 okg.kX)) (by simp) (Nat.le_of_ble_eq_true rfl) ?_
        refine r_Row_addNumber (by omega) ok113 (kT1281 ok113 okg.kX) (by omega) (fun h121 m121 e121_1 e121_2 => ?_)
        have ok121 := m121.ok
        have M121 := Mo.tr ok M113 m121 (fun ζ e => (Or.inr (Or.inr (Or.inr (Or.inr (Or.inr (Or.inr (Or.inl e))))))))
        refine w_return d51_124 ?_
        rw [EX] at kk
        refine kk h121 M121 ((((DX.f okX m106 nbh).f ok106 m113 nla2).f ok113 m121 nla2)) ((BoC.f ok113 m121 nlb2 (BoC.f ok106 m113 nlb2 ⟨e106_1, e106_2, e106_3, by rw [e106_4]; rfl⟩))) (iI.up (by omega)) ia.2 (by rw [e121_1, e113_1, e113_2, (m106.cp okX kl).2 nlk, CX]) (by rw [e121_2, e113_2, (m106.cp okX kl).2 nlk, CX])
      · have t27 : v27 = true := by cases z : v27 with
          | true => rfl
          | false => rw [z] at c30; exact absurd rfl c30
        have rk := e27_1.mp t27
        have rl27 := e27_2 t27
        have rlen := recL_len b.1 a
        obtain ⟨rk1, rk2, rk3, rk4, rk5⟩ := id rk
        have ia2 : 3 * (n + 1) ≤ a + ((recL b.1 a).length + 2) ∧ a + ((recL b.1 a).length + 2) ≤ 2048 := by omega
        have ix2 : ((a : Nat) : Int) + ((((recL b.1 a).length : Nat) : Int) + 2) = ((a + ((recL b.1 a).length + 2) : Nat) : Int) := by omega
        have rll : (recL b.1 a).length ≤ 200 := by omega
        refine w_aload_n d51_33 rfl ?_
        refine w_dloadS d51_34 (ok27.kd okg.kX) (fr1282 ok27 okg.kX) ?_
        refine w_dloadS d51_37 (ok27.kd (kT1282 ok27 okg.kX)) (fr512 ok27 (kT1282 ok27 okg.kX)) ?_
        refine w_callv1 d51_40 (by omega) rfl (ok27.kd (kT512 ok27 (kT1282 ok27 okg.kX))) (by simp) (Nat.le_of_ble_eq_true rfl) ?_
        refine r_Row_size ok27 (kT512 ok27 (kT1282 ok27 okg.kX)) ?_
        rw [rl27]
        refine w_istore3 d51_43 rfl ?_
        refine w_aload_n d51_44 rfl ?_
        refine w_dloadS d51_45 (ok27.kd okg.kX) (fr1282 ok27 okg.kX) ?_
        refine w_callv1 d51_48 (by omega) rfl (ok27.kd (kT1282 ok27 okg.kX)) (by simp) (Nat.le_of_ble_eq_true rfl) ?_
        refine k_Rq_read ok27 (by omega) kq tg rl27 (by omega) (fun h48 a' ws ns vb' m48 R48 P48 => ?_)
        have ok48 := m48.ok
        have M48 := Mo.tr ok M27 m48 (fun ζ u => (Or.inr (Or.inr (Or.inr (Or.inr (Or.inr (Or.inr (Or.inr (U_trans U_refl u)))))))))
        have D48 := D27.f ok27 m48 nqh
        have B48 : BoV S h48 b := BoC.f ok27 m48 nqb B27
        have C48 := ((m48.cp ok27 kl).2 nlq).trans C27
        refine w_aload_n d51_51 rfl ?_
        refine w_dloadS d51_52 (ok48.kd okg.kX) (fr1282 ok48 okg.kX) ?_
        refine w_getI (x := (FI h48 515 (sT S 1282 (sX S)))) d51_55 (ok48.kd (kT1282 ok48 okg.kX)) rfl ?_
        refine w_ifge d51_58 (fun c58 => ?_) (fun c58 => ?_)
        · have er : qrR (recL b.1 a) = false := by
            rcases Bool.eq_false_or_eq_true (qrR (recL b.1 a)) with z | z
            · have := (rgC_of R48 P48 z).2.1
              omega
            · exact z
          have DX := D48
          have BX := B48
          have CX := C48
          have nX : ¬ mdC b.1 a v := fun z => by have := z.2.1; rw [er] at this; exact absurd this (by decide)
          have EX : mdS (stL S (sT S 1286 (sX S))) b.1 2048 (hoNo v0) 0 0 = (v, a, n) := by rw [iE]; exact mdS_no nX
          refine w_aload_n d51_101 rfl ?_
          refine w_dloadS d51_102 (ok48.kd okg.kX) (fr1283 ok48 okg.kX) ?_
          refine w_iload_n d51_105 rfl ?_
          have okX := ok48
          refine w_callv2 d51_106 (by omega) rfl (ok48.kd (kT1283 ok48 okg.kX)) (by simp) (Nat.le_of_ble_eq_true rfl) ?_
          refine k_Book_open ok48 (by omega) kb BX.1 (by omega) (fun h106 m106 e106_1 e106_2 e106_3 e106_4 => ?_)
          have ok106 := m106.ok
          have M106 := Mo.tr ok M48 m106 (fun ζ u => (Or.inr (Or.inr (Or.inr (Or.inr (Or.inr (Or.inl (U_trans U_refl u))))))))
          refine w_aload_n d51_109 rfl ?_
          refine w_dloadS d51_110 (ok106.kd okg.kX) (fr1281 ok106 okg.kX) ?_
          refine w_callv1 d51_113 (by omega) rfl (ok106.kd (kT1281 ok106 okg.kX)) (by simp) (Nat.le_of_ble_eq_true rfl) ?_
          refine r_Row_clear ok106 (kT1281 ok106 okg.kX) (fun h113 m113 e113_1 e113_2 => ?_)
          have ok113 := m113.ok
          have M113 := Mo.tr ok M106 m113 (fun ζ e => (Or.inr (Or.inr (Or.inr (Or.inr (Or.inr (Or.inr (Or.inl e))))))))
          refine w_aload_n d51_116 rfl ?_
          refine w_dloadS d51_117 (ok113.kd okg.kX) (fr1281 ok113 okg.kX) ?_
          refine w_iload_n d51_120 rfl ?_
          refine w_callv2 d51_121 (by omega) rfl (ok113.kd (kT1281 ok113 okg.kX)) (by simp) (Nat.le_of_ble_eq_true rfl) ?_
          refine r_Row_addNumber (by omega) ok113 (kT1281 ok113 okg.kX) (by omega) (fun h121 m121 e121_1 e121_2 => ?_)
          have ok121 := m121.ok
          have M121 := Mo.tr ok M113 m121 (fun ζ e => (Or.inr (Or.inr (Or.inr (Or.inr (Or.inr (Or.inr (Or.inl e))))))))
          refine w_return d51_124 ?_
          rw [EX] at kk
          refine kk h121 M121 ((((DX.f okX m106 nbh).f ok106 m113 nla2).f ok113 m121 nla2)) ((BoC.f ok113 m121 nlb2 (BoC.f ok106 m113 nlb2 ⟨e106_1, e106_2, e106_3, by rw [e106_4]; rfl⟩))) (iI.up (by omega)) ia.2 (by rw [e121_1, e113_1, e113_2, (m106.cp okX kl).2 nlk, CX]) (by rw [e121_2, e113_2, (m106.cp okX kl).2 nlk, CX])
        · have er : qrR (recL b.1 a) = true := by
            rcases Bool.eq_false_or_eq_true (qrR (recL b.1 a)) with z | z
            · exact z
            · have := rd_wrong P48 z
              omega
          obtain ⟨ht35, w48, Rg, An⟩ := rgC_of R48 P48 er
          obtain ⟨vb, g1, g2, g3, g4, g5, g6⟩ := tg.vb ok48 (qrT (recL b.1 a)) ht35
          obtain ⟨ra, rb, rc, rd, re, rf, rg, rh, ri, rj⟩ := id Rg
          refine w_aload_n d51_61 rfl ?_
          refine w_dloadS d51_62 (ok48.kd okg.kX) (fr1282 ok48 okg.kX) ?_
          refine w_dloadS d51_65 (ok48.kd (kT1282 ok48 okg.kX)) (ra.trans g1) ?_
          refine w_getI (x := ((kd (qrT (recL b.1 a)) : Nat) : Int)) d51_68 g2 g4 ?_
          refine w_ifne d51_71 (fun c71 => ?_) (fun c71 => ?_)
          · have DX := D48
            have BX := B48
            have CX := C48
            have nX : ¬ mdC b.1 a v := fun z => by have := z.2.2.1; omega
            have EX : mdS (stL S (sT S 1286 (sX S))) b.1 2048 (hoNo v0) 0 0 = (v, a, n) := by rw [iE]; exact mdS_no nX
            refine w_aload_n d51_101 rfl ?_
            refine w_dloadS d51_102 (ok48.kd okg.kX) (fr1283 ok48 okg.kX) ?_
            refine w_iload_n d51_105 rfl ?_
            have okX := ok48
            refine w_callv2 d51_106 (by omega) rfl (ok48.kd (kT1283 ok48 okg.kX)) (by simp) (Nat.le_of_ble_eq_true rfl) ?_
            refine k_Book_open ok48 (by omega) kb BX.1 (by omega) (fun h106 m106 e106_1 e106_2 e106_3 e106_4 => ?_)
            have ok106 := m106.ok
            have M106 := Mo.tr ok M48 m106 (fun ζ u => (Or.inr (Or.inr (Or.inr (Or.inr (Or.inr (Or.inl (U_trans U_refl u))))))))
            refine w_aload_n d51_109 rfl ?_
            refine w_dloadS d51_110 (ok106.kd okg.kX) (fr1281 ok106 okg.kX) ?_
            refine w_callv1 d51_113 (by omega) rfl (ok106.kd (kT1281 ok106 okg.kX)) (by simp) (Nat.le_of_ble_eq_true rfl) ?_
            refine r_Row_clear ok106 (kT1281 ok106 okg.kX) (fun h113 m113 e113_1 e113_2 => ?_)
            have ok113 := m113.ok
            have M113 := Mo.tr ok M106 m113 (fun ζ e => (Or.inr (Or.inr (Or.inr (Or.inr (Or.inr (Or.inr (Or.inl e))))))))
            refine w_aload_n d51_116 rfl ?_
            refine w_dloadS d51_117 (ok113.kd okg.kX) (fr1281 ok113 okg.kX) ?_
            refine w_iload_n d51_120 rfl ?_
            refine w_callv2 d51_121 (by omega) rfl (ok113.kd (kT1281 ok113 okg.kX)) (by simp) (Nat.le_of_ble_eq_true rfl) ?_
            refine r_Row_addNumber (by omega) ok113 (kT1281 ok113 okg.kX) (by omega) (fun h121 m121 e121_1 e121_2 => ?_)
            have ok121 := m121.ok
            have M121 := Mo.tr ok M113 m121 (fun ζ e => (Or.inr (Or.inr (Or.inr (Or.inr (Or.inr (Or.inr (Or.inl e))))))))
            refine w_return d51_124 ?_
            rw [EX] at kk
            refine kk h121 M121 ((((DX.f okX m106 nbh).f ok106 m113 nla2).f ok113 m121 nla2)) ((BoC.f ok113 m121 nlb2 (BoC.f ok106 m113 nlb2 ⟨e106_1, e106_2, e106_3, by rw [e106_4]; rfl⟩))) (iI.up (by omega)) ia.2 (by rw [e121_1, e113_1, e113_2, (m106.cp okX kl).2 nlk, CX]) (by rw [e121_2, e113_2, (m106.cp okX kl).2 nlk, CX])
          · have k0 : kd (qrT (recL b.1 a)) = 0 := by omega
            have t12 := (kd_12 ⟨qrT (recL b.1 a), ht35⟩).1 k0
            change qrT (recL b.1 a) ≤ 12 at t12
            refine w_aload_n d51_74 rfl ?_
            refine w_iconst d51_75 (by decide) ?_
            refine w_callv2 d51_76 (by omega) rfl (ok48.kd okg.kX) (by simp) (Nat.le_of_ble_eq_true rfl) ?_
            refine k_Ho_admit (w := false) (a := qrA (recL b.1 a) (AI h48 (sT S 520 (sT S 1282 (sX S))))) (b0 := b) ok48 (by omega) tg rfl ht35 ra t12 D48 B48 rc (fun e => (rg e).1) ri (by rw [C48]; exact hcl) (by rw [rb]; omega) (fun ci r b2 h76 m76 e76_1 e76_2 e76_3 e76_4 e76_5 => ?_)
            have ok76 := m76.ok
            have M76 := Mo.tr ok M48 m76 (fun z q => by rcases q with q | q | q; exact Or.inr (Or.inr (Or.inr (Or.inr (Or.inr (Or.inr (Or.inl q)))))); exact Or.inr (Or.inr (Or.inr (Or.inr (Or.inr (Or.inl q))))); exact Or.inl (q ▸ ok.so.uT (by decide) U_refl))
            obtain ⟨en, ec⟩ := rfQ_of er ht35 (by omega) An e76_1
            rw [en] at e76_4
            have eb0 : ∀ t, bk0 false t b = b := fun t => by unfold bk0; rw [if_neg (fun z => absurd z.1 (by decide))]
            simp only [eb0, if_neg Bool.false_ne_true] at e76_4
            have C76 := e76_5.trans C48
            refine w_ifne d51_79 (fun c79 => ?_) (fun c79 => ?_)
            · have tr_ : r = true := by cases z : r with
                | true => rfl
                | false => rw [z] at c79; exact absurd rfl c79
              have X : rfQ (recL b.1 a) v = 19 ∧ b2 = b ∧ rl h76 (sT S 1281 (sX S)) = [] := by
                rcases e76_4 with ⟨q1, q2, q3, q4⟩ | ⟨q1, q2, q3⟩
                · exact ⟨q1.1, q4, q3⟩
                · rw [q2] at tr_; exact absurd tr_ (by decide)
              have md : mdC b.1 a v := ⟨rk, er, k0, X.1⟩
              have B76 : BoV S h76 b := by rw [← X.2.1]; exact e76_3
              refine w_aload_n d51_85 rfl ?_
              refine w_callv1 d51_86 (by omega) rfl (ok76.kd okg.kX) (by simp) (Nat.le_of_ble_eq_true rfl) ?_
              have R76 := Rg.f ok48 m76 nqA
              obtain ⟨sa, sb, sc, sd_, se, sf, sg, sh, si, sj⟩ := id R76
              have In := hInv.ca (L := stL S (sT S 1286 (sX S))) (t := qrT (recL b.1 a)) (a := qrA (recL b.1 a) (AI h48 (sT S 520 (sT S 1282 (sX S))))) iI (fun e => ⟨qr_nm er e _, (e76_1 e).2 (by rw [en]; exact X.1)⟩) (fun _ => (ra520 ok48 kq 0).2)
              refine k_Ho_carryOut (a := qrA (recL b.1 a) (AI h48 (sT S 520 (sT S 1282 (sX S))))) (ci := ci) ok76 (by omega) tg ht35 sa t12 e76_2 (by rw [en]; exact X.1) sc (fun e => (sg e).1) (fun e => (sg e).2) (fun e => Nat.le_trans (sg e).1.len (by decide)) (fun e => by rw [sb]; exact sh e) si X.2.2 (by rw [C76]; exact hcl) iI.pln.2.2 (iI.bnd (by omega)) (fun h86 m86 e86_1 e86_2 e86_3 => ?_)
              have ok86 := m86.ok
              have M86 := Mo.tr ok M76 m86 (fun z q => by rcases q with q | q | q | q | q; exact Or.inl q; exact Or.inr (Or.inl q); exact Or.inr (Or.inr (Or.inl q)); exact Or.inr (Or.inr (Or.inr (Or.inr (Or.inl q)))); exact Or.inr (Or.inr (Or.inr (Or.inr (Or.inr (Or.inr (Or.inl q)))))))
              refine w_iload_n d51_89 rfl ?_
              refine w_iload_n d51_90 rfl ?_
              refine w_iconst d51_91 (by decide) ?_
              refine w_iadd d51_92 (by constructor <;> omega) ?_
              refine w_iadd d51_93 (by constructor <;> omega) ?_
              refine w_istore1 d51_94 rfl ?_
              refine w_iinc2 d51_95 rfl (by constructor <;> omega) ?_
              refine w_goto d51_98 ?_
              rw [ec] at e86_1 In
              have e2 := mdS_go (L := stL S (sT S 1286 (sX S))) (n := n) (f := 2048 - n) hp12 md
              rw [hq12] at e2
              have C86 := e86_3.trans C76
              rw [ix2]
              refine w_less ?_ (IH8 _ (Nat.lt_of_lt_of_eq hs12 hm8) h86 (a + ((recL b.1 a).length + 2)) (n + 1) (caS (stL S (sT S 1286 (sX S))) (qrT (recL b.1 a)) (qrA (recL b.1 a) (qrN (recL b.1 a))) v).1 rfl M86 e86_1 (BoC.f ok76 m86 nbA B76) C86 In ia2 (iE.trans e2))
              exact ⟨Or.inr rfl, Or.inr rfl, Or.inr rfl, Or.inl rfl, trivial⟩
            · have fr : r = false := by cases z : r with
                | true => rw [z] at c79; exact absurd c79 (by decide)
                | false => rfl
              have X : ¬ rfQ (recL b.1 a) v = 19 ∧ b2 = b := by
                rcases e76_4 with ⟨q1, q2, q3⟩ | ⟨q1, q2, q3, q4⟩
                · rw [q2] at fr; exact absurd fr (by decide)
                · exact ⟨fun e => q1 ⟨e, fun w => absurd w (by decide)⟩, q4⟩
              have DX := e76_2
              have BX : BoV S h76 b := by rw [← X.2]; exact e76_3
              have CX := C76
              have nX : ¬ mdC b.1 a v := fun z => X.1 z.2.2.2
              have EX : mdS (stL S (sT S 1286 (sX S))) b.1 2048 (hoNo v0) 0 0 = (v, a, n) := by rw [iE]; exact mdS_no nX
              refine w_goto d51_82 ?_
              refine w_aload_n d51_101 rfl ?_
              refine w_dloadS d51_102 (ok76.kd okg.kX) (fr1283 ok76 okg.kX) ?_
              refine w_iload_n d51_105 rfl ?_
              have okX := ok76
              refine w_callv2 d51_106 (by omega) rfl (ok76.kd (kT1283 ok76 okg.kX)) (by simp) (Nat.le_of_ble_eq_true rfl) ?_
              refine k_Book_open ok76 (by omega) kb BX.1 (by omega) (fun h106 m106 e106_1 e106_2 e106_3 e106_4 => ?_)
              have ok106 := m106.ok
              have M106 := Mo.tr ok M76 m106 (fun ζ u => (Or.inr (Or.inr (Or.inr (Or.inr (Or.inr (Or.inl (U_trans U_refl u))))))))
              refine w_aload_n d51_109 rfl ?_
              refine w_dloadS d51_110 (ok106.kd okg.kX) (fr1281 ok106 okg.kX) ?_
              refine w_callv1 d51_113 (by omega) rfl (ok106.kd (kT1281 ok106 okg.kX)) (by simp) (Nat.le_of_ble_eq_true rfl) ?_
              refine r_Row_clear ok106 (kT1281 ok106 okg.kX) (fun h113 m113 e113_1 e113_2 => ?_)
              have ok113 := m113.ok
              have M113 := Mo.tr ok M106 m113 (fun ζ e => (Or.inr (Or.inr (Or.inr (Or.inr (Or.inr (Or.inr (Or.inl e))))))))
              refine w_aload_n d51_116 rfl ?_
              refine w_dloadS d51_117 (ok113.kd okg.kX) (fr1281 ok113 okg.kX) ?_
              refine w_iload_n d51_120 rfl ?_
              refine w_callv2 d51_121 (by omega) rfl (ok113.kd (kT1281 ok113 okg.kX)) (by simp) (Nat.le_of_ble_eq_true rfl) ?_
              refine r_Row_addNumber (by omega) ok113 (kT1281 ok113 okg.kX) (by omega) (fun h121 m121 e121_1 e121_2 => ?_)
              have ok121 := m121.ok
              have M121 := Mo.tr ok M113 m121 (fun ζ e => (Or.inr (Or.inr (Or.inr (Or.inr (Or.inr (Or.inr (Or.inl e))))))))
              refine w_return d51_124 ?_
              rw [EX] at kk
              refine kk h121 M121 ((((DX.f okX m106 nbh).f ok106 m113 nla2).f ok113 m121 nla2)) ((BoC.f ok113 m121 nlb2 (BoC.f ok106 m113 nlb2 ⟨e106_1, e106_2, e106_3, by rw [e106_4]; rfl⟩))) (iI.up (by omega)) ia.2 (by rw [e121_1, e113_1, e113_2, (m106.cp okX kl).2 nlk, CX]) (by rw [e121_2, e113_2, (m106.cp okX kl).2 nlk, CX])
  have nfl : ¬ (fun z => U S (sT S 1284 (sX S)) z ∨ z = sT S 1285 (sX S) ∨ U S (sT S 1286 (sX S)) z) (sT S 1281 (sX S)) := fun q => by
    rcases q with q | q | q
    · exact nla2 1284 (by decide) (by decide) _ q rfl
    · exact nla2 1285 (by decide) (by decide) _ U_refl q.symm
    · exact nla2 1286 (by decide) (by decide) _ q rfl
  have nfb : ∀ z, U S (sT S 1283 (sX S)) z → ¬ (U S (sT S 1284 (sX S)) z ∨ z = sT S 1285 (sX S) ∨ U S (sT S 1286 (sX S)) z) := fun z u q => by
    rcases q with q | q | q
    · exact apX ok.so (f := 1283) (g := 1284) (by decide) (by decide) (by decide) z u q
    · exact apX ok.so (f := 1283) (g := 1285) (by decide) (by decide) (by decide) z u (q ▸ U_refl)
    · exact apX ok.so (f := 1283) (g := 1286) (by decide) (by decide) (by decide) z u q
  refine w_less ?_ (L8 _ h1 0 0 (hoNo v0) rfl M1 e1_1 (BoC.f ok m1 nfb Bk) ((m1.cp ok kl).2 nfl) (hInv.no I) ⟨by omega, by omega⟩ rfl)
  exact ⟨Or.inr rfl, Or.inr rfl, Or.inr rfl, Or.inl rfl, trivial⟩
