/-! the house: an answer -/
/-- a request that is right: verb, bytes, arguments, another name, how many numbers -/
def RgC (S : Shp) (h : Hp) (G : Nat → Option Nat) (t : Nat) (l : List Nat) (a : ArV) (n2 : List Nat) (k : Nat) : Prop :=
  FR h 514 (sT S 1282 (sX S)) = G t ∧ rl h (sT S 512 (sT S 1282 (sX S))) = l ∧ nmC S h (sT S 1282 (sX S)) t a.1 ∧ nmS S h (sT S 1282 (sX S)) t a.1 ∧ ((t = 21 ∨ t = 22 ∨ t = 24 ∨ t = 25) → AL h (sT S 517 (sT S 1282 (sX S))) 0 = hd a.1 ∧ okN a.1) ∧ (t = 24 → AL h (sT S 517 (sT S 1282 (sX S))) 1 = hd n2 ∧ okN n2) ∧ (t = 4 → DefC S h (sT S 524 (sT S 1282 (sX S))) a.2.2.1 (tgTxt a.2.2.1) ∧ tgN a.2.2.1 ≠ []) ∧
  (t = 1 → ∃ f e : Nat, FI h 522 (sT S 1282 (sX S)) = (f : Nat) ∧ FI h 523 (sT S 1282 (sX S)) = (e : Nat) ∧ (f ≤ e ∧ e ≤ l.length ∧ e - f ≤ 160 ∧ e ≤ 100000) ∧ a.2.1 = (sl l f e).map untold) ∧ AI h (sT S 520 (sT S 1282 (sX S))) = a.2.2.2 ∧ (t = 30 → FI h 521 (sT S 1282 (sX S)) = (k : Nat) ∧ (k = 5 → ∀ i, i < 5 → -1 ≤ a.2.2.2 i ∧ a.2.2.2 i ≤ 3))
theorem RgC.f {S : Shp} {h h' : Hp} {A : Nat → Prop} {G : Nat → Option Nat} {t k : Nat} {l n2 : List Nat} {a : ArV} (ok : Ok S h) (m : Mo S A h h') (hA : ∀ y, U S (sT S 1282 (sX S)) y → ¬ A y) (D : RgC S h G t l a n2 k) : RgC S h' G t l a n2 k := by
  obtain ⟨r1, r2, r3, r4, r5, r6, r7, r8, r9, r10⟩ := D
  have kq := kT1282 ok ok.kX
  have k17 := kT517 ok kq
  have k18 := kT518 ok kq
  have k20 := kT520 ok kq
  have nq := hA _ U_refl
  have nT : ∀ f, f < 4096 → ¬ A (sT S f (sT S 1282 (sX S))) := fun f hf => hA _ (ok.so.uT hf U_refl)
  have eH := m.al ok (x := sT S 517 (sT S 1282 (sX S))) (by omega) (nT 517 (by decide))
  have eT := m.al ok (x := sT S 518 (sT S 1282 (sX S))) (by omega) (nT 518 (by decide))
  refine ⟨(m.fr ok (by omega) nq 514).trans r1, (m.rb ok (kT512 ok kq) (nT 512 (by decide))).trans r2, r3.f ok m kq (nT 517 (by decide)) (nT 518 (by decide)), fun c => ?_, fun c => ?_, fun c => ?_, fun c => ⟨(r7 c).1.mo ok m (kT524 ok kq) (fun y u => hA y (U_trans (ok.so.uT (by decide) U_refl) u)), (r7 c).2⟩, fun c => ?_, (m.ai ok (by omega) (nT 520 (by decide))).trans r9, fun c => ⟨(m.fi ok (by omega) nq 521).trans (r10 c).1, (r10 c).2⟩⟩
  · rw [eH, eT]; exact r4 c
  · rw [eH]; exact r5 c
  · rw [eH]; exact r6 c
  · obtain ⟨f, e, q1, q2, q3⟩ := r8 c
    exact ⟨f, e, (m.fi ok (by omega) nq 522).trans q1, (m.fi ok (by omega) nq 523).trans q2, q3⟩
/-- users -/
def usP (ts : List (Bool × TgV)) (n : List Nat) (sel : Nat → Bool) : Prop := ∀ u, u < ts.length → (sel u = true ↔ ∃ z, z < ts.length ∧ (tH ts z = true ∧ namesF (tgI (tD ts z)) n = true) ∧ Rc ts u z)
def kd (t : Nat) : Nat := vbK.getD t 0
theorem kd_2 : ∀ t : Fin 35, kd t.val = 2 → t.val = 21 ∨ t.val = 22 ∨ t.val = 24 ∨ t.val = 25 := by decide
theorem kd_3 : ∀ t : Fin 35, kd t.val = 3 → 28 ≤ t.val ∧ t.val ≤ 32 := by decide
theorem kd_1 : ∀ t : Fin 35, kd t.val = 1 → t.val = 13 ∨ t.val = 14 ∨ t.val = 15 ∨ t.val = 16 ∨ t.val = 17 ∨ t.val = 18 ∨ t.val = 19 ∨ t.val = 20 ∨ t.val = 23 ∨ t.val = 26 ∨ t.val = 27 ∨ t.val = 33 ∨ t.val = 34 := by decide
theorem kd_0 : ∀ t : Fin 35, kd t.val ≠ 1 → kd t.val ≠ 2 → kd t.val ≠ 3 → t.val ≤ 12 := by decide
/-- an answer to a right request: the house, the book and the text behind it -/
def rpR (t : Nat) (l : List Nat) (a : ArV) (n2 : List Nat) (k L LZ : Nat) (v : HoS) (b : BkV) (v' : HoS) (b' : BkV) (T : List Nat) : Prop :=
  if b.2.2.2 = true ∧ t ≠ 0 then v' = v ∧ b' = b ∧ T = txt 37 else if kd t = 2 then v' = v ∧ b' = b ∧ chR t v LZ (tat v.1.2.2 a.1) (if t = 24 then tat v.1.2.2 n2 else tat v.1.2.2 a.1) T else if kd t = 3 then v' = v ∧ b' = b ∧ T = ouT t v.2.1 a.2.2.2 k l
  else if kd t = 1 then v' = v ∧ ∃ sel cu, (t = 23 → usP v.1.2.2 a.1 sel) ∧ (t = 33 → (cu = true ↔ 0 ≤ b.2.2.1 ∧ ((a.2.2.2 0).toNat : Int) ≤ b.2.1 - b.2.2.1)) ∧ (b' = if t = 33 ∧ cu = true then (clB b.1 (b.2.2.1.toNat + (a.2.2.2 0).toNat) b.2.1, b.2.1, b.2.2.1, true) else b) ∧ T = shT t v a.1 sel cu
  else ∃ ci, (t = 4 → (refN t v.1 v.2.1 (seGo v.2.2).1 (seOn v.2.2) a.1 a.2.2.1 a.2.2.2 ci = 32 → circV v.1.2.2 a.2.2.1) ∧ (refN t v.1 v.2.1 (seGo v.2.2).1 (seOn v.2.2) a.1 a.2.2.1 a.2.2.2 ci = 19 → ¬ circV v.1.2.2 a.2.2.1)) ∧
    (((refN t v.1 v.2.1 (seGo v.2.2).1 (seOn v.2.2) a.1 a.2.2.1 a.2.2.2 ci = 19 ∧ bkF (bk0 true t b) l.length) ∧ v' = (caS L t a v).1 ∧ b' = bkW (bk0 true t b) l ∧ T = (if (caS L t a v).2 = [] then txt 36 else (caS L t a v).2)) ∨
     (¬ (refN t v.1 v.2.1 (seGo v.2.2).1 (seOn v.2.2) a.1 a.2.2.1 a.2.2.2 ci = 19 ∧ bkF (bk0 true t b) l.length) ∧ v' = v ∧ b' = bk0 true t b ∧ T = txt (if refN t v.1 v.2.1 (seGo v.2.2).1 (seOn v.2.2) a.1 a.2.2.1 a.2.2.2 ci = 19 then 18 else refN t v.1 v.2.1 (seGo v.2.2).1 (seOn v.2.2) a.1 a.2.2.1 a.2.2.2 ci)))
/-- counts are far from their ends -/
def bndP (v : HoS) : Prop := (∀ j, rC (goR (seGo v.2.2)) j + 20000 < 2147483647) ∧ seSt v.2.2 + 10000 < 2147483647 ∧ ∀ u i, v.2.2.2.2.1 u i < 2147483647
/-- what is asked of the plan: names, no circle, the session's plan is no longer -/
def plnP (v : HoS) : Prop := (∀ u m, nmd v.1.2.2 u m → m ≠ []) ∧ acy v.1.2.2 ∧ (sePl v.2.2).2.2.length ≤ v.1.2.2.length
theorem d145_0 : dc 145 0 = some (.aload_n 0, 1) := by decide +kernel
theorem d145_1 : dc 145 1 = some (.dload 1281, 4) := by decide +kernel
theorem d145_4 : dc 145 4 = some (.invokevirtual 18, 7) := by decide +kernel
theorem d145_7 : dc 145 7 = some (.aload_n 0, 8) := by decide +kernel
theorem d145_8 : dc 145 8 = some (.dload 1282, 11) := by decide +kernel
theorem d145_11 : dc 145 11 = some (.getfield 515, 14) := by decide +kernel
theorem d145_14 : dc 145 14 = some (.ifCond .lt ((43 : Nat) : Int), 17) := by decide +kernel
theorem d145_17 : dc 145 17 = some (.aload_n 0, 18) := by decide +kernel
theorem d145_18 : dc 145 18 = some (.dload 1281, 21) := by decide +kernel
theorem d145_21 : dc 145 21 = some (.getstatic 77, 23) := by decide +kernel
theorem d145_23 : dc 145 23 = some (.invokevirtual 84, 26) := by decide +kernel
theorem d145_26 : dc 145 26 = some (.aload_n 0, 27) := by decide +kernel
theorem d145_27 : dc 145 27 = some (.dload 1281, 30) := by decide +kernel
theorem d145_30 : dc 145 30 = some (.aload_n 0, 31) := by decide +kernel
theorem d145_31 : dc 145 31 = some (.dload 1282, 34) := by decide +kernel
theorem d145_34 : dc 145 34 = some (.getfield 515, 37) := by decide +kernel
theorem d145_37 : dc 145 37 = some (.invokevirtual 124, 40) := by decide +kernel
theorem d145_40 : dc 145 40 = some (.goto ((153 : Nat) : Int), 43) := by decide +kernel
theorem d145_153 : dc 145 153 = some (.return_, 154) := by decide +kernel
theorem k_Ho_replyW {S : Shp} {G : Nat → Option Nat} {d : Nat} {h : Hp} {Q : Option MV → Hp → Prop} {n : Nat} (ok : Ok S h) (h1 : 6 ≤ d) (tg : Tg S G) (hw : FI h 515 (sT S 1282 (sX S)) = (n : Nat)) (hn : n ≤ 100000)
    (kk : ∀ h', Mo S (fun z => z = sT S 1281 (sX S)) h h' → rl h' (sT S 1281 (sX S)) = addBs (cap h (sT S 1281 (sX S))) [] (txt 27 ++ dec n) → cap h' (sT S 1281 (sX S)) = cap h (sT S 1281 (sX S)) → Q none h') : Cl G d 145 [vR (some (sX S))] h Q := by
  show Wp G d 145 0 [some (vR (some (sX S)))] [] h Q
  have kq := kT1282 ok ok.kX
  have kl := kT1281 ok ok.kX
  refine w_aload_n d145_0 rfl ?_
  refine w_dloadS d145_1 (ok.kd ok.kX) (fr1281 ok ok.kX) ?_
  refine w_callv1 d145_4 (by omega) rfl (ok.kd (kT1281 ok ok.kX)) (by simp) (Nat.le_of_ble_eq_true rfl) ?_
  refine r_Row_clear ok (kT1281 ok ok.kX) (fun h4 m4 e4_1 e4_2 => ?_)
  have ok4 := m4.ok
  have M4 := Mo.tr ok (Mo.refl (A := (fun ζ => ζ = (sT S 1281 (sX S)))) ok) m4 (fun ζ e => e)
  refine w_aload_n d145_7 rfl ?_
  refine w_dloadS d145_8 (ok4.kd ok.kX) (fr1282 ok4 ok.kX) ?_
  refine w_getI (x := ((n : Nat) : Int)) d145_11 (ok4.kd (kT1282 ok4 ok.kX)) ((m4.fi ok (by omega) (ok.so.ou (by decide) (by decide) (Or.inl (by decide))) 515).trans hw) ?_
  refine w_iflt d145_14 (fun c14 => ?_) (fun c14 => ?_)
  · omega
  · refine w_aload_n d145_17 rfl ?_
    refine w_dloadS d145_18 (ok4.kd ok.kX) (fr1281 ok4 ok.kX) ?_
    obtain ⟨g21, v21, s21⟩ := tg.tx ok4 27 (by decide)
    refine w_getstaticS d145_21 v21 ?_
    refine w_callv2 d145_23 (by omega) rfl (ok4.kd (kT1281 ok4 ok.kX)) (by simp) (Nat.le_of_ble_eq_true rfl) ?_
    refine r_Row_addText (by omega) ok4 (kT1281 ok4 ok.kX) s21 (fun h23 m23 e23_1 e23_2 => ?_)
    have ok23 := m23.ok
    have M23 := Mo.tr ok M4 m23 (fun ζ e => e)
    refine w_aload_n d145_26 rfl ?_
    refine w_dloadS d145_27 (ok23.kd ok.kX) (fr1281 ok23 ok.kX) ?_
    refine w_aload_n d145_30 rfl ?_
    refine w_dloadS d145_31 (ok23.kd ok.kX) (fr1282 ok23 ok.kX) ?_
    refine w_getI (x := ((n : Nat) : Int)) d145_34 (ok23.kd (kT1282 ok23 ok.kX)) ((m23.fi ok4 (by omega) (ok.so.ou (by decide) (by decide) (Or.inl (by decide))) 515).trans ((m4.fi ok (by omega) (ok.so.ou (by decide) (by decide) (Or.inl (by decide))) 515).trans hw)) ?_
    refine w_callv2 d145_37 (by omega) rfl (ok23.kd (kT1281 ok23 ok.kX)) (by simp) (Nat.le_of_ble_eq_true rfl) ?_
    refine r_Row_addNumber (by omega) ok23 (kT1281 ok23 ok.kX) (by omega) (fun h37 m37 e37_1 e37_2 => ?_)
    have ok37 := m37.ok
    have M37 := Mo.tr ok M23 m37 (fun ζ e => e)
    refine w_goto d145_40 ?_
    refine w_return d145_153 ?_
    exact kk h37 M37 (by rw [e37_1, e23_1, e23_2, e4_1, e4_2, addBs3]) (by rw [e37_2, e23_2, e4_2])
theorem addBs_own {S : Shp} {h : Hp} {a n : Nat} (ok : Ok S h) (ha : sK S a = 6) (e : cap h a = n) : addBs n [] (rl h a) = rl h a := addBs_fit (by have := ok.rc ha; simp only [List.length_nil]; omega)
theorem ouT_k {t : Nat} {rs : List RuV} {nu : Nat → Int} {k : Nat} {l : List Nat} : ouT t rs nu (if t = 30 then k else 0) l = ouT t rs nu k l := by
  by_cases q : t = 30
  · rw [show (if t = 30 then k else 0) = k from if_pos q]
  · simp only [ouT, if_neg q]
theorem d145_43 : dc 145 43 = some (.aload_n 0, 44) := by decide +kernel
theorem d145_44 : dc 145 44 = some (.dload 1283, 47) := by decide +kernel
theorem d145_47 : dc 145 47 = some (.getfield 3, 50) := by decide +kernel
theorem d145_50 : dc 145 50 = some (.ifCond .eq ((78 : Nat) : Int), 53) := by decide +kernel
theorem d145_53 : dc 145 53 = some (.aload_n 0, 54) := by decide +kernel
theorem d145_54 : dc 145 54 = some (.dload 1282, 57) := by decide +kernel
theorem d145_57 : dc 145 57 = some (.dload 514, 60) := by decide +kernel
theorem d145_60 : dc 145 60 = some (.getstatic 0, 63) := by decide +kernel
theorem d145_63 : dc 145 63 = some (.if_acmp .eq ((78 : Nat) : Int), 66) := by decide +kernel
theorem d145_66 : dc 145 66 = some (.aload_n 0, 67) := by decide +kernel
theorem d145_67 : dc 145 67 = some (.dload 1281, 70) := by decide +kernel
theorem d145_70 : dc 145 70 = some (.getstatic 87, 72) := by decide +kernel
theorem d145_72 : dc 145 72 = some (.invokevirtual 84, 75) := by decide +kernel
theorem d145_75 : dc 145 75 = some (.goto ((153 : Nat) : Int), 78) := by decide +kernel
theorem d145_78 : dc 145 78 = some (.aload_n 0, 79) := by decide +kernel
theorem d145_79 : dc 145 79 = some (.dload 1282, 82) := by decide +kernel
theorem d145_82 : dc 145 82 = some (.dload 514, 85) := by decide +kernel
theorem d145_85 : dc 145 85 = some (.getfield 2178, 88) := by decide +kernel
theorem d145_88 : dc 145 88 = some (.iconst 2, 89) := by decide +kernel
theorem d145_89 : dc 145 89 = some (.if_icmp .ne ((99 : Nat) : Int), 92) := by decide +kernel
theorem d145_92 : dc 145 92 = some (.aload_n 0, 93) := by decide +kernel
theorem d145_93 : dc 145 93 = some (.invokevirtual 146, 96) := by decide +kernel
theorem d145_96 : dc 145 96 = some (.goto ((153 : Nat) : Int), 99) := by decide +kernel
theorem d145_99 : dc 145 99 = some (.aload_n 0, 100) := by decide +kernel
theorem d145_100 : dc 145 100 = some (.dload 1282, 103) := by decide +kernel
theorem d145_103 : dc 145 103 = some (.dload 514, 106) := by decide +kernel
theorem d145_106 : dc 145 106 = some (.getfield 2178, 109) := by decide +kernel
theorem d145_109 : dc 145 109 = some (.iconst 3, 110) := by decide +kernel
theorem d145_110 : dc 145 110 = some (.if_icmp .ne ((120 : Nat) : Int), 113) := by decide +kernel
theorem d145_113 : dc 145 113 = some (.aload_n 0, 114) := by decide +kernel
theorem d145_114 : dc 145 114 = some (.invokevirtual 157, 117) := by decide +kernel
theorem d145_117 : dc 145 117 = some (.goto ((153 : Nat) : Int), 120) := by decide +kernel
theorem d145_120 : dc 145 120 = some (.aload_n 0, 121) := by decide +kernel
theorem d145_121 : dc 145 121 = some (.dload 1282, 124) := by decide +kernel
theorem d145_124 : dc 145 124 = some (.dload 514, 127) := by decide +kernel
theorem d145_127 : dc 145 127 = some (.getfield 2178, 130) := by decide +kernel
theorem d145_130 : dc 145 130 = some (.iconst 1, 131) := by decide +kernel
theorem d145_131 : dc 145 131 = some (.if_icmp .ne ((141 : Nat) : Int), 134) := by decide +kernel
theorem d145_134 : dc 145 134 = some (.aload_n 0, 135) := by decide +kernel
theorem d145_135 : dc 145 135 = some (.invokevirtual 167, 138) := by decide +kernel
theorem d145_138 : dc 145 138 = some (.goto ((153 : Nat) : Int), 141) := by decide +kernel
theorem d145_141 : dc 145 141 = some (.aload_n 0, 142) := by decide +kernel
theorem d145_142 : dc 145 142 = some (.iconst 1, 143) := by decide +kernel
theorem d145_143 : dc 145 143 = some (.invokevirtual 63, 146) := by decide +kernel
theorem d145_146 : dc 145 146 = some (.ifCond .eq ((153 : Nat) : Int), 149) := by decide +kernel
theorem d145_149 : dc 145 149 = some (.aload_n 0, 150) := by decide +kernel
theorem d145_150 : dc 145 150 = some (.invokevirtual 86, 153) := by decide +kernel
theorem k_Ho_reply {S : Shp} {G : Nat → Option Nat} {d : Nat} {h : Hp} {Q : Option MV → Hp → Prop} (ok : Ok S h) (h1 : 13 ≤ d) (tg : Tg S G) {t k : Nat} {l n2 : List Nat} {a : ArV} (ht35 : t < 35) (hme : t ≠ 34) {v : HoS} {b : BkV} (D : HoC S h v) (Bk : BoC S h b.1 b.2.1 b.2.2.1 b.2.2.2) (hw : FI h 515 (sT S 1282 (sX S)) = -1) (R : RgC S h G t l a n2 k) (hcl : 4096 ≤ cap h (sT S 1281 (sX S))) (hll : l.length ≤ 100000) (hp : plnP v) (hB : bndP v)
    (kk : ∀ h' v' b' T, Mo S (fun z => U S (sT S 1284 (sX S)) z ∨ U S (sT S 1285 (sX S)) z ∨ U S (sT S 1286 (sX S)) z ∨ U S (sT S 1287 (sX S)) z ∨ U S (sT S 1288 (sX S)) z ∨ U S (sT S 1283 (sX S)) z ∨ z = sT S 1281 (sX S)) h h' → rpR t l a n2 k (stL S (sT S 1286 (sX S))) (stL S (sT S 1287 (sX S))) v b v' b' T → HoC S h' v' → BoV S h' b' → rl h' (sT S 1281 (sX S)) = addBs (cap h (sT S 1281 (sX S))) [] T → cap h' (sT S 1281 (sX S)) = cap h (sT S 1281 (sX S)) → Q none h') : Cl G d 145 [vR (some (sX S))] h Q := by
  show Wp G d 145 0 [some (vR (some (sX S)))] [] h Q
  have hvb := R.1
  obtain ⟨vb, g1, g2, g3, g4, g5, g6⟩ := tg.vb ok t ht35
  obtain ⟨sw, w1, w2, w3, w4⟩ := tg.sw ok
  have kq := kT1282 ok ok.kX
  have kp := kT1284 ok ok.kX
  have kv := kT1285 ok ok.kX
  have ks0 := kT1286 ok ok.kX
  obtain ⟨vb0, z1, z2, z3, z4, z5, z6⟩ := tg.vb ok 0 (by decide)
  have kl := kT1281 ok ok.kX
  have nla2 : ∀ f, 1284 ≤ f → f ≤ 1288 → ∀ z, U S (sT S f (sX S)) z → ¬ z = sT S 1281 (sX S) := fun f f1 f2 z u q => ok.so.nUT (f := f) (g := 1281) (x := sX S) (by omega) (by decide) (by omega) (q ▸ u)
  have nlb2 : ∀ z, U S (sT S 1283 (sX S)) z → ¬ z = sT S 1281 (sX S) := fun z u q => ok.so.nUT (f := 1283) (g := 1281) (x := sX S) (by decide) (by decide) (by decide) (q ▸ u)
  have nq2 : ∀ z, U S (sT S 1282 (sX S)) z → ¬ z = sT S 1281 (sX S) := fun z u q => ok.so.nUT (f := 1282) (g := 1281) (x := sX S) (by decide) (by decide) (by decide) (q ▸ u)
  have nqA : ∀ y, U S (sT S 1282 (sX S)) y → ¬ (y = sT S 1281 (sX S) ∨ U S (sT S 1283 (sX S)) y ∨ y = sT S 393 (sT S 1284 (sX S))) := fun y u q => by
    rcases q with q | q | q
    · exact nq2 y u q
    · exact apX ok.so (f := 1282) (g := 1283) (by decide) (by decide) (by decide) y u q
    · exact apX ok.so (f := 1282) (g := 1284) (by decide) (by decide) (by decide) y u (q ▸ ok.so.uT (by decide) U_refl)
  have nbA : ∀ z, U S (sT S 1283 (sX S)) z → ¬ (U S (sT S 1284 (sX S)) z ∨ U S (sT S 1285 (sX S)) z ∨ U S (sT S 1286 (sX S)) z ∨ U S (sT S 1288 (sX S)) z ∨ z = sT S 1281 (sX S)) := fun z u q => by
    rcases q with q | q | q | q | q
    · exact apX ok.so (f := 1283) (g := 1284) (by decide) (by decide) (by decide) z u q
    · exact apX ok.so (f := 1283) (g := 1285) (by decide) (by decide) (by decide) z u q
    · exact apX ok.so (f := 1283) (g := 1286) (by decide) (by decide) (by decide) z u q
    · exact apX ok.so (f := 1283) (g := 1288) (by decide) (by decide) (by decide) z u q
    · exact nlb2 z u q
  refine w_aload_n d145_0 rfl ?_
  refine w_dloadS d145_1 (ok.kd ok.kX) (fr1281 ok ok.kX) ?_
  refine w_callv1 d145_4 (by omega) rfl (ok.kd (kT1281 ok ok.kX)) (by simp) (Nat.le_of_ble_eq_true rfl) ?_
  refine r_Row_clear ok (kT1281 ok ok.kX) (fun h4 m4 e4_1 e4_2 => ?_)
  have ok4 := m4.ok
  have M4 := Mo.tr ok (Mo.refl (A := (fun ζ => U S (sT S 1284 (sX S)) ζ ∨ U S (sT S 1285 (sX S)) ζ ∨ U S (sT S 1286 (sX S)) ζ ∨ U S (sT S 1287 (sX S)) ζ ∨ U S (sT S 1288 (sX S)) ζ ∨ U S (sT S 1283 (sX S)) ζ ∨ ζ = (sT S 1281 (sX S)))) ok) m4 (fun ζ e => (Or.inr (Or.inr (Or.inr (Or.inr (Or.inr (Or.inr e)))))))
  have H4 := D.f ok m4 nla2
  have B4 : BoC S h4 b.1 b.2.1 b.2.2.1 b.2.2.2 := BoC.f ok m4 nlb2 Bk
  have R4 := R.f ok m4 nq2
  have w4 : FI h4 515 (sT S 1282 (sX S)) = -1 := (m4.fi ok (by omega) (ok.so.ou (by decide) (by decide) (Or.inl (by decide))) 515).trans hw
  obtain ⟨ra, rb, rc, rd, re, rf, rg, rh, ri, rj⟩ := id R4
  refine w_aload_n d145_7 rfl ?_
  refine w_dloadS d145_8 (ok4.kd ok.kX) (fr1282 ok4 ok.kX) ?_
  refine w_getI (x := (-1)) d145_11 (ok4.kd (kT1282 ok4 ok.kX)) w4 ?_
  refine w_iflt d145_14 (fun c14 => ?_) (fun c14 => ?_)
  · refine w_aload_n d145_43 rfl ?_
    refine w_dloadS d145_44 (ok4.kd ok.kX) (fr1283 ok4 ok.kX) ?_
    refine w_getI (x := (b2i b.2.2.2)) d145_47 (ok4.kd (kT1283 ok4 ok.kX)) B4.2.2.2 ?_
    refine w_ifeq d145_50 (fun c50 => ?_) (fun c50 => ?_)
    · have nsh : ¬ (b.2.2.2 = true ∧ t ≠ 0) := fun e => by rw [e.1] at c50; exact absurd c50 (by decide)
      obtain ⟨vb_, k1_, k2_, k3_, k4_, k5_, k6_⟩ := tg.vb ok4 t ht35
      have ev : vb_ = vb := Option.some.inj (k1_.symm.trans g1)
      rw [ev] at k1_ k2_ k3_ k4_
      refine w_aload_n d145_78 rfl ?_
      refine w_dloadS d145_79 (ok4.kd ok.kX) (fr1282 ok4 ok.kX) ?_
      refine w_dloadS d145_82 (ok4.kd (kT1282 ok4 ok.kX)) (ra.trans g1) ?_
      refine w_getI (x := ((kd t : Nat) : Int)) d145_85 k2_ k4_ ?_
      refine w_iconst d145_88 (by decide) ?_
      refine w_icmpne d145_89 (fun c89 => ?_) (fun c89 => ?_)
      · have n2d : ¬ kd t = 2 := by omega
        refine w_aload_n d145_99 rfl ?_
        refine w_dloadS d145_100 (ok4.kd ok.kX) (fr1282 ok4 ok.kX) ?_
        refine w_dloadS d145_103 (ok4.kd (kT1282 ok4 ok.kX)) (ra.trans g1) ?_
        refine w_getI (x := ((kd t : Nat) : Int)) d145_106 k2_ k4_ ?_
        refine w_iconst d145_109 (by decide) ?_
        refine w_icmpne d145_110 (fun c110 => ?_) (fun c110 => ?_)
        · have n3d : ¬ kd t = 3 := by omega
          refine w_aload_n d145_120 rfl ?_
          refine w_dloadS d145_121 (ok4.kd ok.kX) (fr1282 ok4 ok.kX) ?_
          refine w_dloadS d145_124 (ok4.kd (kT1282 ok4 ok.kX)) (ra.trans g1) ?_
          refine w_getI (x := ((kd t : Nat) : Int)) d145_127 k2_ k4_ ?_
          refine w_iconst d145_130 (by decide) ?_
          refine w_icmpne d145_131 (fun c131 => ?_) (fun c131 => ?_)
          · have n1d : ¬ kd t = 1 := by omega
            refine w_aload_n d145_141 rfl ?_
            refine w_iconst d145_142 (by decide) ?_
            refine w_callv2 d145_143 (by omega) rfl (ok4.kd ok.kX) (by simp) (Nat.le_of_ble_eq_true rfl) ?_
            have t12 := kd_0 ⟨t, ht35⟩ n1d n2d n3d
            change t ≤ 12 at t12
            refine k_Ho_admit (w := true) (a := a) (b0 := b) ok4 (by omega) tg rfl ht35 ra t12 H4 B4 rc (fun e => (rg e).1) ri (by rw [e4_2]; exact hcl) (by rw [rb]; exact hll) (fun ci r b2 h143 m143 e143_1 e143_2 e143_3 e143_4 e143_5 => ?_)
            have ok143 := m143.ok
            have M143 := Mo.tr ok M4 m143 (fun z q => by rcases q with q | q | q; exact Or.inr (Or.inr (Or.inr (Or.inr (Or.inr (Or.inr q))))); exact Or.inr (Or.inr (Or.inr (Or.inr (Or.inr (Or.inl q))))); exact Or.inl (q ▸ ok.so.uT (by decide) U_refl))
            rw [rb] at e143_4
            refine w_ifeq d145_146 (fun c146 => ?_) (fun c146 => ?_)
            · have rf_ : r = false := by cases z : r with
                | true => rw [z] at c146; exact absurd c146 (by decide)
                | false => rfl
              have X : ¬ (refN t v.1 v.2.1 (seGo v.2.2).1 (seOn v.2.2) a.1 a.2.2.1 a.2.2.2 ci = 19 ∧ bkF (bk0 true t b) l.length) ∧ rl h143 (sT S 1281 (sX S)) = txt (if refN t v.1 v.2.1 (seGo v.2.2).1 (seOn v.2.2) a.1 a.2.2.1 a.2.2.2 ci = 19 then 18 else refN t v.1 v.2.1 (seGo v.2.2).1 (seOn v.2.2) a.1 a.2.2.1 a.2.2.2 ci) ∧ b2 = bk0 true t b := by
                rcases e143_4 with ⟨q1, q2, q3⟩ | ⟨q1, q2, q3, q4⟩
                · rw [q2] at rf_; exact absurd rf_ (by decide)
                · exact ⟨fun e => q1 ⟨e.1, fun _ => e.2⟩, q3, q4⟩
              refine w_return d145_153 ?_
              refine kk h143 (v) (bk0 true t b) (txt (if refN t v.1 v.2.1 (seGo v.2.2).1 (seOn v.2.2) a.1 a.2.2.1 a.2.2.2 ci = 19 then 18 else refN t v.1 v.2.1 (seGo v.2.2).1 (seOn v.2.2) a.1 a.2.2.1 a.2.2.2 ci)) M143 ?_ (e143_2) (by rw [← X.2.2]; exact e143_3) (by rw [← X.2.1, addBs_own (h := h143) ok143 kl (by rw [e143_5, e4_2])]) (by rw [e143_5, e4_2])
              unfold rpR
              rw [if_neg nsh, if_neg n2d, if_neg n3d, if_neg n1d]
              exact ⟨ci, e143_1, Or.inr ⟨X.1, rfl, rfl, rfl⟩⟩
            · have rt_ : r = true := by cases z : r with
                | true => rfl
                | false => rw [z] at c146; exact absurd rfl c146
              have X : (refN t v.1 v.2.1 (seGo v.2.2).1 (seOn v.2.2) a.1 a.2.2.1 a.2.2.2 ci = 19 ∧ bkF (bk0 true t b) l.length) ∧ rl h143 (sT S 1281 (sX S)) = [] ∧ b2 = bkW (bk0 true t b) l := by
                rcases e143_4 with ⟨q1, q2, q3, q4⟩ | ⟨q1, q2, q3⟩
                · exact ⟨⟨q1.1, q1.2 rfl⟩, q3, q4⟩
                · rw [q2] at rt_; exact absurd rt_ (by decide)
              refine w_aload_n d145_149 rfl ?_
              refine w_callv1 d145_150 (by omega) rfl (ok143.kd ok.kX) (by simp) (Nat.le_of_ble_eq_true rfl) ?_
              have R143 := R4.f ok4 m143 nqA
              obtain ⟨sa, sb, sc, sd_, se, sf, sg, sh, si, sj⟩ := id R143
              refine k_Ho_carryOut (a := a) (ci := ci) ok143 (by omega) tg ht35 sa t12 e143_2 X.1.1 sc (fun e => (sg e).1) (fun e => (sg e).2) (fun e => Nat.le_trans (sg e).1.len (by decide)) (fun e => by rw [sb]; exact sh e) si X.2.1 (by rw [e143_5, e4_2]; exact hcl) hp.2.2 hB (fun h150 m150 e150_1 e150_2 e150_3 => ?_)
              have ok150 := m150.ok
              have M150 := Mo.tr ok M143 m150 (fun z q => by rcases q with q | q | q | q | q; exact Or.inl q; exact Or.inr (Or.inl q); exact Or.inr (Or.inr (Or.inl q)); exact Or.inr (Or.inr (Or.inr (Or.inr (Or.inl q)))); exact Or.inr (Or.inr (Or.inr (Or.inr (Or.inr (Or.inr q))))))
              refine w_return d145_153 ?_
              exact kk h150 _ (bkW (bk0 true t b) l) _ M150 (by unfold rpR; rw [if_neg nsh, if_neg n2d, if_neg n3d, if_neg n1d]; exact ⟨ci, e143_1, Or.inl ⟨X.1, rfl, rfl, rfl⟩⟩) e150_1 (BoC.f ok143 m150 nbA (X.2.2 ▸ e143_3)) (by rw [← e150_2, addBs_own (h := h150) ok150 kl (by rw [e150_3, e143_5, e4_2])]) (by rw [e150_3, e143_5, e4_2])
          · have k1d : kd t = 1 := by omega
            refine w_aload_n d145_134 rfl ?_
            refine w_callv1 d145_135 (by omega) rfl (ok4.kd ok.kX) (by simp) (Nat.le_of_ble_eq_true rfl) ?_
            have tl := kd_1 ⟨t, ht35⟩ k1d
            have m0 := ra520 ok4 kq 0
            rw [ri] at m0
            refine k_Ho_show (n := a.1) (m := (a.2.2.2 0).toNat) (b0 := b) ok4 (by omega) tg ht35 ra (by have := hme; change t = 13 ∨ t = 14 ∨ t = 15 ∨ t = 16 ∨ t = 17 ∨ t = 18 ∨ t = 19 ∨ t = 20 ∨ t = 23 ∨ t = 26 ∨ t = 27 ∨ t = 33 ∨ t = 34 at tl; omega) H4 B4 rd (fun _ => by rw [ri]; omega) e4_1 hp.2.2 (fun h135 sel cu b2 m135 e135_1 e135_2 e135_3 e135_4 e135_5 e135_6 e135_7 => ?_)
            have ok135 := m135.ok
            have M135 := Mo.tr ok M4 m135 (fun z q => by rcases q with q | q | q; exact Or.inr (Or.inr (Or.inr (Or.inr (Or.inr (Or.inr q))))); exact Or.inr (Or.inr (Or.inr (Or.inr (Or.inr (Or.inl q))))); exact Or.inl (q ▸ ok.so.uT (by decide) U_refl))
            refine w_goto d145_138 ?_
            refine w_return d145_153 ?_
            exact kk h135 v b2 _ M135 (by unfold rpR; rw [if_neg nsh, if_neg n2d, if_neg n3d, if_pos k1d]; exact ⟨rfl, sel, cu, e135_1, e135_4, e135_5, rfl⟩) e135_2 e135_3 (by rw [e135_6, e4_2]) (by rw [e135_7, e4_2])
        · have k3d : kd t = 3 := by omega
          refine w_aload_n d145_113 rfl ?_
          refine w_callv1 d145_114 (by omega) rfl (ok4.kd ok.kX) (by simp) (Nat.le_of_ble_eq_true rfl) ?_
          have tl := kd_3 ⟨t, ht35⟩ k3d
          refine k_Ho_tellOutside (n := if t = 30 then k else 0) ok4 (by omega) tg ht35 ra tl H4 ri (fun e => by rw [if_pos e]; exact (rj e).1) (fun e => by by_cases q : t = 30; rw [if_pos q] at e; exact (rj q).2 e; rw [if_neg q] at e; omega) e4_1 (by rw [rb]; exact hll) (fun h114 m114 e114_1 e114_2 e114_3 => ?_)
          have ok114 := m114.ok
          have M114 := Mo.tr ok M4 m114 (fun z q => q.elim (fun q => Or.inr (Or.inl q)) (fun q => Or.inr (Or.inr (Or.inr (Or.inr (Or.inr (Or.inr q)))))))
          refine w_goto d145_117 ?_
          refine w_return d145_153 ?_
          exact kk h114 v b (ouT t v.2.1 a.2.2.2 k l) M114 (by unfold rpR; rw [if_neg nsh, if_neg n2d, if_pos k3d]; exact ⟨rfl, rfl, rfl⟩) e114_1 (BoC.f ok4 m114 (fun z u q => q.elim (fun q => apX ok.so (f := 1283) (g := 1285) (by decide) (by decide) (by decide) z u q) (nlb2 z u)) B4) (by rw [e114_2, e4_2, rb, ouT_k]) (by rw [e114_3, e4_2])
      · have k2d : kd t = 2 := by omega
        refine w_aload_n d145_92 rfl ?_
        refine w_callv1 d145_93 (by omega) rfl (ok4.kd ok.kX) (by simp) (Nat.le_of_ble_eq_true rfl) ?_
        have tl := kd_2 ⟨t, ht35⟩ k2d
        refine k_Ho_tellChain (n := a.1) (n2 := n2) ok4 (by omega) tg ht35 ra tl H4 (re tl).1 (re tl).2 rf e4_1 (fun u m => hp.1 u m) hp.2.1 (fun h93 T m93 e93_1 e93_2 e93_3 e93_4 => ?_)
        have ok93 := m93.ok
        have M93 := Mo.tr ok M4 m93 (fun z q => by rcases q with q | q | q | q; exact Or.inr (Or.inr (Or.inr (Or.inr (Or.inr (Or.inr q))))); exact Or.inl (q ▸ ok.so.uT (by decide) U_refl); exact Or.inr (Or.inr (Or.inr (Or.inl q))); exact Or.inr (Or.inr (Or.inr (Or.inr (Or.inl q)))))
        refine w_goto d145_96 ?_
        refine w_return d145_153 ?_
        exact kk h93 v b T M93 (by unfold rpR; rw [if_neg nsh, if_pos k2d]; exact ⟨rfl, rfl, e93_1⟩) e93_2 (BoC.f ok4 m93 (fun z u q => by rcases q with q | q | q | q; exact nlb2 z u q; exact apX ok.so (f := 1283) (g := 1284) (by decide) (by decide) (by decide) z u (q ▸ ok.so.uT (by decide) U_refl); exact apX ok.so (f := 1283) (g := 1287) (by decide) (by decide) (by decide) z u q; exact apX ok.so (f := 1283) (g := 1288) (by decide) (by decide) (by decide) z u q) B4) (by rw [e93_3, e4_2]) (by rw [e93_4, e4_2])
    · have ysh : b.2.2.2 = true := by cases z : b.2.2.2 with
        | true => rfl
        | false => rw [z] at c50; exact absurd rfl c50
      refine w_aload_n d145_53 rfl ?_
      refine w_dloadS d145_54 (ok4.kd ok.kX) (fr1282 ok4 ok.kX) ?_
      refine w_dloadS d145_57 (ok4.kd (kT1282 ok4 ok.kX)) (ra.trans g1) ?_
      refine w_getstaticS d145_60 z1 ?_
      refine w_acmpeq d145_63 (fun c63 => ?_) (fun c63 => ?_)
      · have nsh : ¬ (b.2.2.2 = true ∧ t ≠ 0) := fun e => e.2 (vb_inj tg ok ht35 (by decide) (by rw [g1, z1]; exact c63))
        obtain ⟨vb_, k1_, k2_, k3_, k4_, k5_, k6_⟩ := tg.vb ok4 t ht35
        have ev : vb_ = vb := Option.some.inj (k1_.symm.trans g1)
        rw [ev] at k1_ k2_ k3_ k4_
        refine w_aload_n d145_78 rfl ?_
        refine w_dloadS d145_79 (ok4.kd ok.kX) (fr1282 ok4 ok.kX) ?_
        refine w_dloadS d145_82 (ok4.kd (kT1282 ok4 ok.kX)) (ra.trans g1) ?_
        refine w_getI (x := ((kd t : Nat) : Int)) d145_85 k2_ k4_ ?_
        refine w_iconst d145_88 (by decide) ?_
        refine w_icmpne d145_89 (fun c89 => ?_) (fun c89 => ?_)
        · have n2d : ¬ kd t = 2 := by omega
          refine w_aload_n d145_99 rfl ?_
          refine w_dloadS d145_100 (ok4.kd ok.kX) (fr1282 ok4 ok.kX) ?_
          refine w_dloadS d145_103 (ok4.kd (kT1282 ok4 ok.kX)) (ra.trans g1) ?_
          refine w_getI (x := ((kd t : Nat) : Int)) d145_106 k2_ k4_ ?_
          refine w_iconst d145_109 (by decide) ?_
          refine w_icmpne d145_110 (fun c110 => ?_) (fun c110 => ?_)
          · have n3d : ¬ kd t = 3 := by omega
            refine w_aload_n d145_120 rfl ?_
            refine w_dloadS d145_121 (ok4.kd ok.kX) (fr1282 ok4 ok.kX) ?_
            refine w_dloadS d145_124 (ok4.kd (kT1282 ok4 ok.kX)) (ra.trans g1) ?_
            refine w_getI (x := ((kd t : Nat) : Int)) d145_127 k2_ k4_ ?_
            refine w_iconst d145_130 (by decide) ?_
            refine w_icmpne d145_131 (fun c131 => ?_) (fun c131 => ?_)
            · have n1d : ¬ kd t = 1 := by omega
              refine w_aload_n d145_141 rfl ?_
              refine w_iconst d145_142 (by decide) ?_
              refine w_callv2 d145_143 (by omega) rfl (ok4.kd ok.kX) (by simp) (Nat.le_of_ble_eq_true rfl) ?_
              have t12 := kd_0 ⟨t, ht35⟩ n1d n2d n3d
              change t ≤ 12 at t12
              refine k_Ho_admit (w := true) (a := a) (b0 := b) ok4 (by omega) tg rfl ht35 ra t12 H4 B4 rc (fun e => (rg e).1) ri (by rw [e4_2]; exact hcl) (by rw [rb]; exact hll) (fun ci r b2 h143 m143 e143_1 e143_2 e143_3 e143_4 e143_5 => ?_)
              have ok143 := m143.ok
              have M143 := Mo.tr ok M4 m143 (fun z q => by rcases q with q | q | q; exact Or.inr (Or.inr (Or.inr (Or.inr (Or.inr (Or.inr q))))); exact Or.inr (Or.inr (Or.inr (Or.inr (Or.inr (Or.inl q))))); exact Or.inl (q ▸ ok.so.uT (by decide) U_refl))
              rw [rb] at e143_4
              refine w_ifeq d145_146 (fun c146 => ?_) (fun c146 => ?_)
              · have rf_ : r = false := by cases z : r with
                  | true => rw [z] at c146; exact absurd c146 (by decide)
                  | false => rfl
                have X : ¬ (refN t v.1 v.2.1 (seGo v.2.2).1 (seOn v.2.2) a.1 a.2.2.1 a.2.2.2 ci = 19 ∧ bkF (bk0 true t b) l.length) ∧ rl h143 (sT S 1281 (sX S)) = txt (if refN t v.1 v.2.1 (seGo v.2.2).1 (seOn v.2.2) a.1 a.2.2.1 a.2.2.2 ci = 19 then 18 else refN t v.1 v.2.1 (seGo v.2.2).1 (seOn v.2.2) a.1 a.2.2.1 a.2.2.2 ci) ∧ b2 = bk0 true t b := by
                  rcases e143_4 with ⟨q1, q2, q3⟩ | ⟨q1, q2, q3, q4⟩
                  · rw [q2] at rf_; exact absurd rf_ (by decide)
                  · exact ⟨fun e => q1 ⟨e.1, fun _ => e.2⟩, q3, q4⟩
                refine w_return d145_153 ?_
                refine kk h143 (v) (bk0 true t b) (txt (if refN t v.1 v.2.1 (seGo v.2.2).1 (seOn v.2.2) a.1 a.2.2.1 a.2.2.2 ci = 19 then 18 else refN t v.1 v.2.1 (seGo v.2.2).1 (seOn v.2.2) a.1 a.2.2.1 a.2.2.2 ci)) M143 ?_ (e143_2) (by rw [← X.2.2]; exact e143_3) (by rw [← X.2.1, addBs_own (h := h143) ok143 kl (by rw [e143_5, e4_2])]) (by rw [e143_5, e4_2])
                unfold rpR
                rw [if_neg nsh, if_neg n2d, if_neg n3d, if_neg n1d]
                exact ⟨ci, e143_1, Or.inr ⟨X.1, rfl, rfl, rfl⟩⟩
              · have rt_ : r = true := by cases z : r with
                  | true => rfl
                  | false => rw [z] at c146; exact absurd rfl c146
                have X : (refN t v.1 v.2.1 (seGo v.2.2).1 (seOn v.2.2) a.1 a.2.2.1 a.2.2.2 ci = 19 ∧ bkF (bk0 true t b) l.length) ∧ rl h143 (sT S 1281 (sX S)) = [] ∧ b2 = bkW (bk0 true t b) l := by
                  rcases e143_4 with ⟨q1, q2, q3, q4⟩ | ⟨q1, q2, q3⟩
                  · exact ⟨⟨q1.1, q1.2 rfl⟩, q3, q4⟩
                  · rw [q2] at rt_; exact absurd rt_ (by decide)
                refine w_aload_n d145_149 rfl ?_
                refine w_callv1 d145_150 (by omega) rfl (ok143.kd ok.kX) (by simp) (Nat.le_of_ble_eq_true rfl) ?_
                have R143 := R4.f ok4 m143 nqA
                obtain ⟨sa, sb, sc, sd_, se, sf, sg, sh, si, sj⟩ := id R143
                refine k_Ho_carryOut (a := a) (ci := ci) ok143 (by omega) tg ht35 sa t12 e143_2 X.1.1 sc (fun e => (sg e).1) (fun e => (sg e).2) (fun e => Nat.le_trans (sg e).1.len (by decide)) (fun e => by rw [sb]; exact sh e) si X.2.1 (by rw [e143_5, e4_2]; exact hcl) hp.2.2 hB (fun h150 m150 e150_1 e150_2 e150_3 => ?_)
                have ok150 := m150.ok
                have M150 := Mo.tr ok M143 m150 (fun z q => by rcases q with q | q | q | q | q; exact Or.inl q; exact Or.inr (Or.inl q); exact Or.inr (Or.inr (Or.inl q)); exact Or.inr (Or.inr (Or.inr (Or.inr (Or.inl q)))); exact Or.inr (Or.inr (Or.inr (Or.inr (Or.inr (Or.inr q))))))
                refine w_return d145_153 ?_
                exact kk h150 _ (bkW (bk0 true t b) l) _ M150 (by unfold rpR; rw [if_neg nsh, if_neg n2d, if_neg n3d, if_neg n1d]; exact ⟨ci, e143_1, Or.inl ⟨X.1, rfl, rfl, rfl⟩⟩) e150_1 (BoC.f ok143 m150 nbA (X.2.2 ▸ e143_3)) (by rw [← e150_2, addBs_own (h := h150) ok150 kl (by rw [e150_3, e143_5, e4_2])]) (by rw [e150_3, e143_5, e4_2])
            · have k1d : kd t = 1 := by omega
              refine w_aload_n d145_134 rfl ?_
              refine w_callv1 d145_135 (by omega) rfl (ok4.kd ok.kX) (by simp) (Nat.le_of_ble_eq_true rfl) ?_
              have tl := kd_1 ⟨t, ht35⟩ k1d
              have m0 := ra520 ok4 kq 0
              rw [ri] at m0
              refine k_Ho_show (n := a.1) (m := (a.2.2.2 0).toNat) (b0 := b) ok4 (by omega) tg ht35 ra (by have := hme; change t = 13 ∨ t = 14 ∨ t = 15 ∨ t = 16 ∨ t = 17 ∨ t = 18 ∨ t = 19 ∨ t = 20 ∨ t = 23 ∨ t = 26 ∨ t = 27 ∨ t = 33 ∨ t = 34 at tl; omega) H4 B4 rd (fun _ => by rw [ri]; omega) e4_1 hp.2.2 (fun h135 sel cu b2 m135 e135_1 e135_2 e135_3 e135_4 e135_5 e135_6 e135_7 => ?_)
              have ok135 := m135.ok
              have M135 := Mo.tr ok M4 m135 (fun z q => by rcases q with q | q | q; exact Or.inr (Or.inr (Or.inr (Or.inr (Or.inr (Or.inr q))))); exact Or.inr (Or.inr (Or.inr (Or.inr (Or.inr (Or.inl q))))); exact Or.inl (q ▸ ok.so.uT (by decide) U_refl))
              refine w_goto d145_138 ?_
              refine w_return d145_153 ?_
              exact kk h135 v b2 _ M135 (by unfold rpR; rw [if_neg nsh, if_neg n2d, if_neg n3d, if_pos k1d]; exact ⟨rfl, sel, cu, e135_1, e135_4, e135_5, rfl⟩) e135_2 e135_3 (by rw [e135_6, e4_2]) (by rw [e135_7, e4_2])
          · have k3d : kd t = 3 := by omega
            refine w_aload_n d145_113 rfl ?_
            refine w_callv1 d145_114 (by omega) rfl (ok4.kd ok.kX) (by simp) (Nat.le_of_ble_eq_true rfl) ?_
            have tl := kd_3 ⟨t, ht35⟩ k3d
            refine k_Ho_tellOutside (n := if t = 30 then k else 0) ok4 (by omega) tg ht35 ra tl H4 ri (fun e => by rw [if_pos e]; exact (rj e).1) (fun e => by by_cases q : t = 30; rw [if_pos q] at e; exact (rj q).2 e; rw [if_neg q] at e; omega) e4_1 (by rw [rb]; exact hll) (fun h114 m114 e114_1 e114_2 e114_3 => ?_)
            have ok114 := m114.ok
            have M114 := Mo.tr ok M4 m114 (fun z q => q.elim (fun q => Or.inr (Or.inl q)) (fun q => Or.inr (Or.inr (Or.inr (Or.inr (Or.inr (Or.inr q)))))))
            refine w_goto d145_117 ?_
            refine w_return d145_153 ?_
            exact kk h114 v b (ouT t v.2.1 a.2.2.2 k l) M114 (by unfold rpR; rw [if_neg nsh, if_neg n2d, if_pos k3d]; exact ⟨rfl, rfl, rfl⟩) e114_1 (BoC.f ok4 m114 (fun z u q => q.elim (fun q => apX ok.so (f := 1283) (g := 1285) (by decide) (by decide) (by decide) z u q) (nlb2 z u)) B4) (by rw [e114_2, e4_2, rb, ouT_k]) (by rw [e114_3, e4_2])
        · have k2d : kd t = 2 := by omega
          refine w_aload_n d145_92 rfl ?_
          refine w_callv1 d145_93 (by omega) rfl (ok4.kd ok.kX) (by simp) (Nat.le_of_ble_eq_true rfl) ?_
          have tl := kd_2 ⟨t, ht35⟩ k2d
          refine k_Ho_tellChain (n := a.1) (n2 := n2) ok4 (by omega) tg ht35 ra tl H4 (re tl).1 (re tl).2 rf e4_1 (fun u m => hp.1 u m) hp.2.1 (fun h93 T m93 e93_1 e93_2 e93_3 e93_4 => ?_)
          have ok93 := m93.ok
          have M93 := Mo.tr ok M4 m93 (fun z q => by rcases q with q | q | q | q; exact Or.inr (Or.inr (Or.inr (Or.inr (Or.inr (Or.inr q))))); exact Or.inl (q ▸ ok.so.uT (by decide) U_refl); exact Or.inr (Or.inr (Or.inr (Or.inl q))); exact Or.inr (Or.inr (Or.inr (Or.inr (Or.inl q)))))
          refine w_goto d145_96 ?_
          refine w_return d145_153 ?_
          exact kk h93 v b T M93 (by unfold rpR; rw [if_neg nsh, if_pos k2d]; exact ⟨rfl, rfl, e93_1⟩) e93_2 (BoC.f ok4 m93 (fun z u q => by rcases q with q | q | q | q; exact nlb2 z u q; exact apX ok.so (f := 1283) (g := 1284) (by decide) (by decide) (by decide) z u (q ▸ ok.so.uT (by decide) U_refl); exact apX ok.so (f := 1283) (g := 1287) (by decide) (by decide) (by decide) z u q; exact apX ok.so (f := 1283) (g := 1288) (by decide) (by decide) (by decide) z u q) B4) (by rw [e93_3, e4_2]) (by rw [e93_4, e4_2])
      · have t0 : t ≠ 0 := fun e => by rw [e] at g1; rw [g1] at z1; exact c63 z1
        refine w_aload_n d145_66 rfl ?_
        refine w_dloadS d145_67 (ok4.kd ok.kX) (fr1281 ok4 ok.kX) ?_
        obtain ⟨g70, v70, s70⟩ := tg.tx ok4 37 (by decide)
        refine w_getstaticS d145_70 v70 ?_
        refine w_callv2 d145_72 (by omega) rfl (ok4.kd (kT1281 ok4 ok.kX)) (by simp) (Nat.le_of_ble_eq_true rfl) ?_
        refine r_Row_addText (by omega) ok4 (kT1281 ok4 ok.kX) s70 (fun h72 m72 e72_1 e72_2 => ?_)
        have ok72 := m72.ok
        have M72 := Mo.tr ok M4 m72 (fun ζ e => (Or.inr (Or.inr (Or.inr (Or.inr (Or.inr (Or.inr e)))))))
        refine w_goto d145_75 ?_
        refine w_return d145_153 ?_
        refine kk h72 (v) (b) (txt 37) M72 ?_ (H4.f ok4 m72 nla2) (BoC.f ok4 m72 nlb2 B4) (by rw [e72_1, e4_1, e4_2]) (by rw [e72_2, e4_2])
        unfold rpR
        rw [if_pos ⟨ysh, t0⟩]
        exact ⟨rfl, rfl, rfl⟩
  · omega
