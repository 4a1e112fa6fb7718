/-! the house: asked of outside parts -/
def ouT (t : Nat) (rs : List RuV) (nu : Nat → Int) (n : Nat) (l : List Nat) : List Nat :=
  if t = 28 then rusTxt rs rs.length else if t = 29 then (if (fsE rs).2.2.1 ≤ 5 then slTxt (fsE rs).2.1 5 else txt 4) else if t = 30 then (if n ≠ 5 then txt 21 else (if lwb rs nu < 0 then txt 22 else txt 23 ++ dec (lwb rs nu).toNat))
  else if t = 31 then (if (fsE rs).2.2.1 ≤ 5 then txt 24 else reT rs 1365 (fun _ => -1) 0) else djT rs l (l.length + 1) (fun _ => 0) (fun _ => 0) (fun _ => 0) (fun _ => -1) 0 0 9
/-- what is at levels that are not reached yet does not count -/
theorem goB_lv {lp lv lt lp' lv' lt' : Nat → Int} : ∀ {n : Nat} {w : Nat → Int}, (∀ j, j < n → lp j = lp' j ∧ lv j = lv' j ∧ lt j = lt' j) → goB lp lv lt w n = goB lp' lv' lt' w n
  | 0, w => fun _ => rfl
  | n + 1, w => fun H => by
    obtain ⟨h1, h2, h3⟩ := H n (by omega)
    unfold goB
    rw [h1, h2, h3, goB_lv (fun j hj => H j (by omega))]
theorem dj_lv {rs : List RuV} {l : List Nat} : ∀ {n : Nat} {lp lv lt lp' lv' lt' vl : Nat → Int} {L e p : Nat}, (∀ j, j < L → lp j = lp' j ∧ lv j = lv' j ∧ lt j = lt' j) → djT rs l n lp lv lt vl L e p = djT rs l n lp' lv' lt' vl L e p
  | 0, _, _, _, _, _, _, _, _, _, _ => fun _ => rfl
  | n + 1, lp, lv, lt, lp', lv', lt', vl, L, e, p => fun H => by
    have gb := goB_lv (w := vl) H
    have gl := goB_le (lp := lp') (lv := lv') (lt := lt') (n := L) (w := vl)
    rw [djT, djT]
    by_cases q1 : p < l.length
    · rw [if_pos q1, if_pos q1]
      by_cases q2 : atv l p = 63 ∧ 0 ≤ atv l (p + 1) - 48 ∧ atv l (p + 1) - 48 < 5 ∧ L < 512
      · rw [if_pos q2, if_pos q2]
        refine dj_lv (fun j hj => ?_)
        unfold up
        by_cases z : j = L
        · rw [if_pos z, if_pos z, if_pos z, if_pos z, if_pos z, if_pos z]; exact ⟨rfl, rfl, rfl⟩
        · rw [if_neg z, if_neg z, if_neg z, if_neg z, if_neg z, if_neg z]; exact H j (by omega)
      · rw [if_neg q2, if_neg q2]
        by_cases q3 : atv l p = 33 ∧ brI rs vl ((atv l (p + 1) - 48) * 10 + atv l (p + 2) - 48) = true
        · rw [if_pos q3, if_pos q3]
          by_cases z : (goB lp' lv' lt' vl L).2 = 0
          · have e1 : goF lp lv lt vl L = ((goB lp' lv' lt' vl L).1, lt, 0) := by unfold goF; rw [gb, if_pos z]
            have e2 : goF lp' lv' lt' vl L = ((goB lp' lv' lt' vl L).1, lt', 0) := by unfold goF; rw [if_pos z]
            rw [e1, e2]
            exact dj_lv (fun j hj => absurd hj (Nat.not_lt_zero _))
          · have hk := H ((goB lp' lv' lt' vl L).2 - 1) (by omega)
            have e1 : goF lp lv lt vl L = (up (goB lp' lv' lt' vl L).1 (lp' ((goB lp' lv' lt' vl L).2 - 1)).toNat (lt' ((goB lp' lv' lt' vl L).2 - 1) + 1), up lt ((goB lp' lv' lt' vl L).2 - 1) (lt' ((goB lp' lv' lt' vl L).2 - 1) + 1), (goB lp' lv' lt' vl L).2) := by unfold goF; rw [gb, if_neg z, hk.1, hk.2.2]
            have e2 : goF lp' lv' lt' vl L = (up (goB lp' lv' lt' vl L).1 (lp' ((goB lp' lv' lt' vl L).2 - 1)).toNat (lt' ((goB lp' lv' lt' vl L).2 - 1) + 1), up lt' ((goB lp' lv' lt' vl L).2 - 1) (lt' ((goB lp' lv' lt' vl L).2 - 1) + 1), (goB lp' lv' lt' vl L).2) := by unfold goF; rw [if_neg z]
            rw [e1, e2]
            refine dj_lv (fun j hj => ?_)
            change j < (goB lp' lv' lt' vl L).2 at hj
            refine ⟨(H j (by omega)).1, (H j (by omega)).2.1, ?_⟩
            show up lt ((goB lp' lv' lt' vl L).2 - 1) (lt' ((goB lp' lv' lt' vl L).2 - 1) + 1) j = up lt' ((goB lp' lv' lt' vl L).2 - 1) (lt' ((goB lp' lv' lt' vl L).2 - 1) + 1) j
            by_cases z2 : j = (goB lp' lv' lt' vl L).2 - 1
            · rw [z2, up_at, up_at]
            · rw [up_ne z2, up_ne z2]; exact (H j (by omega)).2.2
        · rw [if_neg q3, if_neg q3]
    · rw [if_neg q1, if_neg q1]
theorem d157_0 : dc 157 0 = some (.getstatic 40, 3) := by decide +kernel
theorem d157_3 : dc 157 3 = some (.aload_n 0, 4) := by decide +kernel
theorem d157_4 : dc 157 4 = some (.dload 1282, 7) := by decide +kernel
theorem d157_7 : dc 157 7 = some (.dload 514, 10) := by decide +kernel
theorem d157_10 : dc 157 10 = some (.invokestatic 2, 13) := by decide +kernel
theorem d157_13 : dc 157 13 = some (.iaload, 14) := by decide +kernel
theorem d157_14 : dc 157 14 = some (.tableswitch ((152 : Nat) : Int) 30 34 #[((48 : Nat) : Int), ((62 : Nat) : Int), ((76 : Nat) : Int), ((104 : Nat) : Int), ((118 : Nat) : Int)], 48) := by decide +kernel
theorem d157_48 : dc 157 48 = some (.aload_n 0, 49) := by decide +kernel
theorem d157_49 : dc 157 49 = some (.dload 1285, 52) := by decide +kernel
theorem d157_52 : dc 157 52 = some (.aload_n 0, 53) := by decide +kernel
theorem d157_53 : dc 157 53 = some (.dload 1281, 56) := by decide +kernel
theorem d157_56 : dc 157 56 = some (.invokevirtual 158, 59) := by decide +kernel
theorem d157_59 : dc 157 59 = some (.goto ((152 : Nat) : Int), 62) := by decide +kernel
theorem d157_62 : dc 157 62 = some (.aload_n 0, 63) := by decide +kernel
theorem d157_63 : dc 157 63 = some (.dload 1285, 66) := by decide +kernel
theorem d157_66 : dc 157 66 = some (.aload_n 0, 67) := by decide +kernel
theorem d157_67 : dc 157 67 = some (.dload 1281, 70) := by decide +kernel
theorem d157_70 : dc 157 70 = some (.invokevirtual 159, 73) := by decide +kernel
theorem d157_73 : dc 157 73 = some (.goto ((152 : Nat) : Int), 76) := by decide +kernel
theorem d157_76 : dc 157 76 = some (.aload_n 0, 77) := by decide +kernel
theorem d157_77 : dc 157 77 = some (.dload 1285, 80) := by decide +kernel
theorem d157_80 : dc 157 80 = some (.aload_n 0, 81) := by decide +kernel
theorem d157_81 : dc 157 81 = some (.dload 1282, 84) := by decide +kernel
theorem d157_84 : dc 157 84 = some (.dload 520, 87) := by decide +kernel
theorem d157_87 : dc 157 87 = some (.aload_n 0, 88) := by decide +kernel
theorem d157_88 : dc 157 88 = some (.dload 1282, 91) := by decide +kernel
theorem d157_91 : dc 157 91 = some (.getfield 521, 94) := by decide +kernel
theorem d157_94 : dc 157 94 = some (.aload_n 0, 95) := by decide +kernel
theorem d157_95 : dc 157 95 = some (.dload 1281, 98) := by decide +kernel
theorem d157_98 : dc 157 98 = some (.invokevirtual 163, 101) := by decide +kernel
theorem d157_101 : dc 157 101 = some (.goto ((152 : Nat) : Int), 104) := by decide +kernel
theorem d157_104 : dc 157 104 = some (.aload_n 0, 105) := by decide +kernel
theorem d157_105 : dc 157 105 = some (.dload 1285, 108) := by decide +kernel
theorem d157_108 : dc 157 108 = some (.aload_n 0, 109) := by decide +kernel
theorem d157_109 : dc 157 109 = some (.dload 1281, 112) := by decide +kernel
theorem d157_112 : dc 157 112 = some (.invokevirtual 164, 115) := by decide +kernel
theorem d157_115 : dc 157 115 = some (.goto ((152 : Nat) : Int), 118) := by decide +kernel
theorem d157_118 : dc 157 118 = some (.aload_n 0, 119) := by decide +kernel
theorem d157_119 : dc 157 119 = some (.dload 1285, 122) := by decide +kernel
theorem d157_122 : dc 157 122 = some (.aload_n 0, 123) := by decide +kernel
theorem d157_123 : dc 157 123 = some (.dload 1282, 126) := by decide +kernel
theorem d157_126 : dc 157 126 = some (.dload 512, 129) := by decide +kernel
theorem d157_129 : dc 157 129 = some (.aload_n 0, 130) := by decide +kernel
theorem d157_130 : dc 157 130 = some (.dload 1282, 133) := by decide +kernel
theorem d157_133 : dc 157 133 = some (.dload 514, 136) := by decide +kernel
theorem d157_136 : dc 157 136 = some (.dload 2176, 139) := by decide +kernel
theorem d157_139 : dc 157 139 = some (.invokevirtual 21, 142) := by decide +kernel
theorem d157_142 : dc 157 142 = some (.aload_n 0, 143) := by decide +kernel
theorem d157_143 : dc 157 143 = some (.dload 1281, 146) := by decide +kernel
theorem d157_146 : dc 157 146 = some (.invokevirtual 165, 149) := by decide +kernel
theorem d157_149 : dc 157 149 = some (.goto ((152 : Nat) : Int), 152) := by decide +kernel
theorem d157_152 : dc 157 152 = some (.return_, 153) := by decide +kernel
theorem k_Ho_tellOutside {S : Shp} {G : Nat → Option Nat} {d : Nat} {h : Hp} {Q : Option MV → Hp → Prop} (ok : Ok S h) (h1 : 8 ≤ d) (tg : Tg S G) {t : Nat} (ht35 : t < 35) (hvb : FR h 514 (sT S 1282 (sX S)) = G t) (ht : 28 ≤ t ∧ t ≤ 32) {v : HoS} {nu : Nat → Int} {n : Nat} (D : HoC S h v) (hnu : AI h (sT S 520 (sT S 1282 (sX S))) = nu) (hnc : t = 30 → FI h 521 (sT S 1282 (sX S)) = (n : Nat)) (hme : n = 5 → ∀ i, i < 5 → -1 ≤ nu i ∧ nu i ≤ 3) (hla : rl h (sT S 1281 (sX S)) = []) (hll : (rl h (sT S 512 (sT S 1282 (sX S)))).length ≤ 100000)
    (kk : ∀ h', Mo S (fun z => U S (sT S 1285 (sX S)) z ∨ z = sT S 1281 (sX S)) h h' → HoC S h' v → rl h' (sT S 1281 (sX S)) = addBs (cap h (sT S 1281 (sX S))) [] (ouT t v.2.1 nu n (rl h (sT S 512 (sT S 1282 (sX S))))) → cap h' (sT S 1281 (sX S)) = cap h (sT S 1281 (sX S)) → Q none h') : Cl G d 157 [vR (some (sX S))] h Q := by
  show Wp G d 157 0 [some (vR (some (sX S)))] [] h Q
  obtain ⟨vb, g1, g2, g3, g4, g5, g6⟩ := tg.vb ok t ht35
  obtain ⟨sw, w1, w2, w3, w4⟩ := tg.sw ok
  have kq := kT1282 ok ok.kX
  have kp := kT1284 ok ok.kX
  have kv := kT1285 ok ok.kX
  have ks0 := kT1286 ok ok.kX
  have kl := kT1281 ok ok.kX
  obtain ⟨pl, d2, ds, dtr, dno⟩ := id D
  have nla2 : ∀ f, 1284 ≤ f → f ≤ 1288 → ∀ z, U S (sT S f (sX S)) z → ¬ z = sT S 1281 (sX S) := fun f f1 f2 z u q => ok.so.nUT (f := f) (g := 1281) (x := sX S) (by omega) (by decide) (by omega) (q ▸ u)
  obtain ⟨gw, vw, sw_⟩ := tg.tx ok (vbW.getD 32 0) (by decide)
  refine w_getstaticS d157_0 w1 ?_
  refine w_aload_n d157_3 rfl ?_
  refine w_dloadS d157_4 (ok.kd ok.kX) (fr1282 ok ok.kX) ?_
  refine w_dloadS d157_7 (ok.kd (kT1282 ok ok.kX)) (hvb.trans g1) ?_
  refine w_ordinal d157_10 ⟨g2, by simp, by omega⟩ ?_
  rw [g3]
  refine w_ialoadV (x := ((swB.getD t 0 : Nat) : Int)) d157_13 ⟨by rw [w2]; decide, by rw [w3]; exact ⟨by omega, by omega⟩⟩ (w4 t ht35) ?_
  by_cases s28 : t = 28
  · refine w_tsw 48 d157_14 (by rw [s28]; decide) ?_
    refine w_aload_n d157_48 rfl ?_
    refine w_dloadS d157_49 (ok.kd ok.kX) (fr1285 ok ok.kX) ?_
    refine w_aload_n d157_52 rfl ?_
    refine w_dloadS d157_53 (ok.kd ok.kX) (fr1281 ok ok.kX) ?_
    refine w_callv2 d157_56 (by omega) rfl (ok.kd (kT1285 ok ok.kX)) (by simp) (Nat.le_of_ble_eq_true rfl) ?_
    refine k_Vr_tellRules ok (by omega) kv kl d2 (fun u => ok.so.nUT (f := 1285) (g := 1281) (x := sX S) (by decide) (by decide) (by decide) u) (fun h56 m56 e56_1 e56_2 => ?_)
    have ok56 := m56.ok
    have M56 := Mo.tr ok (Mo.refl (A := (fun ζ => U S (sT S 1285 (sX S)) ζ ∨ ζ = (sT S 1281 (sX S)))) ok) m56 (fun ζ e => (Or.inr e))
    refine w_goto d157_59 ?_
    refine w_return d157_152 ?_
    exact kk h56 M56 (D.f ok m56 nla2) (by unfold ouT; rw [if_pos s28]; rw [e56_1, hla]) e56_2
  by_cases s29 : t = 29
  · refine w_tsw 62 d157_14 (by rw [s29]; decide) ?_
    refine w_aload_n d157_62 rfl ?_
    refine w_dloadS d157_63 (ok.kd ok.kX) (fr1285 ok ok.kX) ?_
    refine w_aload_n d157_66 rfl ?_
    refine w_dloadS d157_67 (ok.kd ok.kX) (fr1281 ok ok.kX) ?_
    refine w_callv2 d157_70 (by omega) rfl (ok.kd (kT1285 ok ok.kX)) (by simp) (Nat.le_of_ble_eq_true rfl) ?_
    refine k_Vr_tellSolution ok (by omega) kv kl tg d2 (fun u => ok.so.nUT (f := 1285) (g := 1281) (x := sX S) (by decide) (by decide) (by decide) u) (fun h70 m70 e70_1 e70_2 => ?_)
    have ok70 := m70.ok
    have M70 := Mo.tr ok (Mo.refl (A := (fun ζ => U S (sT S 1285 (sX S)) ζ ∨ ζ = (sT S 1281 (sX S)))) ok) m70 (fun z q => by rcases q with q | q | q <;> first | exact Or.inr q | exact Or.inl (q ▸ ok.so.uT (by decide) U_refl))
    refine w_goto d157_73 ?_
    refine w_return d157_152 ?_
    exact kk h70 M70 (D.vr ok m70 (fun z q => by rcases q with q | q | q <;> first | exact Or.inr q | exact Or.inl (q ▸ ok.so.uT (by decide) U_refl)) (d2.fr ok m70 kv (Or.inl (by intro q; rcases q with q | q | q <;> first | exact ok.so.pT (by decide) q.symm | exact ok.so.ou (by decide) (by decide) (Or.inl (by decide)) q)) (fun f f1 f2 q => by rcases q with q | q | q <;> exact ok.so.ou (by omega) (by decide) (Or.inl (by omega)) q))) (by unfold ouT; rw [if_neg (by omega), if_pos s29]; rw [e70_1, hla]) e70_2
  by_cases s30 : t = 30
  · refine w_tsw 76 d157_14 (by rw [s30]; decide) ?_
    refine w_aload_n d157_76 rfl ?_
    refine w_dloadS d157_77 (ok.kd ok.kX) (fr1285 ok ok.kX) ?_
    refine w_aload_n d157_80 rfl ?_
    refine w_dloadS d157_81 (ok.kd ok.kX) (fr1282 ok ok.kX) ?_
    refine w_dloadS d157_84 (ok.kd (kT1282 ok ok.kX)) (fr520 ok (kT1282 ok ok.kX)) ?_
    refine w_aload_n d157_87 rfl ?_
    refine w_dloadS d157_88 (ok.kd ok.kX) (fr1282 ok ok.kX) ?_
    refine w_getI (x := ((n : Nat) : Int)) d157_91 (ok.kd (kT1282 ok ok.kX)) (hnc (by omega)) ?_
    refine w_aload_n d157_94 rfl ?_
    refine w_dloadS d157_95 (ok.kd ok.kX) (fr1281 ok ok.kX) ?_
    refine w_callv4 d157_98 (by omega) rfl (ok.kd (kT1285 ok ok.kX)) (by simp) (Nat.le_of_ble_eq_true rfl) ?_
    refine k_Vr_tellMeets (n := n) ok (by omega) kv kl tg kq d2 (fun e i hi => by rw [hnu]; exact hme e i hi) (fun u => ok.so.nUT (f := 1285) (g := 1281) (x := sX S) (by decide) (by decide) (by decide) u) (fun h98 m98 e98_1 e98_2 e98_3 => ?_)
    have ok98 := m98.ok
    have M98 := Mo.tr ok (Mo.refl (A := (fun ζ => U S (sT S 1285 (sX S)) ζ ∨ ζ = (sT S 1281 (sX S)))) ok) m98 (fun z q => by rcases q with q | q <;> first | exact Or.inr q | exact Or.inl (q ▸ ok.so.uT (by decide) U_refl))
    refine w_goto d157_101 ?_
    refine w_return d157_152 ?_
    exact kk h98 M98 (D.vr ok m98 (fun z q => by rcases q with q | q <;> first | exact Or.inr q | exact Or.inl (q ▸ ok.so.uT (by decide) U_refl)) e98_3) (by unfold ouT; rw [if_neg (by omega), if_neg (by omega), if_pos s30]; rw [e98_1, hla, hnu]) e98_2
  by_cases s31 : t = 31
  · refine w_tsw 104 d157_14 (by rw [s31]; decide) ?_
    refine w_aload_n d157_104 rfl ?_
    refine w_dloadS d157_105 (ok.kd ok.kX) (fr1285 ok ok.kX) ?_
    refine w_aload_n d157_108 rfl ?_
    refine w_dloadS d157_109 (ok.kd ok.kX) (fr1281 ok ok.kX) ?_
    refine w_callv2 d157_112 (by omega) rfl (ok.kd (kT1285 ok ok.kX)) (by simp) (Nat.le_of_ble_eq_true rfl) ?_
    refine k_Vr_refute ok (by omega) kv kl tg d2 (fun u => ok.so.nUT (f := 1285) (g := 1281) (x := sX S) (by decide) (by decide) (by decide) u) (fun h112 m112 e112_1 e112_2 => ?_)
    have ok112 := m112.ok
    have M112 := Mo.tr ok (Mo.refl (A := (fun ζ => U S (sT S 1285 (sX S)) ζ ∨ ζ = (sT S 1281 (sX S)))) ok) m112 (fun z q => by rcases q with q | q | q <;> first | exact Or.inr q | exact Or.inl (q ▸ ok.so.uT (by decide) U_refl))
    refine w_goto d157_115 ?_
    refine w_return d157_152 ?_
    exact kk h112 M112 (D.vr ok m112 (fun z q => by rcases q with q | q | q <;> first | exact Or.inr q | exact Or.inl (q ▸ ok.so.uT (by decide) U_refl)) (d2.fr ok m112 kv (Or.inl (by intro q; rcases q with q | q | q <;> first | exact ok.so.pT (by decide) q.symm | exact ok.so.ou (by decide) (by decide) (Or.inl (by decide)) q)) (fun f f1 f2 q => by rcases q with q | q | q <;> exact ok.so.ou (by omega) (by decide) (Or.inl (by omega)) q))) (by unfold ouT; rw [if_neg (by omega), if_neg (by omega), if_neg (by omega), if_pos s31]; rw [e112_1, hla]) e112_2
  refine w_tsw 118 d157_14 (by rw [show t = 32 by omega]; decide) ?_
  refine w_aload_n d157_118 rfl ?_
  refine w_dloadS d157_119 (ok.kd ok.kX) (fr1285 ok ok.kX) ?_
  refine w_aload_n d157_122 rfl ?_
  refine w_dloadS d157_123 (ok.kd ok.kX) (fr1282 ok ok.kX) ?_
  refine w_dloadS d157_126 (ok.kd (kT1282 ok ok.kX)) (fr512 ok (kT1282 ok ok.kX)) ?_
  refine w_aload_n d157_129 rfl ?_
  refine w_dloadS d157_130 (ok.kd ok.kX) (fr1282 ok ok.kX) ?_
  refine w_dloadS d157_133 (ok.kd (kT1282 ok ok.kX)) (hvb.trans g1) ?_
  refine w_dloadS d157_136 g2 (by rw [g5, show t = 32 by omega]; exact vw) ?_
  refine w_callv1 d157_139 (by omega) rfl sw_.1 (by simp) (Nat.le_of_ble_eq_true rfl) ?_
  refine c_Str_length (by omega) sw_ ?_
  rw [show ((txt (vbW.getD 32 0)).length : Int) = ((9 : Nat) : Int) by decide]
  refine w_aload_n d157_142 rfl ?_
  refine w_dloadS d157_143 (ok.kd ok.kX) (fr1281 ok ok.kX) ?_
  refine w_callv4 d157_146 (by omega) rfl (ok.kd (kT1285 ok ok.kX)) (by simp) (Nat.le_of_ble_eq_true rfl) ?_
  refine k_Vr_disprove (f := 9) ok (by omega) kv (kT512 ok kq) kl tg d2 (fun u => ok.so.nUT (f := 1285) (g := 1281) (x := sX S) (by decide) (by decide) (by decide) u) (fun e => ok.so.nUT (f := 1282) (g := 1281) (x := sX S) (by decide) (by decide) (by decide) (e ▸ ok.so.uT (by decide) U_refl)) (by omega) (by decide) (fun h146 m146 e146_1 e146_2 => ?_)
  have ok146 := m146.ok
  have M146 := Mo.tr ok (Mo.refl (A := (fun ζ => U S (sT S 1285 (sX S)) ζ ∨ ζ = (sT S 1281 (sX S)))) ok) m146 (fun z q => by rcases q with q | q | q | q | q <;> first | exact Or.inr q | exact Or.inl (q ▸ ok.so.uT (by decide) U_refl))
  refine w_goto d157_149 ?_
  refine w_return d157_152 ?_
  refine kk h146 M146 (D.vr ok m146 (fun z q => by rcases q with q | q | q | q | q <;> first | exact Or.inr q | exact Or.inl (q ▸ ok.so.uT (by decide) U_refl)) (d2.fr ok m146 kv (Or.inl (by intro q; rcases q with q | q | q | q | q <;> first | exact ok.so.pT (by decide) q.symm | exact ok.so.ou (by decide) (by decide) (Or.inl (by decide)) q)) (fun f f1 f2 q => by rcases q with q | q | q | q | q <;> exact ok.so.ou (by omega) (by decide) (Or.inl (by omega)) q))) (by unfold ouT; rw [if_neg (by omega), if_neg (by omega), if_neg (by omega), if_neg (by omega)]; rw [e146_1, hla]; congr 1; exact dj_lv (fun j hj => absurd hj (Nat.not_lt_zero _))) e146_2
