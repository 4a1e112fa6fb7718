/-! the house: asked -/
/-- what a request brings, mend too -/
def askR (L LZ : Nat) (l : List Nat) (v : HoS) (b : BkV) (v' : HoS) (b' : BkV) (T : List Nat) : Prop :=
  (qrR l = true ∧ qrT l = 34 ∧ v' = (mdS L b.1 2048 (hoNo v) 0 0).1 ∧ b' = (clB b.1 (mdS L b.1 2048 (hoNo v) 0 0).2.1 2048, (mdS L b.1 2048 (hoNo v) 0 0).2.1, -1, false) ∧ T = dec (mdS L b.1 2048 (hoNo v) 0 0).2.2) ∨ (¬ (qrR l = true ∧ qrT l = 34) ∧ ansR L LZ l v b v' b' T)
theorem rfQ_circ {l : List Nat} {v : HoS} (t4 : qrT l = 4) (h : rfQ l v = 19) : ¬ circV v.1.2.2 (qrA l (qrN l)).2.2.1 := by
  unfold rfQ at h
  rw [t4] at h
  unfold refN at h
  simp only [show ¬ (4 : Nat) = 1 by decide, show ¬ (4 : Nat) = 2 by decide, show ¬ (4 : Nat) = 3 by decide, if_false, if_true] at h
  by_cases c1 : rix (tgR (qrA l (qrN l)).2.2.1) < 0
  · rw [if_pos c1] at h; exact absurd h (by decide)
  rw [if_neg c1] at h
  by_cases c2 : ¬ (rix (tgR (qrA l (qrN l)).2.2.1) = 4 ↔ tgW (qrA l (qrN l)).2.2.1 ≠ [])
  · rw [if_pos c2] at h; exact absurd h (by decide)
  rw [if_neg c2] at h
  by_cases c3 : tix v.1.2.2 (tgN (qrA l (qrN l)).2.2.1) < 0 ∧ 14 ≤ v.1.2.2.length
  · rw [if_pos c3] at h; exact absurd h (by decide)
  rw [if_neg c3] at h
  intro z
  have e : ciB v.1.2.2 (qrA l (qrN l)).2.2.1 = true := @decide_eq_true _ (Classical.propDecidable _) z
  rw [if_pos e] at h
  exact absurd h (by decide)
theorem ansR.inv {L LZ k : Nat} {l : List Nat} {v v' : HoS} {b b' : BkV} {T : List Nat} (I : hInv k v) (h7 : qrT l = 7 → qrN l 0 ≤ 9999) (R : ansR L LZ l v b v' b' T) : hInv (k + 1) v' := by
  have I' := I.up (Nat.le_succ k)
  unfold ansR at R
  by_cases q : qrR l = false
  · rw [if_pos q] at R; rw [R.1]; exact I'
  rw [if_neg q] at R
  by_cases q1 : b.2.2.2 = true ∧ qrT l ≠ 0
  · rw [if_pos q1] at R; rw [R.1]; exact I'
  rw [if_neg q1] at R
  by_cases q1 : kd (qrT l) = 2
  · rw [if_pos q1] at R; rw [R.1]; exact I'
  rw [if_neg q1] at R
  by_cases q1 : kd (qrT l) = 3
  · rw [if_pos q1] at R; rw [R.1]; exact I'
  rw [if_neg q1] at R
  by_cases q1 : kd (qrT l) = 1
  · rw [if_pos q1] at R; rw [R.1]; exact I'
  rw [if_neg q1] at R
  by_cases q1 : rfQ l v = 19 ∧ (0 < l.length ∧ l.length ≤ 200 ∧ (bk0 true (qrT l) b).2.1 + l.length + 2 ≤ 2048)
  · rw [if_pos q1] at R
    rw [R.1]
    have er : qrR l = true := by
      rcases Bool.eq_false_or_eq_true (qrR l) with z | z
      · exact z
      · exact absurd z q
    exact I.ca (fun e => ⟨qr_nm er e _, rfQ_circ e q1.1⟩) h7
  · rw [if_neg q1] at R; rw [R.1]; exact I'
/-- what begins with the word of disprove is no mend -/
theorem dis_nm {la : List Nat} (h : (vbR (vw 32 ++ la) 35 0 0).1 = some (qrT (vw 32 ++ la))) : qrT (vw 32 ++ la) ≠ 34 := fun e => by
  have c := ((vbR_le (l := vw 32 ++ la) 35 0 0 (Nat.zero_le _)).2 _ h).2.2.2
  rw [e] at c
  have e34 : ∃ r, vw 34 = 109 :: r := ⟨(vw 34).tail, by decide +kernel⟩
  have e32 : ∃ r, vw 32 = 100 :: r := ⟨(vw 32).tail, by decide +kernel⟩
  obtain ⟨r, e34⟩ := e34
  obtain ⟨r2, e32⟩ := e32
  rw [e34, e32, List.cons_append, cpl, if_neg (by decide)] at c
  exact absurd c (by simp)
theorem vw_32 : vw 32 = txt 43 ∧ (vw 32).length = 9 := by decide +kernel
theorem d16_0 : dc 16 0 = some (.iload_n 1, 1) := by decide +kernel
theorem d16_1 : dc 16 1 = some (.ifCond .lt ((15 : Nat) : Int), 4) := by decide +kernel
theorem d16_4 : dc 16 4 = some (.iload_n 1, 5) := by decide +kernel
theorem d16_5 : dc 16 5 = some (.aload_n 0, 6) := by decide +kernel
theorem d16_6 : dc 16 6 = some (.dload 1280, 9) := by decide +kernel
theorem d16_9 : dc 16 9 = some (.invokevirtual 13, 12) := by decide +kernel
theorem d16_12 : dc 16 12 = some (.if_icmp .le ((17 : Nat) : Int), 15) := by decide +kernel
theorem d16_15 : dc 16 15 = some (.iconst (-1), 16) := by decide +kernel
theorem d16_16 : dc 16 16 = some (.ireturn, 17) := by decide +kernel
theorem d16_17 : dc 16 17 = some (.aload_n 0, 18) := by decide +kernel
theorem d16_18 : dc 16 18 = some (.dload 1282, 21) := by decide +kernel
theorem d16_21 : dc 16 21 = some (.dload 512, 24) := by decide +kernel
theorem d16_24 : dc 16 24 = some (.aload_n 0, 25) := by decide +kernel
theorem d16_25 : dc 16 25 = some (.dload 1280, 28) := by decide +kernel
theorem d16_28 : dc 16 28 = some (.iconst 0, 29) := by decide +kernel
theorem d16_29 : dc 16 29 = some (.iload_n 1, 30) := by decide +kernel
theorem d16_30 : dc 16 30 = some (.invokevirtual 17, 33) := by decide +kernel
theorem d16_33 : dc 16 33 = some (.aload_n 0, 34) := by decide +kernel
theorem d16_34 : dc 16 34 = some (.dload 1280, 37) := by decide +kernel
theorem d16_37 : dc 16 37 = some (.invokevirtual 18, 40) := by decide +kernel
theorem d16_40 : dc 16 40 = some (.aload_n 0, 41) := by decide +kernel
theorem d16_41 : dc 16 41 = some (.dload 1282, 44) := by decide +kernel
theorem d16_44 : dc 16 44 = some (.invokevirtual 19, 47) := by decide +kernel
theorem d16_47 : dc 16 47 = some (.aload_n 0, 48) := by decide +kernel
theorem d16_48 : dc 16 48 = some (.dload 1282, 51) := by decide +kernel
theorem d16_51 : dc 16 51 = some (.getfield 515, 54) := by decide +kernel
theorem d16_54 : dc 16 54 = some (.ifCond .ge ((77 : Nat) : Int), 57) := by decide +kernel
theorem d16_57 : dc 16 57 = some (.aload_n 0, 58) := by decide +kernel
theorem d16_58 : dc 16 58 = some (.dload 1282, 61) := by decide +kernel
theorem d16_61 : dc 16 61 = some (.dload 514, 64) := by decide +kernel
theorem d16_64 : dc 16 64 = some (.getstatic 34, 67) := by decide +kernel
theorem d16_67 : dc 16 67 = some (.if_acmp .ne ((77 : Nat) : Int), 70) := by decide +kernel
theorem d16_70 : dc 16 70 = some (.aload_n 0, 71) := by decide +kernel
theorem d16_71 : dc 16 71 = some (.invokevirtual 51, 74) := by decide +kernel
theorem d16_74 : dc 16 74 = some (.goto ((81 : Nat) : Int), 77) := by decide +kernel
theorem d16_77 : dc 16 77 = some (.aload_n 0, 78) := by decide +kernel
theorem d16_78 : dc 16 78 = some (.invokevirtual 145, 81) := by decide +kernel
theorem d16_81 : dc 16 81 = some (.aload_n 0, 82) := by decide +kernel
theorem d16_82 : dc 16 82 = some (.dload 1281, 85) := by decide +kernel
theorem d16_85 : dc 16 85 = some (.invokevirtual 13, 88) := by decide +kernel
theorem d16_88 : dc 16 88 = some (.ireturn, 89) := by decide +kernel
theorem k_Ho_ask {S : Shp} {G : Nat → Option Nat} {d : Nat} {h : Hp} {Q : Option MV → Hp → Prop} {n : Int} (ok : Ok S h) (h1 : 15 ≤ d) (tg : Tg S G) {v : HoS} {b : BkV} {k0 : Nat} {tp : List Nat} (D : HoC S h v) (Bk : BoV S h b) (I : hInv k0 v) (hk0 : k0 ≤ 60000) (hcl : 4096 ≤ cap h (sT S 1281 (sX S))) (htp : rl h (sT S 1280 (sX S)) = tp) (htl : tp.length ≤ 4000)
    (kk1 : ¬ (0 ≤ n ∧ n ≤ (tp.length : Nat)) → Q (some (vI (-1))) h) (kk : ∀ h' v' b' T, Mo S (fun z => U S (sT S 1284 (sX S)) z ∨ U S (sT S 1285 (sX S)) z ∨ U S (sT S 1286 (sX S)) z ∨ U S (sT S 1287 (sX S)) z ∨ U S (sT S 1288 (sX S)) z ∨ U S (sT S 1283 (sX S)) z ∨ z = sT S 1281 (sX S) ∨ U S (sT S 1282 (sX S)) z ∨ z = sT S 1280 (sX S)) h h' → HoC S h' v' → BoV S h' b' → hInv (k0 + 683) v' → rl h' (sT S 1280 (sX S)) = [] → rl h' (sT S 1281 (sX S)) = addBs (cap h (sT S 1281 (sX S))) [] T → cap h' (sT S 1281 (sX S)) = cap h (sT S 1281 (sX S)) → askR (stL S (sT S 1286 (sX S))) (stL S (sT S 1287 (sX S))) (tp.take n.toNat) v b v' b' T → Q (some (vI (((rl h' (sT S 1281 (sX S))).length : Nat) : Int))) h') : Cl G d 16 [vR (some (sX S)), vI n] h Q := by
  show Wp G d 16 0 [some (vR (some (sX S))), some (vI n)] [] h Q
  have kq := kT1282 ok ok.kX
  have kl := kT1281 ok ok.kX
  have kt := kT1280 ok ok.kX
  have kb := kT1283 ok ok.kX
  have kr := kT512 ok kq
  have nla2 : ∀ f, 1284 ≤ f → f ≤ 1288 → ∀ z, U S (sT S f (sX S)) z → ¬ z = sT S 1281 (sX S) := fun f f1 f2 z u q => ok.so.nUT (f := f) (g := 1281) (x := sX S) (by omega) (by decide) (by omega) (q ▸ u)
  have nqh : ∀ f, 1284 ≤ f → f ≤ 1288 → ∀ z, U S (sT S f (sX S)) z → ¬ U S (sT S 1282 (sX S)) z := fun f f1 f2 z u => apX ok.so (f := f) (g := 1282) (by omega) (by decide) (by omega) z u
  have nqb : ∀ z, U S (sT S 1283 (sX S)) z → ¬ U S (sT S 1282 (sX S)) z := fun z u => apX ok.so (f := 1283) (g := 1282) (by decide) (by decide) (by decide) z u
  have nrh : ∀ f, 1284 ≤ f → f ≤ 1288 → ∀ z, U S (sT S f (sX S)) z → ¬ z = (sT S 512 (sT S 1282 (sX S))) := fun f f1 f2 z u e => nqh f f1 f2 z u (e ▸ ok.so.uT (by decide) U_refl)
  have nrb : ∀ z, U S (sT S 1283 (sX S)) z → ¬ z = (sT S 512 (sT S 1282 (sX S))) := fun z u e => nqb z u (e ▸ ok.so.uT (by decide) U_refl)
  have nlq : ¬ U S (sT S 1282 (sX S)) (sT S 1281 (sX S)) := fun u => ok.so.nUT (f := 1282) (g := 1281) (x := sX S) (by decide) (by decide) (by decide) u
  have nlr : sT S 1281 (sX S) ≠ (sT S 512 (sT S 1282 (sX S))) := fun e => nlq (e ▸ ok.so.uT (by decide) U_refl)
  have cr : 4096 ≤ sC S (sT S 512 (sT S 1282 (sX S))) := Nat.le_trans (m := fc 512) (by decide) ((ok.so.2.2.1 512 _ (by decide) kq).2.2)
  have nTX : ∀ f, 1281 ≤ f → f ≤ 1288 → ∀ z, U S (sT S f (sX S)) z → ¬ z = sT S 1280 (sX S) := fun f f1 f2 z u q => ok.so.nUT (f := f) (g := 1280) (x := sX S) (by omega) (by decide) (by omega) (q ▸ u)
  have nrt : sT S 1280 (sX S) ≠ (sT S 512 (sT S 1282 (sX S))) := fun e => nTX 1282 (by decide) (by decide) _ (ok.so.uT (by decide) U_refl) e.symm
  have nlt : sT S 1281 (sX S) ≠ sT S 1280 (sX S) := fun e => nTX 1281 (by decide) (by decide) _ U_refl e
  have nqt : ¬ U S (sT S 1282 (sX S)) (sT S 1280 (sX S)) := fun u => nTX 1282 (by decide) (by decide) _ u rfl
  have nrv : ¬ (fun z => U S (sT S 1284 (sX S)) z ∨ U S (sT S 1285 (sX S)) z ∨ U S (sT S 1286 (sX S)) z ∨ U S (sT S 1287 (sX S)) z ∨ U S (sT S 1288 (sX S)) z ∨ U S (sT S 1283 (sX S)) z ∨ z = sT S 1281 (sX S) ∨ U S (sT S 1282 (sX S)) z) (sT S 1280 (sX S)) := fun q => by
    rcases q with q | q | q | q | q | q | q | q
    · exact nTX 1284 (by decide) (by decide) _ q rfl
    · exact nTX 1285 (by decide) (by decide) _ q rfl
    · exact nTX 1286 (by decide) (by decide) _ q rfl
    · exact nTX 1287 (by decide) (by decide) _ q rfl
    · exact nTX 1288 (by decide) (by decide) _ q rfl
    · exact nTX 1283 (by decide) (by decide) _ q rfl
    · exact nlt q.symm
    · exact nqt q
  have nrw : ¬ (fun z => U S (sT S 1284 (sX S)) z ∨ U S (sT S 1285 (sX S)) z ∨ U S (sT S 1286 (sX S)) z ∨ U S (sT S 1287 (sX S)) z ∨ U S (sT S 1288 (sX S)) z ∨ U S (sT S 1283 (sX S)) z ∨ z = sT S 1281 (sX S)) (sT S 1280 (sX S)) := fun q => nrv (by rcases q with q | q | q | q | q | q | q; exact Or.inl q; exact Or.inr (Or.inl q); exact Or.inr (Or.inr (Or.inl q)); exact Or.inr (Or.inr (Or.inr (Or.inl q))); exact Or.inr (Or.inr (Or.inr (Or.inr (Or.inl q)))); exact Or.inr (Or.inr (Or.inr (Or.inr (Or.inr (Or.inl q))))); exact Or.inr (Or.inr (Or.inr (Or.inr (Or.inr (Or.inr (Or.inl q)))))))
  have nlb2 : ∀ z, U S (sT S 1283 (sX S)) z → ¬ z = sT S 1281 (sX S) := fun z u q => ok.so.nUT (f := 1283) (g := 1281) (x := sX S) (by decide) (by decide) (by decide) (q ▸ u)
  refine w_iload_n d16_0 rfl ?_
  refine w_iflt d16_1 (fun c1 => ?_) (fun c1 => ?_)
  · have nb : ¬ (0 ≤ n ∧ n ≤ (tp.length : Nat)) := fun z => by omega
    refine w_iconst d16_15 (by decide) ?_
    refine w_ireturn d16_16 ?_
    exact kk1 nb
  · refine w_iload_n d16_4 rfl ?_
    refine w_aload_n d16_5 rfl ?_
    refine w_dloadS d16_6 (ok.kd ok.kX) (fr1280 ok ok.kX) ?_
    refine w_callv1 d16_9 (by omega) rfl (ok.kd (kT1280 ok ok.kX)) (by simp) (Nat.le_of_ble_eq_true rfl) ?_
    refine r_Row_size ok (kT1280 ok ok.kX) ?_
    rw [htp]
    refine w_icmple d16_12 (fun c12 => ?_) (fun c12 => ?_)
    · obtain ⟨N, rfl⟩ : ∃ N : Nat, n = (N : Int) := ⟨n.toNat, by omega⟩
      have hN : N ≤ tp.length := by omega
      rw [show ((N : Nat) : Int).toNat = N by omega] at kk
      generalize hlq : tp.take N = lq at kk
      have hlL : lq.length ≤ 4200 := by rw [← hlq, List.length_take]; omega
      refine w_aload_n d16_17 rfl ?_
      refine w_dloadS d16_18 (ok.kd ok.kX) (fr1282 ok ok.kX) ?_
      refine w_dloadS d16_21 (ok.kd (kT1282 ok ok.kX)) (fr512 ok (kT1282 ok ok.kX)) ?_
      refine w_aload_n d16_24 rfl ?_
      refine w_dloadS d16_25 (ok.kd ok.kX) (fr1280 ok ok.kX) ?_
      refine w_iconst d16_28 (by decide) ?_
      refine w_iload_n d16_29 rfl ?_
      refine w_callv4 d16_30 (by omega) rfl (ok.kd (kT512 ok (kT1282 ok ok.kX))) (by simp) (Nat.le_of_ble_eq_true rfl) ?_
      refine r_Row_set (f := 0) (e := N) (by omega) ok kr kt nrt ⟨by omega, by rw [htp]; omega⟩ (Or.inl (by omega)) (fun h30 m30 e30_1 => ?_)
      have ok30 := m30.ok
      have M30 := Mo.tr ok (Mo.refl (A := (fun ζ => U S (sT S 1284 (sX S)) ζ ∨ U S (sT S 1285 (sX S)) ζ ∨ U S (sT S 1286 (sX S)) ζ ∨ U S (sT S 1287 (sX S)) ζ ∨ U S (sT S 1288 (sX S)) ζ ∨ U S (sT S 1283 (sX S)) ζ ∨ ζ = (sT S 1281 (sX S)) ∨ U S (sT S 1282 (sX S)) ζ ∨ ζ = (sT S 1280 (sX S)))) ok) m30 (fun ζ e => (Or.inr (Or.inr (Or.inr (Or.inr (Or.inr (Or.inr (Or.inr (Or.inl (e ▸ (ok.so.uT (by decide) U_refl)))))))))))
      have e30 : rl h30 (sT S 512 (sT S 1282 (sX S))) = lq := by rw [e30_1, htp, ← hlq]; unfold sl; simp
      have D30 := D.f ok m30 nrh
      have B30 : BoV S h30 b := BoC.f ok m30 nrb Bk
      have C30 : cap h30 (sT S 1281 (sX S)) = cap h (sT S 1281 (sX S)) := (m30.cp ok kl).2 nlr
      refine w_aload_n d16_33 rfl ?_
      refine w_dloadS d16_34 (ok30.kd ok.kX) (fr1280 ok30 ok.kX) ?_
      refine w_callv1 d16_37 (by omega) rfl (ok30.kd (kT1280 ok30 ok.kX)) (by simp) (Nat.le_of_ble_eq_true rfl) ?_
      refine r_Row_clear ok30 (kT1280 ok30 ok.kX) (fun h37 m37 e37_1 e37_2 => ?_)
      have ok37 := m37.ok
      have M37 := Mo.tr ok M30 m37 (fun ζ e => (Or.inr (Or.inr (Or.inr (Or.inr (Or.inr (Or.inr (Or.inr (Or.inr e)))))))))
      have e37 : rl h37 (sT S 512 (sT S 1282 (sX S))) = lq := by rw [m37.rb ok30 kr (fun e => nrt e.symm)]; exact e30
      have D37 := D30.f ok30 m37 (fun f f1 f2 => nTX f (by omega) f2)
      have B37 : BoV S h37 b := BoC.f ok30 m37 (nTX 1283 (by decide) (by decide)) B30
      have C37 := ((m37.cp ok30 kl).2 nlt).trans C30
      refine w_aload_n d16_40 rfl ?_
      refine w_dloadS d16_41 (ok37.kd ok.kX) (fr1282 ok37 ok.kX) ?_
      refine w_callv1 d16_44 (by omega) rfl (ok37.kd (kT1282 ok37 ok.kX)) (by simp) (Nat.le_of_ble_eq_true rfl) ?_
      refine k_Rq_read ok37 (by omega) kq tg e37 hlL (fun h44 a' ws ns vb' m44 Rr Pr => ?_)
      have ok44 := m44.ok
      have M44 := Mo.tr ok M37 m44 (fun ζ u => (Or.inr (Or.inr (Or.inr (Or.inr (Or.inr (Or.inr (Or.inr (Or.inl (U_trans U_refl u))))))))))
      have DR := D37.f ok37 m44 nqh
      have BR : BoV S h44 b := BoC.f ok37 m44 nqb B37
      have CR := ((m44.cp ok37 kl).2 nlq).trans C37
      have TR : rl h44 (sT S 1280 (sX S)) = [] := by rw [m44.rb ok37 kt nqt]; exact e37_1
      refine w_aload_n d16_47 rfl ?_
      refine w_dloadS d16_48 (ok44.kd ok.kX) (fr1282 ok44 ok.kX) ?_
      refine w_getI (x := (FI h44 515 (sT S 1282 (sX S)))) d16_51 (ok44.kd (kT1282 ok44 ok.kX)) rfl ?_
      refine w_ifge d16_54 (fun c54 => ?_) (fun c54 => ?_)
      · have er : qrR lq = false := by
          rcases Bool.eq_false_or_eq_true (qrR lq) with z | z
          · have := (rgC_of Rr Pr z).2.1
            omega
          · exact z
        have ew := rd_wrong Pr er
        refine w_aload_n d16_77 rfl ?_
        refine w_callv1 d16_78 (by omega) rfl (ok44.kd ok.kX) (by simp) (Nat.le_of_ble_eq_true rfl) ?_
        refine k_Ho_replyW ok44 (by omega) tg ew (by have := (rg515 ok44 kq).2; rw [ew] at this; omega) (fun h78 m78 e78_1 e78_2 => ?_)
        have ok78 := m78.ok
        have M78 := Mo.tr ok M44 m78 (fun ζ e => (Or.inr (Or.inr (Or.inr (Or.inr (Or.inr (Or.inr (Or.inl e))))))))
        refine w_aload_n d16_81 rfl ?_
        refine w_dloadS d16_82 (ok78.kd ok.kX) (fr1281 ok78 ok.kX) ?_
        refine w_callv1 d16_85 (by omega) rfl (ok78.kd (kT1281 ok78 ok.kX)) (by simp) (Nat.le_of_ble_eq_true rfl) ?_
        refine r_Row_size ok78 (kT1281 ok78 ok.kX) ?_
        refine w_ireturn d16_88 ?_
        refine kk h78 v b (txt 27 ++ dec (qrE lq)) M78 (DR.f ok44 m78 nla2) (BoC.f ok44 m78 nlb2 BR) (I.up (by omega)) ?_ (by rw [e78_1, CR]) (by rw [e78_2, CR]) (Or.inr ⟨fun z => by rw [er] at z; exact absurd z.1 (by decide), ?_⟩)
        · rw [m78.rb ok44 kt (fun e => nlt e.symm)]; exact TR
        · unfold ansR; rw [if_pos er]; exact ⟨rfl, rfl, rfl⟩
      · have er : qrR lq = true := by
          rcases Bool.eq_false_or_eq_true (qrR lq) with z | z
          · exact z
          · have := rd_wrong Pr z
            omega
        obtain ⟨ht35, wq, Rg, An⟩ := rgC_of Rr Pr er
        have h7 : qrT lq = 7 → qrN lq 0 ≤ 9999 := fun e => by
          have k1 := qrK_eq er ht35 (by omega)
          rw [e] at k1
          have a0 := An 0 (by decide) (by rw [k1]; decide)
          have := (ra520 ok44 kq 0).2
          rw [a0] at this
          exact this
        obtain ⟨vb, g1, g2, g3, g4, g5, g6⟩ := tg.vb ok44 (qrT lq) ht35
        obtain ⟨vm, z1, z2, z3, z4, z5, z6⟩ := tg.vb ok44 34 (by decide)
        refine w_aload_n d16_57 rfl ?_
        refine w_dloadS d16_58 (ok44.kd ok.kX) (fr1282 ok44 ok.kX) ?_
        refine w_dloadS d16_61 (ok44.kd (kT1282 ok44 ok.kX)) (Rg.1.trans g1) ?_
        refine w_getstaticS d16_64 z1 ?_
        refine w_acmpne d16_67 (fun c67 => ?_) (fun c67 => ?_)
        · have nme : qrT lq ≠ 34 := fun e => by rw [e] at g1; rw [g1] at z1; exact c67 z1
          refine w_aload_n d16_77 rfl ?_
          refine w_callv1 d16_78 (by omega) rfl (ok44.kd ok.kX) (by simp) (Nat.le_of_ble_eq_true rfl) ?_
          refine k_Ho_reply (a := qrA lq (AI h44 (sT S 520 (sT S 1282 (sX S))))) (n2 := qr2 lq) (k := qrK lq) (v := v) (b := b) ok44 (by omega) tg ht35 nme DR BR wq Rg (by rw [CR]; exact hcl) (by omega) I.pln (I.bnd (by omega)) (fun h78 v9 b9 T9 m78 e78_1 e78_2 e78_3 e78_4 e78_5 => ?_)
          have ok78 := m78.ok
          have M78 := Mo.tr ok M44 m78 (fun z q => by rcases q with q | q | q | q | q | q | q; exact Or.inl q; exact Or.inr (Or.inl q); exact Or.inr (Or.inr (Or.inl q)); exact Or.inr (Or.inr (Or.inr (Or.inl q))); exact Or.inr (Or.inr (Or.inr (Or.inr (Or.inl q)))); exact Or.inr (Or.inr (Or.inr (Or.inr (Or.inr (Or.inl q))))); exact Or.inr (Or.inr (Or.inr (Or.inr (Or.inr (Or.inr (Or.inl q)))))))
          refine w_aload_n d16_81 rfl ?_
          refine w_dloadS d16_82 (ok78.kd ok.kX) (fr1281 ok78 ok.kX) ?_
          refine w_callv1 d16_85 (by omega) rfl (ok78.kd (kT1281 ok78 ok.kX)) (by simp) (Nat.le_of_ble_eq_true rfl) ?_
          refine r_Row_size ok78 (kT1281 ok78 ok.kX) ?_
          refine w_ireturn d16_88 ?_
          have AR := ansR_of (VrC.rg DR.2.1) er ht35 An e78_1
          refine kk h78 v9 b9 T9 M78 e78_2 e78_3 ((AR.inv I h7).up (by omega)) ?_ (by rw [e78_4, CR]) (by rw [e78_5, CR]) (Or.inr ⟨fun z => nme z.2, AR⟩)
          rw [m78.rb ok44 kt nrw]; exact TR
        · have em : qrT lq = 34 := vb_inj tg ok44 ht35 (by decide) (by rw [g1, z1]; exact c67)
          refine w_aload_n d16_70 rfl ?_
          refine w_callv1 d16_71 (by omega) rfl (ok44.kd ok.kX) (by simp) (Nat.le_of_ble_eq_true rfl) ?_
          refine k_Ho_mend (k0 := k0) ok44 (by omega) tg DR BR I hk0 (by rw [CR]; exact hcl) (fun h71 m71 e71_1 e71_2 e71_3 e71_4 e71_5 e71_6 => ?_)
          have ok71 := m71.ok
          have M71 := Mo.tr ok M44 m71 (fun z q => by rcases q with q | q | q | q | q | q | q | q; exact Or.inl q; exact Or.inr (Or.inl q); exact Or.inr (Or.inr (Or.inl q)); exact Or.inr (Or.inr (Or.inr (Or.inl q))); exact Or.inr (Or.inr (Or.inr (Or.inr (Or.inl q)))); exact Or.inr (Or.inr (Or.inr (Or.inr (Or.inr (Or.inl q))))); exact Or.inr (Or.inr (Or.inr (Or.inr (Or.inr (Or.inr (Or.inl q)))))); exact Or.inr (Or.inr (Or.inr (Or.inr (Or.inr (Or.inr (Or.inr (Or.inl q))))))))
          refine w_goto d16_74 ?_
          refine w_aload_n d16_81 rfl ?_
          refine w_dloadS d16_82 (ok71.kd ok.kX) (fr1281 ok71 ok.kX) ?_
          refine w_callv1 d16_85 (by omega) rfl (ok71.kd (kT1281 ok71 ok.kX)) (by simp) (Nat.le_of_ble_eq_true rfl) ?_
          refine r_Row_size ok71 (kT1281 ok71 ok.kX) ?_
          refine w_ireturn d16_88 ?_
          refine kk h71 _ _ _ M71 e71_1 e71_2 e71_3 ?_ (by rw [e71_5, CR]) (by rw [e71_6, CR]) (Or.inl ⟨er, em, rfl, rfl, rfl⟩)
          rw [m71.rb ok44 kt nrv]; exact TR
    · have nb : ¬ (0 ≤ n ∧ n ≤ (tp.length : Nat)) := fun z => by omega
      refine w_iconst d16_15 (by decide) ?_
      refine w_ireturn d16_16 ?_
      exact kk1 nb
theorem d180_0 : dc 180 0 = some (.aload_n 0, 1) := by decide +kernel
theorem d180_1 : dc 180 1 = some (.dload 1282, 4) := by decide +kernel
theorem d180_4 : dc 180 4 = some (.dload 512, 7) := by decide +kernel
theorem d180_7 : dc 180 7 = some (.invokevirtual 18, 10) := by decide +kernel
theorem d180_10 : dc 180 10 = some (.aload_n 0, 11) := by decide +kernel
theorem d180_11 : dc 180 11 = some (.dload 1282, 14) := by decide +kernel
theorem d180_14 : dc 180 14 = some (.dload 512, 17) := by decide +kernel
theorem d180_17 : dc 180 17 = some (.getstatic 32, 20) := by decide +kernel
theorem d180_20 : dc 180 20 = some (.dload 2176, 23) := by decide +kernel
theorem d180_23 : dc 180 23 = some (.invokevirtual 84, 26) := by decide +kernel
theorem d180_26 : dc 180 26 = some (.aload_n 0, 27) := by decide +kernel
theorem d180_27 : dc 180 27 = some (.dload 1282, 30) := by decide +kernel
theorem d180_30 : dc 180 30 = some (.dload 512, 33) := by decide +kernel
theorem d180_33 : dc 180 33 = some (.aload_n 0, 34) := by decide +kernel
theorem d180_34 : dc 180 34 = some (.dload 1281, 37) := by decide +kernel
theorem d180_37 : dc 180 37 = some (.invokevirtual 109, 40) := by decide +kernel
theorem d180_40 : dc 180 40 = some (.aload_n 0, 41) := by decide +kernel
theorem d180_41 : dc 180 41 = some (.dload 1282, 44) := by decide +kernel
theorem d180_44 : dc 180 44 = some (.invokevirtual 19, 47) := by decide +kernel
theorem d180_47 : dc 180 47 = some (.aload_n 0, 48) := by decide +kernel
theorem d180_48 : dc 180 48 = some (.invokevirtual 145, 51) := by decide +kernel
theorem d180_51 : dc 180 51 = some (.aload_n 0, 52) := by decide +kernel
theorem d180_52 : dc 180 52 = some (.dload 1281, 55) := by decide +kernel
theorem d180_55 : dc 180 55 = some (.invokevirtual 13, 58) := by decide +kernel
theorem d180_58 : dc 180 58 = some (.ireturn, 59) := by decide +kernel
theorem k_Ho_disproveW {S : Shp} {G : Nat → Option Nat} {d : Nat} {h : Hp} {Q : Option MV → Hp → Prop} (ok : Ok S h) (h1 : 15 ≤ d) (tg : Tg S G) {v : HoS} {b : BkV} {k0 : Nat} {tp la : List Nat} (D : HoC S h v) (Bk : BoV S h b) (I : hInv k0 v) (hk0 : k0 ≤ 60000) (hcl : 4096 ≤ cap h (sT S 1281 (sX S))) (htp : rl h (sT S 1280 (sX S)) = tp) (hla : rl h (sT S 1281 (sX S)) = la) (hll : la.length ≤ 4087) (er : qrR (vw 32 ++ la) = false)
    (kk : ∀ h' v' b' T, Mo S (fun z => U S (sT S 1284 (sX S)) z ∨ U S (sT S 1285 (sX S)) z ∨ U S (sT S 1286 (sX S)) z ∨ U S (sT S 1287 (sX S)) z ∨ U S (sT S 1288 (sX S)) z ∨ U S (sT S 1283 (sX S)) z ∨ z = sT S 1281 (sX S) ∨ U S (sT S 1282 (sX S)) z ∨ z = sT S 1280 (sX S)) h h' → HoC S h' v' → BoV S h' b' → hInv (k0 + 683) v' → rl h' (sT S 1280 (sX S)) = tp → rl h' (sT S 1281 (sX S)) = addBs (cap h (sT S 1281 (sX S))) [] T → cap h' (sT S 1281 (sX S)) = cap h (sT S 1281 (sX S)) → askR (stL S (sT S 1286 (sX S))) (stL S (sT S 1287 (sX S))) (vw 32 ++ la) v b v' b' T → Q (some (vI (((rl h' (sT S 1281 (sX S))).length : Nat) : Int))) h') : Cl G d 180 [vR (some (sX S))] h Q := by
  show Wp G d 180 0 [some (vR (some (sX S)))] [] h Q
  have kq := kT1282 ok ok.kX
  have kl := kT1281 ok ok.kX
  have kt := kT1280 ok ok.kX
  have kb := kT1283 ok ok.kX
  have kr := kT512 ok kq
  have nla2 : ∀ f, 1284 ≤ f → f ≤ 1288 → ∀ z, U S (sT S f (sX S)) z → ¬ z = sT S 1281 (sX S) := fun f f1 f2 z u q => ok.so.nUT (f := f) (g := 1281) (x := sX S) (by omega) (by decide) (by omega) (q ▸ u)
  have nqh : ∀ f, 1284 ≤ f → f ≤ 1288 → ∀ z, U S (sT S f (sX S)) z → ¬ U S (sT S 1282 (sX S)) z := fun f f1 f2 z u => apX ok.so (f := f) (g := 1282) (by omega) (by decide) (by omega) z u
  have nqb : ∀ z, U S (sT S 1283 (sX S)) z → ¬ U S (sT S 1282 (sX S)) z := fun z u => apX ok.so (f := 1283) (g := 1282) (by decide) (by decide) (by decide) z u
  have nrh : ∀ f, 1284 ≤ f → f ≤ 1288 → ∀ z, U S (sT S f (sX S)) z → ¬ z = (sT S 512 (sT S 1282 (sX S))) := fun f f1 f2 z u e => nqh f f1 f2 z u (e ▸ ok.so.uT (by decide) U_refl)
  have nrb : ∀ z, U S (sT S 1283 (sX S)) z → ¬ z = (sT S 512 (sT S 1282 (sX S))) := fun z u e => nqb z u (e ▸ ok.so.uT (by decide) U_refl)
  have nlq : ¬ U S (sT S 1282 (sX S)) (sT S 1281 (sX S)) := fun u => ok.so.nUT (f := 1282) (g := 1281) (x := sX S) (by decide) (by decide) (by decide) u
  have nlr : sT S 1281 (sX S) ≠ (sT S 512 (sT S 1282 (sX S))) := fun e => nlq (e ▸ ok.so.uT (by decide) U_refl)
  have cr : 4096 ≤ sC S (sT S 512 (sT S 1282 (sX S))) := Nat.le_trans (m := fc 512) (by decide) ((ok.so.2.2.1 512 _ (by decide) kq).2.2)
  have nTX : ∀ f, 1281 ≤ f → f ≤ 1288 → ∀ z, U S (sT S f (sX S)) z → ¬ z = sT S 1280 (sX S) := fun f f1 f2 z u q => ok.so.nUT (f := f) (g := 1280) (x := sX S) (by omega) (by decide) (by omega) (q ▸ u)
  have nrt : sT S 1280 (sX S) ≠ (sT S 512 (sT S 1282 (sX S))) := fun e => nTX 1282 (by decide) (by decide) _ (ok.so.uT (by decide) U_refl) e.symm
  have nlt : sT S 1281 (sX S) ≠ sT S 1280 (sX S) := fun e => nTX 1281 (by decide) (by decide) _ U_refl e
  have nqt : ¬ U S (sT S 1282 (sX S)) (sT S 1280 (sX S)) := fun u => nTX 1282 (by decide) (by decide) _ u rfl
  have nrv : ¬ (fun z => U S (sT S 1284 (sX S)) z ∨ U S (sT S 1285 (sX S)) z ∨ U S (sT S 1286 (sX S)) z ∨ U S (sT S 1287 (sX S)) z ∨ U S (sT S 1288 (sX S)) z ∨ U S (sT S 1283 (sX S)) z ∨ z = sT S 1281 (sX S) ∨ U S (sT S 1282 (sX S)) z) (sT S 1280 (sX S)) := fun q => by
    rcases q with q | q | q | q | q | q | q | q
    · exact nTX 1284 (by decide) (by decide) _ q rfl
    · exact nTX 1285 (by decide) (by decide) _ q rfl
    · exact nTX 1286 (by decide) (by decide) _ q rfl
    · exact nTX 1287 (by decide) (by decide) _ q rfl
    · exact nTX 1288 (by decide) (by decide) _ q rfl
    · exact nTX 1283 (by decide) (by decide) _ q rfl
    · exact nlt q.symm
    · exact nqt q
  have nrw : ¬ (fun z => U S (sT S 1284 (sX S)) z ∨ U S (sT S 1285 (sX S)) z ∨ U S (sT S 1286 (sX S)) z ∨ U S (sT S 1287 (sX S)) z ∨ U S (sT S 1288 (sX S)) z ∨ U S (sT S 1283 (sX S)) z ∨ z = sT S 1281 (sX S)) (sT S 1280 (sX S)) := fun q => nrv (by rcases q with q | q | q | q | q | q | q; exact Or.inl q; exact Or.inr (Or.inl q); exact Or.inr (Or.inr (Or.inl q)); exact Or.inr (Or.inr (Or.inr (Or.inl q))); exact Or.inr (Or.inr (Or.inr (Or.inr (Or.inl q)))); exact Or.inr (Or.inr (Or.inr (Or.inr (Or.inr (Or.inl q))))); exact Or.inr (Or.inr (Or.inr (Or.inr (Or.inr (Or.inr (Or.inl q)))))))
  have nlb2 : ∀ z, U S (sT S 1283 (sX S)) z → ¬ z = sT S 1281 (sX S) := fun z u q => ok.so.nUT (f := 1283) (g := 1281) (x := sX S) (by decide) (by decide) (by decide) (q ▸ u)
  generalize hlq : vw 32 ++ la = lq at kk er
  have hlL : lq.length ≤ 4200 := by rw [← hlq, List.length_append, vw_32.2]; omega
  refine w_aload_n d180_0 rfl ?_
  refine w_dloadS d180_1 (ok.kd ok.kX) (fr1282 ok ok.kX) ?_
  refine w_dloadS d180_4 (ok.kd (kT1282 ok ok.kX)) (fr512 ok (kT1282 ok ok.kX)) ?_
  refine w_callv1 d180_7 (by omega) rfl (ok.kd (kT512 ok (kT1282 ok ok.kX))) (by simp) (Nat.le_of_ble_eq_true rfl) ?_
  refine r_Row_clear ok (kT512 ok (kT1282 ok ok.kX)) (fun h7 m7 e7_1 e7_2 => ?_)
  have ok7 := m7.ok
  have M7 := Mo.tr ok (Mo.refl (A := (fun ζ => U S (sT S 1284 (sX S)) ζ ∨ U S (sT S 1285 (sX S)) ζ ∨ U S (sT S 1286 (sX S)) ζ ∨ U S (sT S 1287 (sX S)) ζ ∨ U S (sT S 1288 (sX S)) ζ ∨ U S (sT S 1283 (sX S)) ζ ∨ ζ = (sT S 1281 (sX S)) ∨ U S (sT S 1282 (sX S)) ζ ∨ ζ = (sT S 1280 (sX S)))) ok) m7 (fun ζ e => (Or.inr (Or.inr (Or.inr (Or.inr (Or.inr (Or.inr (Or.inr (Or.inl (e ▸ (ok.so.uT (by decide) U_refl)))))))))))
  have D7 := D.f ok m7 nrh
  have B7 : BoV S h7 b := BoC.f ok m7 nrb Bk
  have C7 : cap h7 (sT S 1281 (sX S)) = cap h (sT S 1281 (sX S)) := (m7.cp ok kl).2 nlr
  have q7 : 4096 ≤ cap h7 (sT S 512 (sT S 1282 (sX S))) := cT512 ok7 kq
  obtain ⟨vd, z1, z2, z3, z4, z5, z6⟩ := tg.vb ok7 32 (by decide)
  obtain ⟨gd, y1, y3⟩ := tg.tx ok7 43 (by decide)
  refine w_aload_n d180_10 rfl ?_
  refine w_dloadS d180_11 (ok7.kd ok.kX) (fr1282 ok7 ok.kX) ?_
  refine w_dloadS d180_14 (ok7.kd (kT1282 ok7 ok.kX)) (fr512 ok7 (kT1282 ok7 ok.kX)) ?_
  refine w_getstaticS d180_17 z1 ?_
  refine w_dloadS d180_20 z2 (z5.trans y1) ?_
  refine w_callv2 d180_23 (by omega) rfl (ok7.kd (kT512 ok7 (kT1282 ok7 ok.kX))) (by simp) (Nat.le_of_ble_eq_true rfl) ?_
  refine r_Row_addText (by omega) ok7 kr y3 (fun h23 m23 e23_1 e23_2 => ?_)
  have ok23 := m23.ok
  have M23 := Mo.tr ok M7 m23 (fun ζ e => (Or.inr (Or.inr (Or.inr (Or.inr (Or.inr (Or.inr (Or.inr (Or.inl (e ▸ (ok.so.uT (by decide) U_refl)))))))))))
  rw [e7_1] at e23_1
  have D23 := D7.f ok7 m23 nrh
  have B23 : BoV S h23 b := BoC.f ok7 m23 nrb B7
  have C23 := ((m23.cp ok7 kl).2 nlr).trans C7
  have L23 : rl h23 (sT S 1281 (sX S)) = la := by rw [m23.rb ok7 kl nlr, m7.rb ok kl nlr]; exact hla
  have w9 : (txt 43).length = 9 := by rw [← vw_32.1]; exact vw_32.2
  have q23 : rl h23 (sT S 512 (sT S 1282 (sX S))) = txt 43 := by rw [e23_1, addBs_fit (by rw [w9]; exact Nat.le_trans (by decide) q7)]; rfl
  refine w_aload_n d180_26 rfl ?_
  refine w_dloadS d180_27 (ok23.kd ok.kX) (fr1282 ok23 ok.kX) ?_
  refine w_dloadS d180_30 (ok23.kd (kT1282 ok23 ok.kX)) (fr512 ok23 (kT1282 ok23 ok.kX)) ?_
  refine w_aload_n d180_33 rfl ?_
  refine w_dloadS d180_34 (ok23.kd ok.kX) (fr1281 ok23 ok.kX) ?_
  refine w_callv2 d180_37 (by omega) rfl (ok23.kd (kT512 ok23 (kT1282 ok23 ok.kX))) (by simp) (Nat.le_of_ble_eq_true rfl) ?_
  refine r_Row_addRow (by omega) ok23 kr kl nlr (fun h37 m37 e37_1 e37_2 => ?_)
  have ok37 := m37.ok
  have M37 := Mo.tr ok M23 m37 (fun ζ e => (Or.inr (Or.inr (Or.inr (Or.inr (Or.inr (Or.inr (Or.inr (Or.inl (e ▸ (ok.so.uT (by decide) U_refl)))))))))))
  have e37 : rl h37 (sT S 512 (sT S 1282 (sX S))) = lq := by rw [e37_1, q23, L23, e23_2, addBs_fit (by rw [w9]; omega), ← vw_32.1]; exact hlq
  have D37 := D23.f ok23 m37 nrh
  have B37 : BoV S h37 b := BoC.f ok23 m37 nrb B23
  have C37 := ((m37.cp ok23 kl).2 nlr).trans C23
  have T37 : rl h37 (sT S 1280 (sX S)) = tp := by rw [m37.rb ok23 kt nrt, m23.rb ok7 kt nrt, m7.rb ok kt nrt]; exact htp
  refine w_aload_n d180_40 rfl ?_
  refine w_dloadS d180_41 (ok37.kd ok.kX) (fr1282 ok37 ok.kX) ?_
  refine w_callv1 d180_44 (by omega) rfl (ok37.kd (kT1282 ok37 ok.kX)) (by simp) (Nat.le_of_ble_eq_true rfl) ?_
  refine k_Rq_read ok37 (by omega) kq tg e37 hlL (fun h44 a' ws ns vb' m44 Rr Pr => ?_)
  have ok44 := m44.ok
  have M44 := Mo.tr ok M37 m44 (fun ζ u => (Or.inr (Or.inr (Or.inr (Or.inr (Or.inr (Or.inr (Or.inr (Or.inl (U_trans U_refl u))))))))))
  have DR := D37.f ok37 m44 nqh
  have BR : BoV S h44 b := BoC.f ok37 m44 nqb B37
  have CR := ((m44.cp ok37 kl).2 nlq).trans C37
  have TR : rl h44 (sT S 1280 (sX S)) = tp := by rw [m44.rb ok37 kt nqt]; exact T37
  have ew := rd_wrong Pr er
  refine w_aload_n d180_47 rfl ?_
  refine w_callv1 d180_48 (by omega) rfl (ok44.kd ok.kX) (by simp) (Nat.le_of_ble_eq_true rfl) ?_
  refine k_Ho_replyW ok44 (by omega) tg ew (by have := (rg515 ok44 kq).2; rw [ew] at this; omega) (fun h48 m48 e48_1 e48_2 => ?_)
  have ok48 := m48.ok
  have M48 := Mo.tr ok M44 m48 (fun ζ e => (Or.inr (Or.inr (Or.inr (Or.inr (Or.inr (Or.inr (Or.inl e))))))))
  refine w_aload_n d180_51 rfl ?_
  refine w_dloadS d180_52 (ok48.kd ok.kX) (fr1281 ok48 ok.kX) ?_
  refine w_callv1 d180_55 (by omega) rfl (ok48.kd (kT1281 ok48 ok.kX)) (by simp) (Nat.le_of_ble_eq_true rfl) ?_
  refine r_Row_size ok48 (kT1281 ok48 ok.kX) ?_
  refine w_ireturn d180_58 ?_
  refine kk h48 v b (txt 27 ++ dec (qrE lq)) M48 (DR.f ok44 m48 nla2) (BoC.f ok44 m48 nlb2 BR) (I.up (by omega)) ?_ (by rw [e48_1, CR]) (by rw [e48_2, CR]) (Or.inr ⟨fun z => by rw [er] at z; exact absurd z.1 (by decide), ?_⟩)
  · rw [m48.rb ok44 kt (fun e => nlt e.symm)]; exact TR
  · unfold ansR; rw [if_pos er]; exact ⟨rfl, rfl, rfl⟩
theorem k_Ho_disproveR {S : Shp} {G : Nat → Option Nat} {d : Nat} {h : Hp} {Q : Option MV → Hp → Prop} (ok : Ok S h) (h1 : 15 ≤ d) (tg : Tg S G) {v : HoS} {b : BkV} {k0 : Nat} {tp la : List Nat} (D : HoC S h v) (Bk : BoV S h b) (I : hInv k0 v) (hk0 : k0 ≤ 60000) (hcl : 4096 ≤ cap h (sT S 1281 (sX S))) (htp : rl h (sT S 1280 (sX S)) = tp) (hla : rl h (sT S 1281 (sX S)) = la) (hll : la.length ≤ 4087) (er : qrR (vw 32 ++ la) = true)
    (kk : ∀ h' v' b' T, Mo S (fun z => U S (sT S 1284 (sX S)) z ∨ U S (sT S 1285 (sX S)) z ∨ U S (sT S 1286 (sX S)) z ∨ U S (sT S 1287 (sX S)) z ∨ U S (sT S 1288 (sX S)) z ∨ U S (sT S 1283 (sX S)) z ∨ z = sT S 1281 (sX S) ∨ U S (sT S 1282 (sX S)) z ∨ z = sT S 1280 (sX S)) h h' → HoC S h' v' → BoV S h' b' → hInv (k0 + 683) v' → rl h' (sT S 1280 (sX S)) = tp → rl h' (sT S 1281 (sX S)) = addBs (cap h (sT S 1281 (sX S))) [] T → cap h' (sT S 1281 (sX S)) = cap h (sT S 1281 (sX S)) → askR (stL S (sT S 1286 (sX S))) (stL S (sT S 1287 (sX S))) (vw 32 ++ la) v b v' b' T → Q (some (vI (((rl h' (sT S 1281 (sX S))).length : Nat) : Int))) h') : Cl G d 180 [vR (some (sX S))] h Q := by
  show Wp G d 180 0 [some (vR (some (sX S)))] [] h Q
  have kq := kT1282 ok ok.kX
  have kl := kT1281 ok ok.kX
  have kt := kT1280 ok ok.kX
  have kb := kT1283 ok ok.kX
  have kr := kT512 ok kq
  have nla2 : ∀ f, 1284 ≤ f → f ≤ 1288 → ∀ z, U S (sT S f (sX S)) z → ¬ z = sT S 1281 (sX S) := fun f f1 f2 z u q => ok.so.nUT (f := f) (g := 1281) (x := sX S) (by omega) (by decide) (by omega) (q ▸ u)
  have nqh : ∀ f, 1284 ≤ f → f ≤ 1288 → ∀ z, U S (sT S f (sX S)) z → ¬ U S (sT S 1282 (sX S)) z := fun f f1 f2 z u => apX ok.so (f := f) (g := 1282) (by omega) (by decide) (by omega) z u
  have nqb : ∀ z, U S (sT S 1283 (sX S)) z → ¬ U S (sT S 1282 (sX S)) z := fun z u => apX ok.so (f := 1283) (g := 1282) (by decide) (by decide) (by decide) z u
  have nrh : ∀ f, 1284 ≤ f → f ≤ 1288 → ∀ z, U S (sT S f (sX S)) z → ¬ z = (sT S 512 (sT S 1282 (sX S))) := fun f f1 f2 z u e => nqh f f1 f2 z u (e ▸ ok.so.uT (by decide) U_refl)
  have nrb : ∀ z, U S (sT S 1283 (sX S)) z → ¬ z = (sT S 512 (sT S 1282 (sX S))) := fun z u e => nqb z u (e ▸ ok.so.uT (by decide) U_refl)
  have nlq : ¬ U S (sT S 1282 (sX S)) (sT S 1281 (sX S)) := fun u => ok.so.nUT (f := 1282) (g := 1281) (x := sX S) (by decide) (by decide) (by decide) u
  have nlr : sT S 1281 (sX S) ≠ (sT S 512 (sT S 1282 (sX S))) := fun e => nlq (e ▸ ok.so.uT (by decide) U_refl)
  have cr : 4096 ≤ sC S (sT S 512 (sT S 1282 (sX S))) := Nat.le_trans (m := fc 512) (by decide) ((ok.so.2.2.1 512 _ (by decide) kq).2.2)
  have nTX : ∀ f, 1281 ≤ f → f ≤ 1288 → ∀ z, U S (sT S f (sX S)) z → ¬ z = sT S 1280 (sX S) := fun f f1 f2 z u q => ok.so.nUT (f := f) (g := 1280) (x := sX S) (by omega) (by decide) (by omega) (q ▸ u)
  have nrt : sT S 1280 (sX S) ≠ (sT S 512 (sT S 1282 (sX S))) := fun e => nTX 1282 (by decide) (by decide) _ (ok.so.uT (by decide) U_refl) e.symm
  have nlt : sT S 1281 (sX S) ≠ sT S 1280 (sX S) := fun e => nTX 1281 (by decide) (by decide) _ U_refl e
  have nqt : ¬ U S (sT S 1282 (sX S)) (sT S 1280 (sX S)) := fun u => nTX 1282 (by decide) (by decide) _ u rfl
  have nrv : ¬ (fun z => U S (sT S 1284 (sX S)) z ∨ U S (sT S 1285 (sX S)) z ∨ U S (sT S 1286 (sX S)) z ∨ U S (sT S 1287 (sX S)) z ∨ U S (sT S 1288 (sX S)) z ∨ U S (sT S 1283 (sX S)) z ∨ z = sT S 1281 (sX S) ∨ U S (sT S 1282 (sX S)) z) (sT S 1280 (sX S)) := fun q => by
    rcases q with q | q | q | q | q | q | q | q
    · exact nTX 1284 (by decide) (by decide) _ q rfl
    · exact nTX 1285 (by decide) (by decide) _ q rfl
    · exact nTX 1286 (by decide) (by decide) _ q rfl
    · exact nTX 1287 (by decide) (by decide) _ q rfl
    · exact nTX 1288 (by decide) (by decide) _ q rfl
    · exact nTX 1283 (by decide) (by decide) _ q rfl
    · exact nlt q.symm
    · exact nqt q
  have nrw : ¬ (fun z => U S (sT S 1284 (sX S)) z ∨ U S (sT S 1285 (sX S)) z ∨ U S (sT S 1286 (sX S)) z ∨ U S (sT S 1287 (sX S)) z ∨ U S (sT S 1288 (sX S)) z ∨ U S (sT S 1283 (sX S)) z ∨ z = sT S 1281 (sX S)) (sT S 1280 (sX S)) := fun q => nrv (by rcases q with q | q | q | q | q | q | q; exact Or.inl q; exact Or.inr (Or.inl q); exact Or.inr (Or.inr (Or.inl q)); exact Or.inr (Or.inr (Or.inr (Or.inl q))); exact Or.inr (Or.inr (Or.inr (Or.inr (Or.inl q)))); exact Or.inr (Or.inr (Or.inr (Or.inr (Or.inr (Or.inl q))))); exact Or.inr (Or.inr (Or.inr (Or.inr (Or.inr (Or.inr (Or.inl q)))))))
  have nlb2 : ∀ z, U S (sT S 1283 (sX S)) z → ¬ z = sT S 1281 (sX S) := fun z u q => ok.so.nUT (f := 1283) (g := 1281) (x := sX S) (by decide) (by decide) (by decide) (q ▸ u)
  generalize hlq : vw 32 ++ la = lq at kk er
  have hlL : lq.length ≤ 4200 := by rw [← hlq, List.length_append, vw_32.2]; omega
  refine w_aload_n d180_0 rfl ?_
  refine w_dloadS d180_1 (ok.kd ok.kX) (fr1282 ok ok.kX) ?_
  refine w_dloadS d180_4 (ok.kd (kT1282 ok ok.kX)) (fr512 ok (kT1282 ok ok.kX)) ?_
  refine w_callv1 d180_7 (by omega) rfl (ok.kd (kT512 ok (kT1282 ok ok.kX))) (by simp) (Nat.le_of_ble_eq_true rfl) ?_
  refine r_Row_clear ok (kT512 ok (kT1282 ok ok.kX)) (fun h7 m7 e7_1 e7_2 => ?_)
  have ok7 := m7.ok
  have M7 := Mo.tr ok (Mo.refl (A := (fun ζ => U S (sT S 1284 (sX S)) ζ ∨ U S (sT S 1285 (sX S)) ζ ∨ U S (sT S 1286 (sX S)) ζ ∨ U S (sT S 1287 (sX S)) ζ ∨ U S (sT S 1288 (sX S)) ζ ∨ U S (sT S 1283 (sX S)) ζ ∨ ζ = (sT S 1281 (sX S)) ∨ U S (sT S 1282 (sX S)) ζ ∨ ζ = (sT S 1280 (sX S)))) ok) m7 (fun ζ e => (Or.inr (Or.inr (Or.inr (Or.inr (Or.inr (Or.inr (Or.inr (Or.inl (e ▸ (ok.so.uT (by decide) U_refl)))))))))))
  have D7 := D.f ok m7 nrh
  have B7 : BoV S h7 b := BoC.f ok m7 nrb Bk
  have C7 : cap h7 (sT S 1281 (sX S)) = cap h (sT S 1281 (sX S)) := (m7.cp ok kl).2 nlr
  have q7 : 4096 ≤ cap h7 (sT S 512 (sT S 1282 (sX S))) := cT512 ok7 kq
  obtain ⟨vd, z1, z2, z3, z4, z5, z6⟩ := tg.vb ok7 32 (by decide)
  obtain ⟨gd, y1, y3⟩ := tg.tx ok7 43 (by decide)
  refine w_aload_n d180_10 rfl ?_
  refine w_dloadS d180_11 (ok7.kd ok.kX) (fr1282 ok7 ok.kX) ?_
  refine w_dloadS d180_14 (ok7.kd (kT1282 ok7 ok.kX)) (fr512 ok7 (kT1282 ok7 ok.kX)) ?_
  refine w_getstaticS d180_17 z1 ?_
  refine w_dloadS d180_20 z2 (z5.trans y1) ?_
  refine w_callv2 d180_23 (by omega) rfl (ok7.kd (kT512 ok7 (kT1282 ok7 ok.kX))) (by simp) (Nat.le_of_ble_eq_true rfl) ?_
  refine r_Row_addText (by omega) ok7 kr y3 (fun h23 m23 e23_1 e23_2 => ?_)
  have ok23 := m23.ok
  have M23 := Mo.tr ok M7 m23 (fun ζ e => (Or.inr (Or.inr (Or.inr (Or.inr (Or.inr (Or.inr (Or.inr (Or.inl (e ▸ (ok.so.uT (by decide) U_refl)))))))))))
  rw [e7_1] at e23_1
  have D23 := D7.f ok7 m23 nrh
  have B23 : BoV S h23 b := BoC.f ok7 m23 nrb B7
  have C23 := ((m23.cp ok7 kl).2 nlr).trans C7
  have L23 : rl h23 (sT S 1281 (sX S)) = la := by rw [m23.rb ok7 kl nlr, m7.rb ok kl nlr]; exact hla
  have w9 : (txt 43).length = 9 := by rw [← vw_32.1]; exact vw_32.2
  have q23 : rl h23 (sT S 512 (sT S 1282 (sX S))) = txt 43 := by rw [e23_1, addBs_fit (by rw [w9]; exact Nat.le_trans (by decide) q7)]; rfl
  refine w_aload_n d180_26 rfl ?_
  refine w_dloadS d180_27 (ok23.kd ok.kX) (fr1282 ok23 ok.kX) ?_
  refine w_dloadS d180_30 (ok23.kd (kT1282 ok23 ok.kX)) (fr512 ok23 (kT1282 ok23 ok.kX)) ?_
  refine w_aload_n d180_33 rfl ?_
  refine w_dloadS d180_34 (ok23.kd ok.kX) (fr1281 ok23 ok.kX) ?_
  refine w_callv2 d180_37 (by omega) rfl (ok23.kd (kT512 ok23 (kT1282 ok23 ok.kX))) (by simp) (Nat.le_of_ble_eq_true rfl) ?_
  refine r_Row_addRow (by omega) ok23 kr kl nlr (fun h37 m37 e37_1 e37_2 => ?_)
  have ok37 := m37.ok
  have M37 := Mo.tr ok M23 m37 (fun ζ e => (Or.inr (Or.inr (Or.inr (Or.inr (Or.inr (Or.inr (Or.inr (Or.inl (e ▸ (ok.so.uT (by decide) U_refl)))))))))))
  have e37 : rl h37 (sT S 512 (sT S 1282 (sX S))) = lq := by rw [e37_1, q23, L23, e23_2, addBs_fit (by rw [w9]; omega), ← vw_32.1]; exact hlq
  have D37 := D23.f ok23 m37 nrh
  have B37 : BoV S h37 b := BoC.f ok23 m37 nrb B23
  have C37 := ((m37.cp ok23 kl).2 nlr).trans C23
  have T37 : rl h37 (sT S 1280 (sX S)) = tp := by rw [m37.rb ok23 kt nrt, m23.rb ok7 kt nrt, m7.rb ok kt nrt]; exact htp
  refine w_aload_n d180_40 rfl ?_
  refine w_dloadS d180_41 (ok37.kd ok.kX) (fr1282 ok37 ok.kX) ?_
  refine w_callv1 d180_44 (by omega) rfl (ok37.kd (kT1282 ok37 ok.kX)) (by simp) (Nat.le_of_ble_eq_true rfl) ?_
  refine k_Rq_read ok37 (by omega) kq tg e37 hlL (fun h44 a' ws ns vb' m44 Rr Pr => ?_)
  have ok44 := m44.ok
  have M44 := Mo.tr ok M37 m44 (fun ζ u => (Or.inr (Or.inr (Or.inr (Or.inr (Or.inr (Or.inr (Or.inr (Or.inl (U_trans U_refl u))))))))))
  have DR := D37.f ok37 m44 nqh
  have BR : BoV S h44 b := BoC.f ok37 m44 nqb B37
  have CR := ((m44.cp ok37 kl).2 nlq).trans C37
  have TR : rl h44 (sT S 1280 (sX S)) = tp := by rw [m44.rb ok37 kt nqt]; exact T37
  obtain ⟨ht35, wq, Rg, An⟩ := rgC_of Rr Pr er
  have h7 : qrT lq = 7 → qrN lq 0 ≤ 9999 := fun e => by
    have k1 := qrK_eq er ht35 (by omega)
    rw [e] at k1
    have a0 := An 0 (by decide) (by rw [k1]; decide)
    have := (ra520 ok44 kq 0).2
    rw [a0] at this
    exact this
  have nme : qrT lq ≠ 34 := by rw [← hlq] at er ⊢; exact dis_nm (rd_right Pr (by rw [← hlq]; exact er) |>.2.2.1 |> fun z => by rw [← hlq] at z; exact z)
  refine w_aload_n d180_47 rfl ?_
  refine w_callv1 d180_48 (by omega) rfl (ok44.kd ok.kX) (by simp) (Nat.le_of_ble_eq_true rfl) ?_
  refine k_Ho_reply (a := qrA lq (AI h44 (sT S 520 (sT S 1282 (sX S))))) (n2 := qr2 lq) (k := qrK lq) (v := v) (b := b) ok44 (by omega) tg ht35 nme DR BR wq Rg (by rw [CR]; exact hcl) (by omega) I.pln (I.bnd (by omega)) (fun h48 v9 b9 T9 m48 e48_1 e48_2 e48_3 e48_4 e48_5 => ?_)
  have ok48 := m48.ok
  have M48 := Mo.tr ok M44 m48 (fun z q => by rcases q with q | q | q | q | q | q | q; exact Or.inl q; exact Or.inr (Or.inl q); exact Or.inr (Or.inr (Or.inl q)); exact Or.inr (Or.inr (Or.inr (Or.inl q))); exact Or.inr (Or.inr (Or.inr (Or.inr (Or.inl q)))); exact Or.inr (Or.inr (Or.inr (Or.inr (Or.inr (Or.inl q))))); exact Or.inr (Or.inr (Or.inr (Or.inr (Or.inr (Or.inr (Or.inl q)))))))
  refine w_aload_n d180_51 rfl ?_
  refine w_dloadS d180_52 (ok48.kd ok.kX) (fr1281 ok48 ok.kX) ?_
  refine w_callv1 d180_55 (by omega) rfl (ok48.kd (kT1281 ok48 ok.kX)) (by simp) (Nat.le_of_ble_eq_true rfl) ?_
  refine r_Row_size ok48 (kT1281 ok48 ok.kX) ?_
  refine w_ireturn d180_58 ?_
  have AR := ansR_of (VrC.rg DR.2.1) er ht35 An e48_1
  refine kk h48 v9 b9 T9 M48 e48_2 e48_3 ((AR.inv I h7).up (by omega)) ?_ (by rw [e48_4, CR]) (by rw [e48_5, CR]) (Or.inr ⟨fun z => nme z.2, AR⟩)
  rw [m48.rb ok44 kt nrw]; exact TR
