/-! versions: values judged -/
theorem p_cpIv {S : Shp} {G : Nat → Option Nat} {h : Hp} {d k pc pc' a b f g n : Nat} {ls : List (Option MV)} {st : List MV} {Q : Option MV → Hp → Prop} (hd : dc k pc = some (.invokestatic 0, pc')) (ok : Ok S h) (ha : sK S a = kFld f) (hb : sK S b = kFld g) (hf : fk f = fk g ∧ (fk g = 40 ∨ fk g = 42)) (hl : n ≤ fl f ∧ n ≤ fl g ∧ fl f ≠ 0 ∧ fl g ≠ 0) (hr : ∀ i, i < n → alo g ≤ AI h (sT S f a) i ∧ AI h (sT S f a) i ≤ ahi g) (hne : sT S f a ≠ sT S g b) (hst : st.length ≤ 4) (h1 : 1 ≤ d)
    (kk : ∀ h', h' = cpI h (sT S f a) 0 (sT S g b) 0 n → Mo S (fun y => y = sT S g b) h h' → Wp G d k pc' ls st h' Q) : Wp G d k pc ls (vI (n : Nat) :: vI 0 :: vR (some (sT S g b)) :: vI 0 :: vR (some (sT S f a)) :: st) h Q := by
  have f0 : fk f ≠ 0 := by omega
  have g0 : fk g ≠ 0 := by omega
  have fl1 := fk_lt f0
  have gl1 := fk_lt g0
  have ka := (ok.so.2.2.1 f a f0 ha).1
  have kb := (ok.so.2.2.1 g b g0 hb).1
  have la := g_lT ok ha f0 rfl hl.2.2.1
  have lb := g_lT ok hb g0 rfl hl.2.2.2
  have Ka := ok.kd ka f0
  have Kb := ok.kd kb g0
  refine w_arraycopy hd ⟨⟨⟨hne, by omega, by omega⟩, hst, h1⟩, by omega, by omega, by omega, by omega, by omega⟩ ?_
  rw [if_neg (by omega)]
  show Wp G d k pc' ls st (cpI h (sT S f a) 0 (sT S g b) 0 n) Q
  refine kk _ rfl ?_
  have k0 : sK S (sT S g b) ≠ 0 := by omega
  have ai : ∀ y i, AI (cpI h (sT S f a) 0 (sT S g b) 0 n) y i = if y = sT S g b ∧ 0 ≤ i ∧ i < 0 + n then AI h (sT S f a) (0 + (i - 0)) else AI h y i := fun _ _ => rfl
  have m : Md (fun y => y = sT S g b) h (cpI h (sT S f a) 0 (sT S g b) 0 n) := Md.of1 ok.ro (ok.nz k0) (by omega) (ok.notown k0) rfl rfl rfl rfl (fun y hy => ⟨fun q => ⟨rfl, rfl, rfl⟩, by funext i; rw [ai, if_neg (fun q => hy q.1)], rfl, rfl⟩) (fun q => by omega)
  obtain ⟨so, ro, ⟨s1, s2, s3, s4, s5, s6, s7, s8, s9, s10, s11⟩, fo⟩ := ok
  refine ⟨m, so, m.ok, ⟨s1, s2, s3, s4, s5, s6, s7, fun f' b' i hf' hb' => ?_, fun b' t i hb' ht => ?_, s10, s11⟩, Fgn.of1 so fo k0 rfl rfl (fun y hy => ⟨fun q => ⟨rfl, rfl⟩, by funext i; rw [ai, if_neg (fun q => hy q.1)], rfl⟩)⟩
  · rw [ai]
    split
    · rename_i q
      obtain ⟨e1, e2⟩ := (so.inj (by have := fk_lt (f := f') (by omega); omega) (by omega)).mp q.1
      subst e1
      exact hr (0 + (i - 0)) (by omega)
    · exact s8 f' b' i hf' hb'
  · rw [ai, if_neg (fun q => so.neE (by omega) (by omega) q.1.symm)]
    exact s9 b' t i hb' ht
theorem brk_cg {rs : List RuV} {vl vl' : Nat → Int} {k : Nat} (hr : k < rs.length → rOf rs k ≤ 4 ∧ rPa rs k ≤ 4) (hv : ∀ i, i < 5 → vl i = vl' i) : brk rs vl k = brk rs vl' k := by
  by_cases q : k < rs.length
  · have z := hr q
    unfold brk
    rw [hv (rPa rs k) (by omega)]
    by_cases q1 : rOf rs k < 0
    · simp [q1]
    · rw [hv (rOf rs k).toNat (by omega)]
  · unfold brk
    simp [q]
theorem lwb_cg {rs : List RuV} {vl vl' : Nat → Int} (hr : ∀ k, k < rs.length → rOf rs k ≤ 4 ∧ rPa rs k ≤ 4) (hv : ∀ i, i < 5 → vl i = vl' i) : lwb rs vl = lwb rs vl' := srF_congr (fun k _ => brk_cg (hr k) hv)
theorem VrC.rg {S : Shp} {h : Hp} {v : Nat} {rs : List RuV} (D : VrC S h v rs) : ∀ k, k < rs.length → rOf rs k ≤ 4 ∧ rPa rs k ≤ 4 := fun k hk => by
  obtain ⟨-, -, -, -, -, z1, -, z2, -⟩ := D.2.2 k hk
  omega
theorem d163_0 : dc 163 0 = some (.iload_n 2, 1) := by decide +kernel
theorem d163_1 : dc 163 1 = some (.iconst 5, 2) := by decide +kernel
theorem d163_2 : dc 163 2 = some (.if_icmp .eq ((12 : Nat) : Int), 5) := by decide +kernel
theorem d163_5 : dc 163 5 = some (.aload_n 3, 6) := by decide +kernel
theorem d163_6 : dc 163 6 = some (.getstatic 71, 8) := by decide +kernel
theorem d163_8 : dc 163 8 = some (.invokevirtual 84, 11) := by decide +kernel
theorem d163_11 : dc 163 11 = some (.return_, 12) := by decide +kernel
theorem d163_12 : dc 163 12 = some (.aload_n 1, 13) := by decide +kernel
theorem d163_13 : dc 163 13 = some (.iconst 0, 14) := by decide +kernel
theorem d163_14 : dc 163 14 = some (.aload_n 0, 15) := by decide +kernel
theorem d163_15 : dc 163 15 = some (.dload 1030, 18) := by decide +kernel
theorem d163_18 : dc 163 18 = some (.iconst 0, 19) := by decide +kernel
theorem d163_19 : dc 163 19 = some (.iconst 5, 20) := by decide +kernel
theorem d163_20 : dc 163 20 = some (.invokestatic 0, 23) := by decide +kernel
theorem d163_23 : dc 163 23 = some (.aload_n 0, 24) := by decide +kernel
theorem d163_24 : dc 163 24 = some (.invokevirtual 161, 27) := by decide +kernel
theorem d163_27 : dc 163 27 = some (.istore 4, 29) := by decide +kernel
theorem d163_29 : dc 163 29 = some (.iload 4, 31) := by decide +kernel
theorem d163_31 : dc 163 31 = some (.ifCond .ge ((43 : Nat) : Int), 34) := by decide +kernel
theorem d163_34 : dc 163 34 = some (.aload_n 3, 35) := by decide +kernel
theorem d163_35 : dc 163 35 = some (.getstatic 72, 37) := by decide +kernel
theorem d163_37 : dc 163 37 = some (.invokevirtual 84, 40) := by decide +kernel
theorem d163_40 : dc 163 40 = some (.goto ((55 : Nat) : Int), 43) := by decide +kernel
theorem d163_43 : dc 163 43 = some (.aload_n 3, 44) := by decide +kernel
theorem d163_44 : dc 163 44 = some (.getstatic 73, 46) := by decide +kernel
theorem d163_46 : dc 163 46 = some (.invokevirtual 84, 49) := by decide +kernel
theorem d163_49 : dc 163 49 = some (.aload_n 3, 50) := by decide +kernel
theorem d163_50 : dc 163 50 = some (.iload 4, 52) := by decide +kernel
theorem d163_52 : dc 163 52 = some (.invokevirtual 124, 55) := by decide +kernel
theorem d163_55 : dc 163 55 = some (.return_, 56) := by decide +kernel
theorem k_Vr_tellMeets {S : Shp} {G : Nat → Option Nat} {d : Nat} {h : Hp} {Q : Option MV → Hp → Prop} {v : Nat} {n : Nat} {r : Nat} {q : Nat} (ok : Ok S h) (h1 : 5 ≤ d) (hv : sK S v = 9) (hr : sK S r = 6) (tg : Tg S G) (hq : sK S q = 5) {rs : List RuV} (vc : VrC S h v rs) (hm : n = 5 → ∀ i, i < 5 → -1 ≤ AI h (sT S 520 q) i ∧ AI h (sT S 520 q) i ≤ 3) (hvr : ¬ U S v r)
    (kk : ∀ h', Mo S (fun x => x = sT S 1030 v ∨ x = r) h h' → rl h' r = addBs (cap h r) (rl h r) (if n ≠ 5 then txt 21 else (if lwb rs (AI h (sT S 520 q)) < 0 then txt 22 else txt 23 ++ dec (lwb rs (AI h (sT S 520 q))).toNat)) → cap h' r = cap h r → VrC S h' v rs → Q none h') : Cl G d 163 [vR (some v), vR (some (sT S 520 q)), vI (n : Nat), vR (some r)] h Q := by
  show Wp G d 163 0 [some (vR (some v)), some (vR (some (sT S 520 q))), some (vI (n : Nat)), some (vR (some r)), none] [] h Q
  have q2 := vc.2.1
  have nv : v ≠ r := fun z => hvr (z ▸ U_refl)
  have nT : ∀ f, f < 4096 → sT S f v ≠ r := fun f hf z => hvr (z ▸ ok.so.uT hf U_refl)
  have nvv : v ≠ sT S 1030 v := fun z => ok.so.pT (by decide) z.symm
  have nTT : ∀ f, 1025 ≤ f → f ≤ 1029 → sT S f v ≠ sT S 1030 v := fun f h1 h2 z => absurd ((ok.so.inj (by omega) (by decide)).mp z).1 (by omega)
  refine w_iload_n d163_0 rfl ?_
  refine w_iconst d163_1 (by decide) ?_
  refine w_icmpeq d163_2 (fun c2 => ?_) (fun c2 => ?_)
  · have n5 : n = 5 := by omega
    refine w_aload_n d163_12 rfl ?_
    refine w_iconst d163_13 (by decide) ?_
    refine w_aload_n d163_14 rfl ?_
    refine w_dloadS d163_15 (ok.kd hv) (fr1030 ok hv) ?_
    refine w_iconst d163_18 (by decide) ?_
    refine w_iconst d163_19 (by decide) ?_
    refine p_cpIv (f := 520) (g := 1030) (n := 5) d163_20 ok hq hv ⟨rfl, by decide⟩ ⟨by decide, by decide, by decide, by decide⟩ (fun i hi => hm n5 i hi) (fun w => absurd ((ok.so.inj (by decide) (by decide)).mp w).1 (by decide)) (by simp) (by omega) (fun h20 e20 m20 => ?_)
    have ok20 := m20.ok
    have M20 := Mo.tr ok (Mo.refl (A := (fun x => x = (sT S 1030 v) ∨ x = r)) ok) m20 (fun x e => (Or.inl e))
    refine w_aload_n d163_23 rfl ?_
    have vc20 : VrC S h20 v rs := vc.fr ok m20 hv (Or.inl nvv) nTT
    have lw : lwb rs (AI h20 (sT S 1030 v)) = lwb rs (AI h (sT S 520 q)) := lwb_cg vc.rg (fun i hi => by
      rw [e20]
      show (if sT S 1030 v = sT S 1030 v ∧ 0 ≤ i ∧ i < 0 + 5 then AI h (sT S 520 q) (0 + (i - 0)) else AI h (sT S 1030 v) i) = _
      rw [if_pos ⟨rfl, by omega, by omega⟩]
      congr 1; omega)
    have lr := lwb_rg rs (AI h (sT S 520 q))
    refine w_callv1 d163_24 (by omega) rfl (ok20.kd hv) (by simp) (Nat.le_of_ble_eq_true rfl) ?_
    refine k_Vr_lowestBroken ok20 (by omega) hv vc20 ?_
    rw [lw]
    refine w_istore4 d163_27 rfl ?_
    refine w_iload d163_29 rfl ?_
    refine w_ifge d163_31 (fun c31 => ?_) (fun c31 => ?_)
    · refine w_aload_n d163_43 rfl ?_
      obtain ⟨g44, v44, s44⟩ := tg.tx ok20 23 (by decide)
      refine w_getstaticS d163_44 v44 ?_
      refine w_callv2 d163_46 (by omega) rfl (ok20.kd hr) (by simp) (Nat.le_of_ble_eq_true rfl) ?_
      refine r_Row_addText (by omega) ok20 hr s44 (fun h46 m46 e46_1 e46_2 => ?_)
      have ok46 := m46.ok
      have M46 := Mo.tr ok M20 m46 (fun x e => (Or.inr e))
      refine w_aload_n d163_49 rfl ?_
      refine w_iload d163_50 rfl ?_
      rw [show lwb rs (AI h (sT S 520 q)) = (((lwb rs (AI h (sT S 520 q))).toNat : Nat) : Int) by omega]
      refine w_callv2 d163_52 (by omega) rfl (ok46.kd hr) (by simp) (Nat.le_of_ble_eq_true rfl) ?_
      refine r_Row_addNumber (by omega) ok46 hr (by omega) (fun h52 m52 e52_1 e52_2 => ?_)
      have ok52 := m52.ok
      have M52 := Mo.tr ok M46 m52 (fun x e => (Or.inr e))
      refine w_return d163_55 ?_
      have n5 : ¬ n ≠ 5 := by omega
      have vv := vc.fr ok M52 hv (Or.inl (by simp [nv, nvv])) (fun f h1 h2 => by simp [nT f (by omega), nTT f h1 h2])
      have rb0 : rl h20 r = rl h r := m20.rb ok hr (nT 1030 (by decide)).symm
      have cp0 : cap h20 r = cap h r := (m20.cp ok hr).2 (nT 1030 (by decide)).symm
      rw [if_neg n5] at kk
      first | (rw [if_pos c31] at kk; exact kk _ M52 (by rw [e37_1, rb0, cp0]) (by rw [e37_2, cp0]) vv) | (rw [if_neg (by omega)] at kk; exact kk _ M52 (by rw [e52_1, e46_1, e46_2, addBs3, rb0, cp0]) (by rw [e52_2, e46_2, cp0]) vv)
    · refine w_aload_n d163_34 rfl ?_
      obtain ⟨g35, v35, s35⟩ := tg.tx ok20 22 (by decide)
      refine w_getstaticS d163_35 v35 ?_
      refine w_callv2 d163_37 (by omega) rfl (ok20.kd hr) (by simp) (Nat.le_of_ble_eq_true rfl) ?_
      refine r_Row_addText (by omega) ok20 hr s35 (fun h37 m37 e37_1 e37_2 => ?_)
      have ok37 := m37.ok
      have M37 := Mo.tr ok M20 m37 (fun x e => (Or.inr e))
      refine w_goto d163_40 ?_
      refine w_return d163_55 ?_
      have n5 : ¬ n ≠ 5 := by omega
      have vv := vc.fr ok M37 hv (Or.inl (by simp [nv, nvv])) (fun f h1 h2 => by simp [nT f (by omega), nTT f h1 h2])
      have rb0 : rl h20 r = rl h r := m20.rb ok hr (nT 1030 (by decide)).symm
      have cp0 : cap h20 r = cap h r := (m20.cp ok hr).2 (nT 1030 (by decide)).symm
      rw [if_neg n5] at kk
      first | (rw [if_pos c31] at kk; exact kk _ M37 (by rw [e37_1, rb0, cp0]) (by rw [e37_2, cp0]) vv) | (rw [if_neg (by omega)] at kk; exact kk _ M37 (by rw [e52_1, e46_1, e46_2, addBs3, rb0, cp0]) (by rw [e52_2, e46_2, cp0]) vv)
  · refine w_aload_n d163_5 rfl ?_
    obtain ⟨g6, v6, s6⟩ := tg.tx ok 21 (by decide)
    refine w_getstaticS d163_6 v6 ?_
    refine w_callv2 d163_8 (by omega) rfl (ok.kd hr) (by simp) (Nat.le_of_ble_eq_true rfl) ?_
    refine r_Row_addText (by omega) ok hr s6 (fun h8 m8 e8_1 e8_2 => ?_)
    have ok8 := m8.ok
    have M8 := Mo.tr ok (Mo.refl (A := (fun x => x = (sT S 1030 v) ∨ x = r)) ok) m8 (fun x e => (Or.inr e))
    refine w_return d163_11 ?_
    exact kk _ M8 (by rw [e8_1, if_pos (by omega)]) e8_2 (vc.fr ok M8 hv (Or.inl (by simp [nv, nvv])) (fun f h1 h2 => by simp [nT f (by omega), nTT f h1 h2]))
