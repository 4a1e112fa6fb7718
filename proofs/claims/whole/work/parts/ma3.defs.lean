/-! the reference: what definitions say -/
def DFi (S : Shp) (h : Hp) (d : Nat) (fs : List (List Nat × List Nat)) : Prop := FI h 1408 d = fs.length ∧ fs.length ≤ 16 ∧ ∀ i, i < fs.length → AI h (sT S 1410 d) i = (fP fs i).length ∧ (fP fs i).length ≤ 12 ∧ SgC S h (sT S 1409 d) (12 * i) (fP fs i) ∧ AI h (sT S 1412 d) i = (fB fs i).length ∧ (fB fs i).length ≤ 160 ∧ SgC S h (sT S 1411 d) (160 * i) (fB fs i)
def DGs (S : Shp) (h : Hp) (d : Nat) (gs : List (List Nat × Nat)) : Prop := FI h 1413 d = gs.length ∧ gs.length ≤ 6 ∧ ∀ i, i < gs.length → AI h (sT S 1415 d) i = (gN gs i).length ∧ (gN gs i).length ≤ 8 ∧ SgC S h (sT S 1414 d) (8 * i) (gN gs i) ∧ AI h (sT S 1416 d) i = (gK gs i : Nat) ∧ gK gs i ≤ 9999
/-- target t is there or not, and says D -/
def DtC (S : Shp) (h : Hp) (d t : Nat) (b : Bool) (D : TgV) : Prop := AI h (sT S 1419 d) t = (tgN D).length ∧ (tgN D).length ≤ 8 ∧ SgC S h (sT S 1418 d) (8 * t) (tgN D) ∧ AI h (sT S 1420 d) t = b2i b ∧ AI h (sT S 1421 d) t = rix (tgR D) ∧ 0 ≤ rix (tgR D) ∧ AI h (sT S 1423 d) t = (tgW D).length ∧ (tgW D).length ≤ 8 ∧ SgC S h (sT S 1422 d) (8 * t) (tgW D) ∧
  AI h (sT S 1424 d) t = (tgI D).length ∧ (tgI D).length ≤ 6 ∧ (∀ k, k < (tgI D).length → AI h (sT S 1425 d) (6 * t + k) = b2i (inB (tgI D) k) ∧ AI h (sT S 1427 d) (6 * t + k) = (inN (tgI D) k).length ∧ (inN (tgI D) k).length ≤ 12 ∧ SgC S h (sT S 1426 d) (12 * (6 * t + k)) (inN (tgI D) k)) ∧
  AI h (sT S 1429 d) t = (tgC D).length ∧ (tgC D).length ≤ 8 ∧ SgC S h (sT S 1428 d) (8 * t) (tgC D) ∧ AI h (sT S 1430 d) t = (tgK D : Nat) ∧ tgK D ≤ 9999
def DTs (S : Shp) (h : Hp) (d : Nat) (ts : List (Bool × TgV)) : Prop := FI h 1417 d = ts.length ∧ ts.length ≤ 14 ∧ ∀ t, t < ts.length → DtC S h d t (tH ts t) (tD ts t)
def DfC (S : Shp) (h : Hp) (d : Nat) (P : PlV) : Prop := DFi S h d P.1 ∧ DGs S h d P.2.1 ∧ DTs S h d P.2.2
section DFRAME
variable {S : Shp} {A : Nat → Prop} {h h' : Hp} {d : Nat}
theorem DFi.u {fs : List (List Nat × List Nat)} (ok : Ok S h) (m : Mo S A h h') (hd : sK S d = 12) (hA : ∀ y, U S d y → ¬ A y) (D : DFi S h d fs) : DFi S h' d fs := by
  have uT : ∀ f, f < 4096 → ¬ A (sT S f d) := fun f hf => hA _ (ok.so.uT hf U_refl)
  have k1 := kT1410 ok hd
  have k2 := kT1412 ok hd
  refine ⟨(m.fi ok (by omega) (hA _ U_refl) _).trans D.1, D.2.1, fun i hi => ?_⟩
  obtain ⟨a1, a2, a3, a4, a5, a6⟩ := D.2.2 i hi
  exact ⟨(congrFun (m.ai ok (by omega) (uT 1410 (by decide))) i).trans a1, a2, a3.mo ok m (uT 1409 (by decide)), (congrFun (m.ai ok (by omega) (uT 1412 (by decide))) i).trans a4, a5, a6.mo ok m (uT 1411 (by decide))⟩
theorem DGs.u {gs : List (List Nat × Nat)} (ok : Ok S h) (m : Mo S A h h') (hd : sK S d = 12) (hA : ∀ y, U S d y → ¬ A y) (D : DGs S h d gs) : DGs S h' d gs := by
  have uT : ∀ f, f < 4096 → ¬ A (sT S f d) := fun f hf => hA _ (ok.so.uT hf U_refl)
  have k1 := kT1415 ok hd
  have k2 := kT1416 ok hd
  refine ⟨(m.fi ok (by omega) (hA _ U_refl) _).trans D.1, D.2.1, fun i hi => ?_⟩
  obtain ⟨a1, a2, a3, a4, a5⟩ := D.2.2 i hi
  exact ⟨(congrFun (m.ai ok (by omega) (uT 1415 (by decide))) i).trans a1, a2, a3.mo ok m (uT 1414 (by decide)), (congrFun (m.ai ok (by omega) (uT 1416 (by decide))) i).trans a4, a5⟩
theorem DtC.u {t : Nat} {b : Bool} {T : TgV} (ok : Ok S h) (m : Mo S A h h') (hd : sK S d = 12) (hA : ∀ y, U S d y → ¬ A y) (D : DtC S h d t b T) : DtC S h' d t b T := by
  have uT : ∀ f, f < 4096 → ¬ A (sT S f d) := fun f hf => hA _ (ok.so.uT hf U_refl)
  have e := fun f (hf : f < 4096) (hk : sK S (sT S f d) ≠ 0 ∧ sK S (sT S f d) ≠ 6) i => congrFun (m.ai ok hk (uT f hf)) i
  obtain ⟨a1, a2, a3, a4, a5, a6, a7, a8, a9, a10, a11, a12, a13, a14, a15, a16, a17⟩ := D
  refine ⟨(e 1419 (by decide) (by have := kT1419 ok hd; omega) t).trans a1, a2, a3.mo ok m (uT 1418 (by decide)), (e 1420 (by decide) (by have := kT1420 ok hd; omega) t).trans a4, (e 1421 (by decide) (by have := kT1421 ok hd; omega) t).trans a5, a6, (e 1423 (by decide) (by have := kT1423 ok hd; omega) t).trans a7, a8, a9.mo ok m (uT 1422 (by decide)), (e 1424 (by decide) (by have := kT1424 ok hd; omega) t).trans a10, a11, fun k hk => ?_, (e 1429 (by decide) (by have := kT1429 ok hd; omega) t).trans a13, a14, a15.mo ok m (uT 1428 (by decide)), (e 1430 (by decide) (by have := kT1430 ok hd; omega) t).trans a16, a17⟩
  obtain ⟨b1, b2, b3, b4⟩ := a12 k hk
  exact ⟨(e 1425 (by decide) (by have := kT1425 ok hd; omega) _).trans b1, (e 1427 (by decide) (by have := kT1427 ok hd; omega) _).trans b2, b3, b4.mo ok m (uT 1426 (by decide))⟩
theorem DTs.u {ts : List (Bool × TgV)} (ok : Ok S h) (m : Mo S A h h') (hd : sK S d = 12) (hA : ∀ y, U S d y → ¬ A y) (D : DTs S h d ts) : DTs S h' d ts := ⟨(m.fi ok (by omega) (hA _ U_refl) _).trans D.1, D.2.1, fun t ht => (D.2.2 t ht).u ok m hd hA⟩
theorem DfC.u {P : PlV} (ok : Ok S h) (m : Mo S A h h') (hd : sK S d = 12) (hA : ∀ y, U S d y → ¬ A y) (D : DfC S h d P) : DfC S h' d P := ⟨D.1.u ok m hd hA, D.2.1.u ok m hd hA, D.2.2.u ok m hd hA⟩
end DFRAME
/-- the target of an input, as the reference finds it -/
def taT (ts : List (Bool × TgV)) (u i : Nat) : Int := if inB (tgI (tD ts u)) i = true then tat ts (inN (tgI (tD ts u)) i) else -1
theorem taT_in {ts : List (Bool × TgV)} {u i : Nat} (hu : tH ts u = true) (h1 : u < ts.length) (h2 : i < (tgI (tD ts u)).length) : taT ts u i = inT ts u i := by
  unfold taT inT
  by_cases q : inB (tgI (tD ts u)) i = true
  · rw [if_pos q, if_pos ⟨h1, h2, hu, q⟩]
  · rw [if_neg q, if_neg (fun z => q z.2.2.2)]
def fiT (fs : List (List Nat × List Nat)) (ts : List (Bool × TgV)) (u i : Nat) : Int := if inB (tgI (tD ts u)) i = true then -1 else fix fs (inN (tgI (tD ts u)) i)
theorem d223_0 : dc 223 0 = some (.iconst 0, 1) := by decide +kernel
theorem d223_1 : dc 223 1 = some (.istore 4, 3) := by decide +kernel
theorem d223_3 : dc 223 3 = some (.iload 4, 5) := by decide +kernel
theorem d223_5 : dc 223 5 = some (.aload_n 0, 6) := by decide +kernel
theorem d223_6 : dc 223 6 = some (.getfield 1417, 9) := by decide +kernel
theorem d223_9 : dc 223 9 = some (.if_icmp .ge ((46 : Nat) : Int), 12) := by decide +kernel
theorem d223_12 : dc 223 12 = some (.aload_n 0, 13) := by decide +kernel
theorem d223_13 : dc 223 13 = some (.dload 1418, 16) := by decide +kernel
theorem d223_16 : dc 223 16 = some (.bipush 8, 18) := by decide +kernel
theorem d223_18 : dc 223 18 = some (.iload 4, 20) := by decide +kernel
theorem d223_20 : dc 223 20 = some (.imul, 21) := by decide +kernel
theorem d223_21 : dc 223 21 = some (.aload_n 0, 22) := by decide +kernel
theorem d223_22 : dc 223 22 = some (.dload 1419, 25) := by decide +kernel
theorem d223_25 : dc 223 25 = some (.iload 4, 27) := by decide +kernel
theorem d223_27 : dc 223 27 = some (.iaload, 28) := by decide +kernel
theorem d223_28 : dc 223 28 = some (.aload_n 1, 29) := by decide +kernel
theorem d223_29 : dc 223 29 = some (.iload_n 2, 30) := by decide +kernel
theorem d223_30 : dc 223 30 = some (.iload_n 3, 31) := by decide +kernel
theorem d223_31 : dc 223 31 = some (.invokevirtual 224, 34) := by decide +kernel
theorem d223_34 : dc 223 34 = some (.ifCond .eq ((40 : Nat) : Int), 37) := by decide +kernel
theorem d223_37 : dc 223 37 = some (.iload 4, 39) := by decide +kernel
theorem d223_39 : dc 223 39 = some (.ireturn, 40) := by decide +kernel
theorem d223_40 : dc 223 40 = some (.iinc 4 1, 43) := by decide +kernel
theorem d223_43 : dc 223 43 = some (.goto ((3 : Nat) : Int), 46) := by decide +kernel
theorem d223_46 : dc 223 46 = some (.iconst (-1), 47) := by decide +kernel
theorem d223_47 : dc 223 47 = some (.ireturn, 48) := by decide +kernel
theorem k_D_number {S : Shp} {G : Nat → Option Nat} {d : Nat} {h : Hp} {Q : Option MV → Hp → Prop} {d0 : Nat} {b : Nat} {f : Nat} {n : Nat} {l : List Nat} {ts : List (Bool × TgV)} (ok : Ok S h) (h1 : 1 ≤ d) (hd0 : sK S d0 = 12) (D0 : DTs S h d0 ts) (hn : n = l.length) (sg : SgC S h b f l)
    (kk : Q (some (vI (tix ts l))) h) : Cl G d 223 [vR (some d0), vR (some b), vI (f : Nat), vI (n : Nat)] h Q := by
  show Wp G d 223 0 [some (vR (some d0)), some (vR (some b)), some (vI (f : Nat)), some (vI (n : Nat)), none] [] h Q
  subst hn
  obtain ⟨d1, d2, d3⟩ := id D0
  refine w_iconst d223_0 (by decide) ?_
  refine w_istore4 d223_1 rfl ?_
  have L3 : ∀ (m3 : Nat) (i : Nat), ts.length - i = m3 → (srF (fun i => tgN (tD ts i) == l) (ts.length) i = tix ts l) → Wp G d 223 3 [some (vR (some d0)), some (vR (some b)), some (vI (f : Nat)), some (vI (l.length : Nat)), some (vI (i : Nat))] [] h Q := by
    intro m3
    induction m3 using Nat.strongRecOn with | ind m3 IH3 => ?_
    intro i hm3 hp
    refine w_iload d223_3 rfl ?_
    refine w_aload_n d223_5 rfl ?_
    refine w_getI (x := ((ts.length : Nat) : Int)) d223_6 (ok.kd hd0) d1 ?_
    refine w_icmpge d223_9 (fun c9 => ?_) (fun c9 => ?_)
    · rw [srF_end (by omega)] at hp
      rw [← hp] at kk
      refine w_iconst d223_46 (by decide) ?_
      refine w_ireturn d223_47 ?_
      exact kk
    · have hi : i < ts.length := by omega
      obtain ⟨a1, a2, a3, a4⟩ := d3 i hi
      refine w_aload_n d223_12 rfl ?_
      refine w_dloadS d223_13 (ok.kd hd0) (fr1418 ok hd0) ?_
      refine w_bipush d223_16 (by decide) ?_
      refine w_iload d223_18 rfl ?_
      refine w_imul d223_20 (by constructor <;> omega) ?_
      rw [show (8 : Int) * ((i : Nat) : Int) = ((8 * i : Nat) : Int) by omega]
      refine w_aload_n d223_21 rfl ?_
      refine w_dloadS d223_22 (ok.kd hd0) (fr1419 ok hd0) ?_
      refine w_iload d223_25 rfl ?_
      refine w_ialoadV (x := ((tgN (tD ts i)).length : Int)) d223_27 (gi1419 ok hd0 (by omega)) a1 ?_
      refine w_aload_n d223_28 rfl ?_
      refine w_iload_n d223_29 rfl ?_
      refine w_iload_n d223_30 rfl ?_
      refine w_calls6 d223_31 (by omega) rfl rfl (by simp) (Nat.le_of_ble_eq_true rfl) ?_
      refine k_D_isSame ok (by omega) rfl rfl a3 sg ?_
      refine w_ifeq d223_34 (fun c34 => ?_) (fun c34 => ?_)
      · have e : (fun i => tgN (tD ts i) == l) i = false := beq_eq_false_iff_ne.mpr (fun z => by rw [decide_eq_true z] at c34; exact absurd c34 (by decide))
        rw [srF_no hi e] at hp
        refine w_iinc4 d223_40 rfl (by constructor <;> omega) ?_
        refine w_goto d223_43 ?_
        rw [show ((i : Nat) : Int) + 1 = ((i + 1 : Nat) : Int) by omega]
        refine w_less ?_ (IH3 _ (by omega) (i + 1) rfl hp)
        exact ⟨Or.inr rfl, Or.inr rfl, Or.inr rfl, Or.inr rfl, Or.inr rfl, trivial⟩
      · have e : (fun i => tgN (tD ts i) == l) i = true := by
          by_cases z : tgN (tD ts i) = l
          · exact beq_iff_eq.mpr z
          · rw [decide_eq_false z] at c34; exact absurd rfl c34
        rw [srF_yes hi e] at hp
        rw [← hp] at kk
        refine w_iload d223_37 rfl ?_
        refine w_ireturn d223_39 ?_
        exact kk
  refine w_less ?_ (L3 _ 0 rfl rfl)
  exact ⟨Or.inr rfl, Or.inr rfl, Or.inr rfl, Or.inr rfl, Or.inr rfl, trivial⟩
theorem d225_0 : dc 225 0 = some (.iconst 0, 1) := by decide +kernel
theorem d225_1 : dc 225 1 = some (.istore 4, 3) := by decide +kernel
theorem d225_3 : dc 225 3 = some (.iload 4, 5) := by decide +kernel
theorem d225_5 : dc 225 5 = some (.aload_n 0, 6) := by decide +kernel
theorem d225_6 : dc 225 6 = some (.getfield 1408, 9) := by decide +kernel
theorem d225_9 : dc 225 9 = some (.if_icmp .ge ((46 : Nat) : Int), 12) := by decide +kernel
theorem d225_12 : dc 225 12 = some (.aload_n 0, 13) := by decide +kernel
theorem d225_13 : dc 225 13 = some (.dload 1409, 16) := by decide +kernel
theorem d225_16 : dc 225 16 = some (.bipush 12, 18) := by decide +kernel
theorem d225_18 : dc 225 18 = some (.iload 4, 20) := by decide +kernel
theorem d225_20 : dc 225 20 = some (.imul, 21) := by decide +kernel
theorem d225_21 : dc 225 21 = some (.aload_n 0, 22) := by decide +kernel
theorem d225_22 : dc 225 22 = some (.dload 1410, 25) := by decide +kernel
theorem d225_25 : dc 225 25 = some (.iload 4, 27) := by decide +kernel
theorem d225_27 : dc 225 27 = some (.iaload, 28) := by decide +kernel
theorem d225_28 : dc 225 28 = some (.aload_n 1, 29) := by decide +kernel
theorem d225_29 : dc 225 29 = some (.iload_n 2, 30) := by decide +kernel
theorem d225_30 : dc 225 30 = some (.iload_n 3, 31) := by decide +kernel
theorem d225_31 : dc 225 31 = some (.invokevirtual 224, 34) := by decide +kernel
theorem d225_34 : dc 225 34 = some (.ifCond .eq ((40 : Nat) : Int), 37) := by decide +kernel
theorem d225_37 : dc 225 37 = some (.iload 4, 39) := by decide +kernel
theorem d225_39 : dc 225 39 = some (.ireturn, 40) := by decide +kernel
theorem d225_40 : dc 225 40 = some (.iinc 4 1, 43) := by decide +kernel
theorem d225_43 : dc 225 43 = some (.goto ((3 : Nat) : Int), 46) := by decide +kernel
theorem d225_46 : dc 225 46 = some (.iconst (-1), 47) := by decide +kernel
theorem d225_47 : dc 225 47 = some (.ireturn, 48) := by decide +kernel
theorem k_D_file {S : Shp} {G : Nat → Option Nat} {d : Nat} {h : Hp} {Q : Option MV → Hp → Prop} {d0 : Nat} {b : Nat} {f : Nat} {n : Nat} {l : List Nat} {fs : List (List Nat × List Nat)} (ok : Ok S h) (h1 : 1 ≤ d) (hd0 : sK S d0 = 12) (D0 : DFi S h d0 fs) (hn : n = l.length) (sg : SgC S h b f l)
    (kk : Q (some (vI (fix fs l))) h) : Cl G d 225 [vR (some d0), vR (some b), vI (f : Nat), vI (n : Nat)] h Q := by
  show Wp G d 225 0 [some (vR (some d0)), some (vR (some b)), some (vI (f : Nat)), some (vI (n : Nat)), none] [] h Q
  subst hn
  obtain ⟨d1, d2, d3⟩ := id D0
  refine w_iconst d225_0 (by decide) ?_
  refine w_istore4 d225_1 rfl ?_
  have L3 : ∀ (m3 : Nat) (i : Nat), fs.length - i = m3 → (srF (fun i => fP fs i == l) (fs.length) i = fix fs l) → Wp G d 225 3 [some (vR (some d0)), some (vR (some b)), some (vI (f : Nat)), some (vI (l.length : Nat)), some (vI (i : Nat))] [] h Q := by
    intro m3
    induction m3 using Nat.strongRecOn with | ind m3 IH3 => ?_
    intro i hm3 hp
    refine w_iload d225_3 rfl ?_
    refine w_aload_n d225_5 rfl ?_
    refine w_getI (x := ((fs.length : Nat) : Int)) d225_6 (ok.kd hd0) d1 ?_
    refine w_icmpge d225_9 (fun c9 => ?_) (fun c9 => ?_)
    · rw [srF_end (by omega)] at hp
      rw [← hp] at kk
      refine w_iconst d225_46 (by decide) ?_
      refine w_ireturn d225_47 ?_
      exact kk
    · have hi : i < fs.length := by omega
      obtain ⟨a1, a2, a3, a4⟩ := d3 i hi
      refine w_aload_n d225_12 rfl ?_
      refine w_dloadS d225_13 (ok.kd hd0) (fr1409 ok hd0) ?_
      refine w_bipush d225_16 (by decide) ?_
      refine w_iload d225_18 rfl ?_
      refine w_imul d225_20 (by constructor <;> omega) ?_
      rw [show (12 : Int) * ((i : Nat) : Int) = ((12 * i : Nat) : Int) by omega]
      refine w_aload_n d225_21 rfl ?_
      refine w_dloadS d225_22 (ok.kd hd0) (fr1410 ok hd0) ?_
      refine w_iload d225_25 rfl ?_
      refine w_ialoadV (x := ((fP fs i).length : Int)) d225_27 (gi1410 ok hd0 (by omega)) a1 ?_
      refine w_aload_n d225_28 rfl ?_
      refine w_iload_n d225_29 rfl ?_
      refine w_iload_n d225_30 rfl ?_
      refine w_calls6 d225_31 (by omega) rfl rfl (by simp) (Nat.le_of_ble_eq_true rfl) ?_
      refine k_D_isSame ok (by omega) rfl rfl a3 sg ?_
      refine w_ifeq d225_34 (fun c34 => ?_) (fun c34 => ?_)
      · have e : (fun i => fP fs i == l) i = false := beq_eq_false_iff_ne.mpr (fun z => by rw [decide_eq_true z] at c34; exact absurd c34 (by decide))
        rw [srF_no hi e] at hp
        refine w_iinc4 d225_40 rfl (by constructor <;> omega) ?_
        refine w_goto d225_43 ?_
        rw [show ((i : Nat) : Int) + 1 = ((i + 1 : Nat) : Int) by omega]
        refine w_less ?_ (IH3 _ (by omega) (i + 1) rfl hp)
        exact ⟨Or.inr rfl, Or.inr rfl, Or.inr rfl, Or.inr rfl, Or.inr rfl, trivial⟩
      · have e : (fun i => fP fs i == l) i = true := by
          by_cases z : fP fs i = l
          · exact beq_iff_eq.mpr z
          · rw [decide_eq_false z] at c34; exact absurd rfl c34
        rw [srF_yes hi e] at hp
        rw [← hp] at kk
        refine w_iload d225_37 rfl ?_
        refine w_ireturn d225_39 ?_
        exact kk
  refine w_less ?_ (L3 _ 0 rfl rfl)
  exact ⟨Or.inr rfl, Or.inr rfl, Or.inr rfl, Or.inr rfl, Or.inr rfl, trivial⟩
theorem d226_0 : dc 226 0 = some (.iconst 0, 1) := by decide +kernel
theorem d226_1 : dc 226 1 = some (.istore 4, 3) := by decide +kernel
theorem d226_3 : dc 226 3 = some (.iload 4, 5) := by decide +kernel
theorem d226_5 : dc 226 5 = some (.aload_n 0, 6) := by decide +kernel
theorem d226_6 : dc 226 6 = some (.getfield 1413, 9) := by decide +kernel
theorem d226_9 : dc 226 9 = some (.if_icmp .ge ((46 : Nat) : Int), 12) := by decide +kernel
theorem d226_12 : dc 226 12 = some (.aload_n 0, 13) := by decide +kernel
theorem d226_13 : dc 226 13 = some (.dload 1414, 16) := by decide +kernel
theorem d226_16 : dc 226 16 = some (.bipush 8, 18) := by decide +kernel
theorem d226_18 : dc 226 18 = some (.iload 4, 20) := by decide +kernel
theorem d226_20 : dc 226 20 = some (.imul, 21) := by decide +kernel
theorem d226_21 : dc 226 21 = some (.aload_n 0, 22) := by decide +kernel
theorem d226_22 : dc 226 22 = some (.dload 1415, 25) := by decide +kernel
theorem d226_25 : dc 226 25 = some (.iload 4, 27) := by decide +kernel
theorem d226_27 : dc 226 27 = some (.iaload, 28) := by decide +kernel
theorem d226_28 : dc 226 28 = some (.aload_n 1, 29) := by decide +kernel
theorem d226_29 : dc 226 29 = some (.iload_n 2, 30) := by decide +kernel
theorem d226_30 : dc 226 30 = some (.iload_n 3, 31) := by decide +kernel
theorem d226_31 : dc 226 31 = some (.invokevirtual 224, 34) := by decide +kernel
theorem d226_34 : dc 226 34 = some (.ifCond .eq ((40 : Nat) : Int), 37) := by decide +kernel
theorem d226_37 : dc 226 37 = some (.iload 4, 39) := by decide +kernel
theorem d226_39 : dc 226 39 = some (.ireturn, 40) := by decide +kernel
theorem d226_40 : dc 226 40 = some (.iinc 4 1, 43) := by decide +kernel
theorem d226_43 : dc 226 43 = some (.goto ((3 : Nat) : Int), 46) := by decide +kernel
theorem d226_46 : dc 226 46 = some (.iconst (-1), 47) := by decide +kernel
theorem d226_47 : dc 226 47 = some (.ireturn, 48) := by decide +kernel
theorem k_D_flagOf {S : Shp} {G : Nat → Option Nat} {d : Nat} {h : Hp} {Q : Option MV → Hp → Prop} {d0 : Nat} {b : Nat} {f : Nat} {n : Nat} {l : List Nat} {gs : List (List Nat × Nat)} (ok : Ok S h) (h1 : 1 ≤ d) (hd0 : sK S d0 = 12) (D0 : DGs S h d0 gs) (hn : n = l.length) (sg : SgC S h b f l)
    (kk : Q (some (vI (gix gs l))) h) : Cl G d 226 [vR (some d0), vR (some b), vI (f : Nat), vI (n : Nat)] h Q := by
  show Wp G d 226 0 [some (vR (some d0)), some (vR (some b)), some (vI (f : Nat)), some (vI (n : Nat)), none] [] h Q
  subst hn
  obtain ⟨d1, d2, d3⟩ := id D0
  refine w_iconst d226_0 (by decide) ?_
  refine w_istore4 d226_1 rfl ?_
  have L3 : ∀ (m3 : Nat) (i : Nat), gs.length - i = m3 → (srF (fun i => gN gs i == l) (gs.length) i = gix gs l) → Wp G d 226 3 [some (vR (some d0)), some (vR (some b)), some (vI (f : Nat)), some (vI (l.length : Nat)), some (vI (i : Nat))] [] h Q := by
    intro m3
    induction m3 using Nat.strongRecOn with | ind m3 IH3 => ?_
    intro i hm3 hp
    refine w_iload d226_3 rfl ?_
    refine w_aload_n d226_5 rfl ?_
    refine w_getI (x := ((gs.length : Nat) : Int)) d226_6 (ok.kd hd0) d1 ?_
    refine w_icmpge d226_9 (fun c9 => ?_) (fun c9 => ?_)
    · rw [srF_end (by omega)] at hp
      rw [← hp] at kk
      refine w_iconst d226_46 (by decide) ?_
      refine w_ireturn d226_47 ?_
      exact kk
    · have hi : i < gs.length := by omega
      obtain ⟨a1, a2, a3, a4⟩ := d3 i hi
      refine w_aload_n d226_12 rfl ?_
      refine w_dloadS d226_13 (ok.kd hd0) (fr1414 ok hd0) ?_
      refine w_bipush d226_16 (by decide) ?_
      refine w_iload d226_18 rfl ?_
      refine w_imul d226_20 (by constructor <;> omega) ?_
      rw [show (8 : Int) * ((i : Nat) : Int) = ((8 * i : Nat) : Int) by omega]
      refine w_aload_n d226_21 rfl ?_
      refine w_dloadS d226_22 (ok.kd hd0) (fr1415 ok hd0) ?_
      refine w_iload d226_25 rfl ?_
      refine w_ialoadV (x := ((gN gs i).length : Int)) d226_27 (gi1415 ok hd0 (by omega)) a1 ?_
      refine w_aload_n d226_28 rfl ?_
      refine w_iload_n d226_29 rfl ?_
      refine w_iload_n d226_30 rfl ?_
      refine w_calls6 d226_31 (by omega) rfl rfl (by simp) (Nat.le_of_ble_eq_true rfl) ?_
      refine k_D_isSame ok (by omega) rfl rfl a3 sg ?_
      refine w_ifeq d226_34 (fun c34 => ?_) (fun c34 => ?_)
      · have e : (fun i => gN gs i == l) i = false := beq_eq_false_iff_ne.mpr (fun z => by rw [decide_eq_true z] at c34; exact absurd c34 (by decide))
        rw [srF_no hi e] at hp
        refine w_iinc4 d226_40 rfl (by constructor <;> omega) ?_
        refine w_goto d226_43 ?_
        rw [show ((i : Nat) : Int) + 1 = ((i + 1 : Nat) : Int) by omega]
        refine w_less ?_ (IH3 _ (by omega) (i + 1) rfl hp)
        exact ⟨Or.inr rfl, Or.inr rfl, Or.inr rfl, Or.inr rfl, Or.inr rfl, trivial⟩
      · have e : (fun i => gN gs i == l) i = true := by
          by_cases z : gN gs i = l
          · exact beq_iff_eq.mpr z
          · rw [decide_eq_false z] at c34; exact absurd rfl c34
        rw [srF_yes hi e] at hp
        rw [← hp] at kk
        refine w_iload d226_37 rfl ?_
        refine w_ireturn d226_39 ?_
        exact kk
  refine w_less ?_ (L3 _ 0 rfl rfl)
  exact ⟨Or.inr rfl, Or.inr rfl, Or.inr rfl, Or.inr rfl, Or.inr rfl, trivial⟩
theorem d231_0 : dc 231 0 = some (.bipush 6, 2) := by decide +kernel
theorem d231_2 : dc 231 2 = some (.iload_n 1, 3) := by decide +kernel
theorem d231_3 : dc 231 3 = some (.imul, 4) := by decide +kernel
theorem d231_4 : dc 231 4 = some (.iload_n 2, 5) := by decide +kernel
theorem d231_5 : dc 231 5 = some (.iadd, 6) := by decide +kernel
theorem d231_6 : dc 231 6 = some (.istore_n 3, 7) := by decide +kernel
theorem d231_7 : dc 231 7 = some (.aload_n 0, 8) := by decide +kernel
theorem d231_8 : dc 231 8 = some (.dload 1425, 11) := by decide +kernel
theorem d231_11 : dc 231 11 = some (.iload_n 3, 12) := by decide +kernel
theorem d231_12 : dc 231 12 = some (.baload, 13) := by decide +kernel
theorem d231_13 : dc 231 13 = some (.ifCond .eq ((37 : Nat) : Int), 16) := by decide +kernel
theorem d231_16 : dc 231 16 = some (.aload_n 0, 17) := by decide +kernel
theorem d231_17 : dc 231 17 = some (.aload_n 0, 18) := by decide +kernel
theorem d231_18 : dc 231 18 = some (.dload 1426, 21) := by decide +kernel
theorem d231_21 : dc 231 21 = some (.bipush 12, 23) := by decide +kernel
theorem d231_23 : dc 231 23 = some (.iload_n 3, 24) := by decide +kernel
theorem d231_24 : dc 231 24 = some (.imul, 25) := by decide +kernel
theorem d231_25 : dc 231 25 = some (.aload_n 0, 26) := by decide +kernel
theorem d231_26 : dc 231 26 = some (.dload 1427, 29) := by decide +kernel
theorem d231_29 : dc 231 29 = some (.iload_n 3, 30) := by decide +kernel
theorem d231_30 : dc 231 30 = some (.iaload, 31) := by decide +kernel
theorem d231_31 : dc 231 31 = some (.invokevirtual 223, 34) := by decide +kernel
theorem d231_34 : dc 231 34 = some (.goto ((38 : Nat) : Int), 37) := by decide +kernel
theorem d231_37 : dc 231 37 = some (.iconst (-1), 38) := by decide +kernel
theorem d231_38 : dc 231 38 = some (.istore 4, 40) := by decide +kernel
theorem d231_40 : dc 231 40 = some (.iload 4, 42) := by decide +kernel
theorem d231_42 : dc 231 42 = some (.ifCond .lt ((60 : Nat) : Int), 45) := by decide +kernel
theorem d231_45 : dc 231 45 = some (.aload_n 0, 46) := by decide +kernel
theorem d231_46 : dc 231 46 = some (.dload 1420, 49) := by decide +kernel
theorem d231_49 : dc 231 49 = some (.iload 4, 51) := by decide +kernel
theorem d231_51 : dc 231 51 = some (.baload, 52) := by decide +kernel
theorem d231_52 : dc 231 52 = some (.ifCond .eq ((60 : Nat) : Int), 55) := by decide +kernel
theorem d231_55 : dc 231 55 = some (.iload 4, 57) := by decide +kernel
theorem d231_57 : dc 231 57 = some (.goto ((61 : Nat) : Int), 60) := by decide +kernel
theorem d231_60 : dc 231 60 = some (.iconst (-1), 61) := by decide +kernel
theorem d231_61 : dc 231 61 = some (.ireturn, 62) := by decide +kernel
theorem k_D_targetAt {S : Shp} {G : Nat → Option Nat} {d : Nat} {h : Hp} {Q : Option MV → Hp → Prop} {d0 : Nat} {t : Nat} {k : Nat} {ts : List (Bool × TgV)} (ok : Ok S h) (h1 : 2 ≤ d) (hd0 : sK S d0 = 12) (DT : DTs S h d0 ts) (ht : t < ts.length) (hk : k < (tgI (tD ts t)).length)
    (kk : Q (some (vI (taT ts t k))) h) : Cl G d 231 [vR (some d0), vI (t : Nat), vI (k : Nat)] h Q := by
  show Wp G d 231 0 [some (vR (some d0)), some (vI (t : Nat)), some (vI (k : Nat)), none, none] [] h Q
  obtain ⟨d1, d2, d3⟩ := id DT
  obtain ⟨a1, a2, a3, a4, a5, a6, a7, a8, a9, a10, a11, a12, a13, a14, a15, a16, a17⟩ := d3 t ht
  obtain ⟨b1, b2, b3, b4⟩ := a12 k hk
  refine w_bipush d231_0 (by decide) ?_
  refine w_iload_n d231_2 rfl ?_
  refine w_imul d231_3 (by constructor <;> omega) ?_
  rw [show (6 : Int) * ((t : Nat) : Int) = ((6 * t : Nat) : Int) by omega]
  refine w_iload_n d231_4 rfl ?_
  refine w_iadd d231_5 (by constructor <;> omega) ?_
  rw [show ((6 * t : Nat) : Int) + ((k : Nat) : Int) = ((6 * t + k : Nat) : Int) by omega]
  refine w_istore3 d231_6 rfl ?_
  refine w_aload_n d231_7 rfl ?_
  refine w_dloadS d231_8 (ok.kd hd0) (fr1425 ok hd0) ?_
  refine w_iload_n d231_11 rfl ?_
  refine w_baloadV (x := (b2i (inB (tgI (tD ts t)) k))) d231_12 (gi1425 ok hd0 (by omega)) b1 ?_
  refine w_ifeq d231_13 (fun c13 => ?_) (fun c13 => ?_)
  · have q : ¬ inB (tgI (tD ts t)) k = true := fun z => by rw [z] at c13; exact absurd c13 (by decide)
    have e : taT ts t k = -1 := if_neg q
    rw [e] at kk
    refine w_iconst d231_37 (by decide) ?_
    refine w_istore4 d231_38 rfl ?_
    refine w_iload d231_40 rfl ?_
    refine w_iflt d231_42 (fun c42 => ?_) (fun c42 => ?_)
    · refine w_iconst d231_60 (by decide) ?_
      refine w_ireturn d231_61 ?_
      exact kk
    · omega
  · have q : inB (tgI (tD ts t)) k = true := by
      rcases Bool.eq_false_or_eq_true (inB (tgI (tD ts t)) k) with z | z
      · exact z
      · rw [z] at c13; exact absurd rfl c13
    have e : taT ts t k = tat ts (inN (tgI (tD ts t)) k) := if_pos q
    rw [e] at kk
    unfold tat ifH at kk
    refine w_aload_n d231_16 rfl ?_
    refine w_aload_n d231_17 rfl ?_
    refine w_dloadS d231_18 (ok.kd hd0) (fr1426 ok hd0) ?_
    refine w_bipush d231_21 (by decide) ?_
    refine w_iload_n d231_23 rfl ?_
    refine w_imul d231_24 (by constructor <;> omega) ?_
    rw [show (12 : Int) * (((6 * t + k) : Nat) : Int) = ((12 * (6 * t + k) : Nat) : Int) by omega]
    refine w_aload_n d231_25 rfl ?_
    refine w_dloadS d231_26 (ok.kd hd0) (fr1427 ok hd0) ?_
    refine w_iload_n d231_29 rfl ?_
    refine w_ialoadV (x := ((inN (tgI (tD ts t)) k).length : Int)) d231_30 (gi1427 ok hd0 (by omega)) b2 ?_
    refine w_callv4 d231_31 (by omega) rfl (ok.kd hd0) (by simp) (Nat.le_of_ble_eq_true rfl) ?_
    refine k_D_number ok (by omega) hd0 DT rfl b4 ?_
    refine w_goto d231_34 ?_
    refine w_istore4 d231_38 rfl ?_
    refine w_iload d231_40 rfl ?_
    refine w_iflt d231_42 (fun c42 => ?_) (fun c42 => ?_)
    · rw [if_neg (by omega)] at kk
      refine w_iconst d231_60 (by decide) ?_
      refine w_ireturn d231_61 ?_
      exact kk
    · have tr := tix_rg ts (inN (tgI (tD ts t)) k)
      obtain ⟨u, hu⟩ : ∃ u : Nat, tix ts (inN (tgI (tD ts t)) k) = (u : Int) := ⟨(tix ts (inN (tgI (tD ts t)) k)).toNat, by omega⟩
      have hul : u < ts.length := by omega
      rw [hu] at kk ⊢
      rw [show ((u : Nat) : Int).toNat = u by omega] at kk
      refine w_aload_n d231_45 rfl ?_
      refine w_dloadS d231_46 (ok.kd hd0) (fr1420 ok hd0) ?_
      refine w_iload d231_49 rfl ?_
      refine w_baloadV (x := (b2i (tH ts u))) d231_51 (gi1420 ok hd0 (by omega)) ((d3 u hul).2.2.2.1) ?_
      refine w_ifeq d231_52 (fun c52 => ?_) (fun c52 => ?_)
      · rw [if_neg (fun z => by rw [z.2] at c52; exact absurd c52 (by decide))] at kk
        refine w_iconst d231_60 (by decide) ?_
        refine w_ireturn d231_61 ?_
        exact kk
      · have q2 : tH ts u = true := by
          rcases Bool.eq_false_or_eq_true (tH ts u) with z | z
          · exact z
          · rw [z] at c52; exact absurd rfl c52
        rw [if_pos ⟨by omega, q2⟩] at kk
        refine w_iload d231_55 rfl ?_
        refine w_goto d231_57 ?_
        refine w_ireturn d231_61 ?_
        exact kk
theorem d251_0 : dc 251 0 = some (.bipush 6, 2) := by decide +kernel
theorem d251_2 : dc 251 2 = some (.iload_n 1, 3) := by decide +kernel
theorem d251_3 : dc 251 3 = some (.imul, 4) := by decide +kernel
theorem d251_4 : dc 251 4 = some (.iload_n 2, 5) := by decide +kernel
theorem d251_5 : dc 251 5 = some (.iadd, 6) := by decide +kernel
theorem d251_6 : dc 251 6 = some (.istore_n 3, 7) := by decide +kernel
theorem d251_7 : dc 251 7 = some (.aload_n 0, 8) := by decide +kernel
theorem d251_8 : dc 251 8 = some (.dload 1425, 11) := by decide +kernel
theorem d251_11 : dc 251 11 = some (.iload_n 3, 12) := by decide +kernel
theorem d251_12 : dc 251 12 = some (.baload, 13) := by decide +kernel
theorem d251_13 : dc 251 13 = some (.ifCond .eq ((20 : Nat) : Int), 16) := by decide +kernel
theorem d251_16 : dc 251 16 = some (.iconst (-1), 17) := by decide +kernel
theorem d251_17 : dc 251 17 = some (.goto ((38 : Nat) : Int), 20) := by decide +kernel
theorem d251_20 : dc 251 20 = some (.aload_n 0, 21) := by decide +kernel
theorem d251_21 : dc 251 21 = some (.aload_n 0, 22) := by decide +kernel
theorem d251_22 : dc 251 22 = some (.dload 1426, 25) := by decide +kernel
theorem d251_25 : dc 251 25 = some (.bipush 12, 27) := by decide +kernel
theorem d251_27 : dc 251 27 = some (.iload_n 3, 28) := by decide +kernel
theorem d251_28 : dc 251 28 = some (.imul, 29) := by decide +kernel
theorem d251_29 : dc 251 29 = some (.aload_n 0, 30) := by decide +kernel
theorem d251_30 : dc 251 30 = some (.dload 1427, 33) := by decide +kernel
theorem d251_33 : dc 251 33 = some (.iload_n 3, 34) := by decide +kernel
theorem d251_34 : dc 251 34 = some (.iaload, 35) := by decide +kernel
theorem d251_35 : dc 251 35 = some (.invokevirtual 225, 38) := by decide +kernel
theorem d251_38 : dc 251 38 = some (.ireturn, 39) := by decide +kernel
theorem k_D_fileAt {S : Shp} {G : Nat → Option Nat} {d : Nat} {h : Hp} {Q : Option MV → Hp → Prop} {d0 : Nat} {t : Nat} {k : Nat} {fs : List (List Nat × List Nat)} {ts : List (Bool × TgV)} (ok : Ok S h) (h1 : 2 ≤ d) (hd0 : sK S d0 = 12) (DF : DFi S h d0 fs) (DT : DTs S h d0 ts) (ht : t < ts.length) (hk : k < (tgI (tD ts t)).length)
    (kk : Q (some (vI (fiT fs ts t k))) h) : Cl G d 251 [vR (some d0), vI (t : Nat), vI (k : Nat)] h Q := by
  show Wp G d 251 0 [some (vR (some d0)), some (vI (t : Nat)), some (vI (k : Nat)), none] [] h Q
  obtain ⟨d1, d2, d3⟩ := id DT
  obtain ⟨a1, a2, a3, a4, a5, a6, a7, a8, a9, a10, a11, a12, a13, a14, a15, a16, a17⟩ := d3 t ht
  obtain ⟨b1, b2, b3, b4⟩ := a12 k hk
  refine w_bipush d251_0 (by decide) ?_
  refine w_iload_n d251_2 rfl ?_
  refine w_imul d251_3 (by constructor <;> omega) ?_
  rw [show (6 : Int) * ((t : Nat) : Int) = ((6 * t : Nat) : Int) by omega]
  refine w_iload_n d251_4 rfl ?_
  refine w_iadd d251_5 (by constructor <;> omega) ?_
  rw [show ((6 * t : Nat) : Int) + ((k : Nat) : Int) = ((6 * t + k : Nat) : Int) by omega]
  refine w_istore3 d251_6 rfl ?_
  refine w_aload_n d251_7 rfl ?_
  refine w_dloadS d251_8 (ok.kd hd0) (fr1425 ok hd0) ?_
  refine w_iload_n d251_11 rfl ?_
  refine w_baloadV (x := (b2i (inB (tgI (tD ts t)) k))) d251_12 (gi1425 ok hd0 (by omega)) b1 ?_
  refine w_ifeq d251_13 (fun c13 => ?_) (fun c13 => ?_)
  · have q : ¬ inB (tgI (tD ts t)) k = true := fun z => by rw [z] at c13; exact absurd c13 (by decide)
    have e : fiT fs ts t k = fix fs (inN (tgI (tD ts t)) k) := if_neg q
    rw [e] at kk
    refine w_aload_n d251_20 rfl ?_
    refine w_aload_n d251_21 rfl ?_
    refine w_dloadS d251_22 (ok.kd hd0) (fr1426 ok hd0) ?_
    refine w_bipush d251_25 (by decide) ?_
    refine w_iload_n d251_27 rfl ?_
    refine w_imul d251_28 (by constructor <;> omega) ?_
    rw [show (12 : Int) * (((6 * t + k) : Nat) : Int) = ((12 * (6 * t + k) : Nat) : Int) by omega]
    refine w_aload_n d251_29 rfl ?_
    refine w_dloadS d251_30 (ok.kd hd0) (fr1427 ok hd0) ?_
    refine w_iload_n d251_33 rfl ?_
    refine w_ialoadV (x := ((inN (tgI (tD ts t)) k).length : Int)) d251_34 (gi1427 ok hd0 (by omega)) b2 ?_
    refine w_callv4 d251_35 (by omega) rfl (ok.kd hd0) (by simp) (Nat.le_of_ble_eq_true rfl) ?_
    refine k_D_file ok (by omega) hd0 DF rfl b4 ?_
    refine w_ireturn d251_38 ?_
    exact kk
  · have q : inB (tgI (tD ts t)) k = true := by
      rcases Bool.eq_false_or_eq_true (inB (tgI (tD ts t)) k) with z | z
      · exact z
      · rw [z] at c13; exact absurd rfl c13
    have e : fiT fs ts t k = -1 := if_pos q
    rw [e] at kk
    refine w_iconst d251_16 (by decide) ?_
    refine w_goto d251_17 ?_
    refine w_ireturn d251_38 ?_
    exact kk
