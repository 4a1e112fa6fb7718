/-! what the class does leaves the reference's objects as they are -/
section QT
variable {S : Shp} {h h' : Hp} {A : Nat → Prop} {m : Nat}
theorem q_fi (ok : Ok S h) (mo : Mo S A h h') (hm : sK S m = 14) (hA : ∀ y, U S m y → ¬ A y) (f : Nat) (hf : f ≠ 641 := by decide) : FI h' f m = FI h f m := mo.fi ok (by omega) (hA _ U_refl) f hf
theorem q_ai (ok : Ok S h) (mo : Mo S A h h') (hm : sK S m = 14) (hA : ∀ y, U S m y → ¬ A y) (f : Nat) (hf : (fk f = 40 ∨ fk f = 42) ∧ kFld f = 14 ∧ f < 4096 := by decide) : AI h' (sT S f m) = AI h (sT S f m) := by
  have k := (ok.so.2.2.1 f m (by omega) (by omega)).1
  exact mo.ai ok (by omega) (hA _ (ok.so.uT hf.2.2 U_refl))
theorem q_al (ok : Ok S h) (mo : Mo S A h h') (hm : sK S m = 14) (hA : ∀ y, U S m y → ¬ A y) (f : Nat) (hf : fk f = 44 ∧ kFld f = 14 ∧ f < 4096 := by decide) : AL h' (sT S f m) = AL h (sT S f m) := by
  have k := (ok.so.2.2.1 f m (by omega) (by omega)).1
  exact mo.al ok (by omega) (hA _ (ok.so.uT hf.2.2 U_refl))
theorem q_ar (ok : Ok S h) (mo : Mo S A h h') (hm : sK S m = 14) (hA : ∀ y, U S m y → ¬ A y) (f : Nat) (hf : fk f = 62 ∧ kFld f = 14 ∧ f < 4096 := by decide) : AR h' (sT S f m) = AR h (sT S f m) := by
  have k := (ok.so.2.2.1 f m (by omega) (by omega)).1
  exact mo.ar ok (by omega) (hA _ (ok.so.uT hf.2.2 U_refl))
theorem ArI.q {f n : Nat} {g : Nat → Int} (ok : Ok S h) (mo : Mo S A h h') (hm : sK S m = 14) (hA : ∀ y, U S m y → ¬ A y) (D : ArI S h m f g n) (hf : (fk f = 40 ∨ fk f = 42) ∧ kFld f = 14 ∧ f < 4096 := by decide) : ArI S h' m f g n := fun i hi => by
  rw [q_ai ok mo hm hA f hf]; exact D i hi
theorem NeR.q {n : Nat} (ok : Ok S h) (mo : Mo S A h h') (hm : sK S m = 14) (hA : ∀ y, U S m y → ¬ A y) (D : NeR h m n) : NeR h' m n := ⟨(q_fi ok mo hm hA 1705).trans D.1, D.2⟩
theorem RnR.q {l : List Nat} (ok : Ok S h) (mo : Mo S A h h') (hm : sK S m = 14) (hA : ∀ y, U S m y → ¬ A y) (D : RnR S h m l) : RnR S h' m l := by
  unfold RnR
  rw [q_fi ok mo hm hA 1709, q_ai ok mo hm hA 1708]
  exact D
theorem EdR.q {re : Nat → Bool} {ed : Nat → Nat → Nat} (ok : Ok S h) (mo : Mo S A h h') (hm : sK S m = 14) (hA : ∀ y, U S m y → ¬ A y) (D : EdR S h m re ed) : EdR S h' m re ed := by
  unfold EdR
  rw [q_ai ok mo hm hA 1674, q_ai ok mo hm hA 1676]
  exact D
theorem WkR.q {wk : Nat → OmV} (ok : Ok S h) (mo : Mo S A h h') (hm : sK S m = 14) (hA : ∀ y, U S m y → ¬ A y) (D : WkR S h m wk) : WkR S h' m wk := fun w hw => (D w hw).u ok mo (kE1716 ok hm hw) (fun y u => hA y (U_trans (ok.so.uE (by omega) (ok.so.uT (by decide) U_refl)) u))
theorem WpR.q {kf : Nat → Int64} {pf : Nat → List Int64} (ok : Ok S h) (mo : Mo S A h h') (hm : sK S m = 14) (hA : ∀ y, U S m y → ¬ A y) (D : WpR S h m kf pf) : WpR S h' m kf pf := by
  unfold WpR
  rw [q_al ok mo hm hA 1717, q_al ok mo hm hA 1718, q_ai ok mo hm hA 1719]
  exact D
theorem OmA.q {f : Nat} {bu : Nat → OmV} (ok : Ok S h) (mo : Mo S A h h') (hm : sK S m = 14) (hA : ∀ y, U S m y → ¬ A y) (D : OmA S h m f bu) (h1 : f = 1667 ∨ f = 1675 ∨ f = 1668 ∨ f = 1669 := by decide) : OmA S h' m f bu := fun j hj => (D j hj).u ok mo (otA ok hm h1 hj).2.2.1 (fun y u => hA y (U_trans (ok.so.uE (by omega) (ok.so.uT (by omega) U_refl)) u))
theorem KpR.q {ks : List (Int64 × OmV)} (ok : Ok S h) (mo : Mo S A h h') (hm : sK S m = 14) (hA : ∀ y, U S m y → ¬ A y) (D : KpR S h m ks) : KpR S h' m ks := by
  obtain ⟨d1, d2, σ, d3, d4, d5⟩ := D
  refine ⟨(q_fi ok mo hm hA 1701).trans d1, d2, σ, fun i hi => ⟨(d3 i hi).1, by rw [q_ar ok mo hm hA 1703]; exact (d3 i hi).2⟩, d4, fun i hi => ⟨by rw [q_al ok mo hm hA 1702]; exact (d5 i hi).1, ?_⟩⟩
  have s := (d3 i (by omega)).1
  exact (d5 i hi).2.u ok mo (kE1703 ok hm s) (fun y u => hA y (U_trans (ok.so.uE (by omega) (ok.so.uT (by decide) U_refl)) u))
theorem LpR.q {lf : Nat → List Int64} (ok : Ok S h) (mo : Mo S A h h') (hm : sK S m = 14) (hA : ∀ y, U S m y → ¬ A y) (D : LpR S h m lf) : LpR S h' m lf := by
  unfold LpR
  rw [q_al ok mo hm hA 1670, q_ai ok mo hm hA 1671]
  exact D
theorem ReR.q {ra : Nat → Nat} (ok : Ok S h) (mo : Mo S A h h') (hm : sK S m = 14) (hA : ∀ y, U S m y → ¬ A y) (D : ReR S h m ra) : ReR S h' m ra := by
  unfold ReR
  rw [q_ai ok mo hm hA 1672, q_ai ok mo hm hA 1673]
  exact D
theorem CtR.q {C : Nat → Nat} (ok : Ok S h) (mo : Mo S A h h') (hm : sK S m = 14) (hA : ∀ y, U S m y → ¬ A y) (D : CtR S h m C) : CtR S h' m C := ⟨(q_fi ok mo hm hA 1710).trans D.1, (q_fi ok mo hm hA 1711).trans D.2.1, (q_fi ok mo hm hA 1712).trans D.2.2⟩
theorem PuR.q {pb : Nat → Bool} (ok : Ok S h) (mo : Mo S A h h') (hm : sK S m = 14) (hA : ∀ y, U S m y → ¬ A y) (D : PuR S h m pb) : PuR S h' m pb := by
  unfold PuR
  rw [q_ai ok mo hm hA 1666]
  exact D
theorem RsR.q {rs : List RuV} (ok : Ok S h) (mo : Mo S A h h') (hm : sK S m = 14) (hA : ∀ y, U S m y → ¬ A y) (D : RsR S h m rs) : RsR S h' m rs := by
  unfold RsR
  rw [q_fi ok mo hm hA 1720, q_ai ok mo hm hA 1721, q_ai ok mo hm hA 1722, q_ai ok mo hm hA 1723, q_ai ok mo hm hA 1724, q_ai ok mo hm hA 1725]
  exact D
theorem SeR.q {s : GoV} (ok : Ok S h) (mo : Mo S A h h') (hm : sK S m = 14) (hA : ∀ y, U S m y → ¬ A y) (D : SeR S h m s) : SeR S h' m s := by
  obtain ⟨wk, bu, bp, kf, pf, lf, ks, pb, WK, WP, BU, KP, LP, RE, CT, PT, PU, I⟩ := D
  exact ⟨wk, bu, bp, kf, pf, lf, ks, pb, WK.q ok mo hm hA, WP.q ok mo hm hA, OmA.q (f := 1668) ok mo hm hA BU, KP.q ok mo hm hA, LP.q ok mo hm hA, RE.q ok mo hm hA, CT.q ok mo hm hA, PT.q ok mo hm hA, PU.q ok mo hm hA, I⟩
theorem DfC.q {f : Nat} {P : PlV} (ok : Ok S h) (mo : Mo S A h h') (hm : sK S m = 14) (hA : ∀ y, U S m y → ¬ A y) (D : DfC S h (sT S f m) P) (hf : f = 1664 ∨ f = 1665 := by decide) : DfC S h' (sT S f m) P := by
  have k : sK S (sT S f m) = 12 := by
    rcases hf with e | e <;> subst e
    · exact kT1664 ok hm
    · exact kT1665 ok hm
  exact D.u ok mo k (fun y u => hA y (U_trans (ok.so.uT (by omega) U_refl) u))
theorem GoR.q {P : PlV} {nn : Nat} {s : GoV} (ok : Ok S h) (mo : Mo S A h h') (hm : sK S m = 14) (hA : ∀ y, U S m y → ¬ A y) (D : GoR S h m P nn s) : GoR S h' m P nn s := by
  obtain ⟨L, Y, wk, bu, bp, kf, pf, lf, ks, pb, TF, ST, HA, NE, LF_, HW, WK, WP, BU, KP, LP, RE, RN, CT, PT, PU, I⟩ := D
  exact ⟨L, Y, wk, bu, bp, kf, pf, lf, ks, pb, TF.q ok mo hm hA, ST.q ok mo hm hA, HA.q ok mo hm hA, NE.q ok mo hm hA, LF_.q ok mo hm hA, HW.q ok mo hm hA, WK.q ok mo hm hA, WP.q ok mo hm hA, OmA.q (f := 1668) ok mo hm hA BU, KP.q ok mo hm hA, LP.q ok mo hm hA, RE.q ok mo hm hA, RN.q ok mo hm hA, CT.q ok mo hm hA, PT.q ok mo hm hA, PU.q ok mo hm hA, I⟩
theorem SxR.q {z : SeP} (ok : Ok S h) (mo : Mo S A h h') (hm : sK S m = 14) (hA : ∀ y, U S m y → ¬ A y) (D : SxR S h m z) : SxR S h' m z := by
  obtain ⟨nn, br, TF, SE, ST, HA, NE, nb, RN, GN, SP, ED, RL, rb, GR⟩ := D
  exact ⟨nn, br, TF.q ok mo hm hA, SE.q ok mo hm hA, ST.q ok mo hm hA, HA.q ok mo hm hA, NE.q ok mo hm hA, nb, RN.q ok mo hm hA, (q_fi ok mo hm hA 1704).trans GN, (q_fi ok mo hm hA 1706).trans SP, ED.q ok mo hm hA, RL.q ok mo hm hA, rb, fun o => (GR o).q ok mo hm hA⟩
theorem MoR.q {w : HoS} {b : BkV} {tp la : List Nat} (ok : Ok S h) (mo : Mo S A h h') (hm : sK S m = 14) (hA : ∀ y, U S m y → ¬ A y) (D : MoR S h m w b tp la) : MoR S h' m w b tp la := by
  obtain ⟨NF, RS, SX, BO, TP, TE, ⟨f, e, NM, ne⟩, ⟨l, RQ⟩, bu, FO⟩ := D
  refine ⟨NF.q ok mo hm hA, RS.q ok mo hm hA, SX.q ok mo hm hA, ⟨BO.1.q ok mo hm hA, (q_fi ok mo hm hA 1735).trans BO.2.1, (q_fi ok mo hm hA 1737).trans BO.2.2.1, (q_fi ok mo hm hA 1736).trans BO.2.2.2⟩, ⟨(q_fi ok mo hm hA 1729).trans TP.1, TP.2.1, TP.2.2.q ok mo hm hA⟩, ⟨(q_fi ok mo hm hA 1733).trans TE.1, TE.2.1, fun i hi => ?_⟩, ⟨f, e, ⟨(q_fi ok mo hm hA 1742).trans NM.1, (q_fi ok mo hm hA 1743).trans NM.2⟩, ne⟩, ⟨l, (q_fi ok mo hm hA 1731).trans RQ.1, RQ.2.1, RQ.2.2.mo ok mo (hA _ (ok.so.uT (by decide) U_refl))⟩, bu, OmA.q (f := 1669) ok mo hm hA FO⟩
  rw [q_ai ok mo hm hA 1732]
  exact TE.2.2 i hi
/-- the two trees are apart -/
theorem U_XM (so : SOk S) {f y : Nat} (hf : f < 4096) (u : U S (sT S f (sX S)) y) : ¬ U S (sM S) y := fun z => by
  rcases U_tree (S := S) (U_trans (so.uT hf U_refl : U S (sX S) (sT S f (sX S))) u) z with q | q
  · exact so.2.2.2.2.1.2.2.1 (so.U_M.mp q)
  · exact so.2.2.2.2.1.2.2.1 (so.U_X.mp q).symm
end QT
