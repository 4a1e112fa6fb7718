/-! the reference: a worker takes, a worker ends, in the words of the class -/
/-- the model's session and the class's -/
def GoR (S : Shp) (h : Hp) (m : Nat) (P : PlV) (nn : Nat) (s : GoV) : Prop := ∃ (L Y : Nat → Int) (wk bu bp : Nat → OmV) (kf : Nat → Int64) (pf lf : Nat → List Int64) (ks : List (Int64 × OmV)) (pb : Nat → Bool), DfC S h (sT S 1665 m) P ∧ ArI S h m 1707 (fun t => ((rE (goR s) t : Nat) : Int)) 14 ∧ ArI S h m 1713 (rH (goR s)) 2 ∧ NeR h m nn ∧ ArI S h m 1714 L 2 ∧ ArI S h m 1715 Y 2 ∧ WkR S h m wk ∧ WpR S h m kf pf ∧ OmS S h (sT S 1668 m) bu ∧ KpR S h m ks ∧ LpR S h m lf ∧ ReR S h m s.2.2.1 ∧ RnR S h m (rR (goR s)) ∧ CtR S h m (rC (goR s)) ∧ OmA S h m 1667 bp ∧ PuR S h m pb ∧ GoI P s L Y wk bu bp kf pf lf ks pb
theorem GoR.r {S : Shp} {h h' : Hp} {m nn : Nat} {P : PlV} {s : GoV} {F : List Nat} (D : GoR S h m P nn s) (fr : Fr S m F h h') (hm : sK S m = 14) (h1 : (∀ f ∈ [1665, 1707, 1713, 1705, 1714, 1715, 1716, 1717, 1718, 1719, 1668, 1701, 1702, 1703, 1670, 1671, 1672, 1673, 1708, 1709, 1710, 1711, 1712, 1667, 1666], f ∉ F) ∧ ltF4 F := by decide) : GoR S h' m P nn s := by
  obtain ⟨L, Y, wk, bu, bp, kf, pf, lf, ks, pb, TF, ST, HA, NE, LF_, HW, WK, WP, BU, KP, LP, RE, RN, CT, PT, PU, I⟩ := D
  have k : ∀ f, f ∈ [1665, 1707, 1713, 1705, 1714, 1715, 1716, 1717, 1718, 1719, 1668, 1701, 1702, 1703, 1670, 1671, 1672, 1673, 1708, 1709, 1710, 1711, 1712, 1667, 1666] → f ∉ F := h1.1
  have q := h1.2
  exact ⟨L, Y, wk, bu, bp, kf, pf, lf, ks, pb, DfC.r (f := 1665) fr hm ⟨Or.inr rfl, k _ (by decide), q⟩ TF, ST.r fr hm ⟨k _ (by decide), q, by decide⟩, HA.r fr hm ⟨k _ (by decide), q, by decide⟩, NE.r fr hm (k _ (by decide)), LF_.r fr hm ⟨k _ (by decide), q, by decide⟩, HW.r fr hm ⟨k _ (by decide), q, by decide⟩, WK.r fr hm ⟨k _ (by decide), q⟩, WP.r fr hm ⟨k _ (by decide), k _ (by decide), k _ (by decide), q⟩, OmS.r (f := 1668) fr hm (Or.inl rfl) ⟨k _ (by decide), q⟩ BU, KP.r fr hm ⟨k _ (by decide), k _ (by decide), k _ (by decide), q⟩, LP.r fr hm ⟨k _ (by decide), k _ (by decide), q⟩, RE.r fr hm ⟨k _ (by decide), k _ (by decide), q⟩, RN.r fr hm ⟨k _ (by decide), k _ (by decide), q⟩, CT.r fr hm ⟨k _ (by decide), k _ (by decide), k _ (by decide)⟩, PT.r fr hm ⟨by decide, k _ (by decide), q⟩, PU.r fr hm ⟨k _ (by decide), q⟩, I⟩
theorem chs_t {ts : List (Bool × TgV)} {nd E : Nat → Nat} {H : Nat → Int} {t : Nat} (e : chs ts nd E H = (t : Int)) : nd t = 1 ∧ E t = 0 ∧ H 0 ≠ t ∧ H 1 ≠ t ∧ rdyB ts E t = true := by
  have g := srF_rg (p := mayB ts nd E H) (n := ts.length) (i := 0)
  change chs ts nd E H = -1 ∨ ∃ j, 0 ≤ j ∧ j < ts.length ∧ chs ts nd E H = (j : Int) ∧ _ at g
  rcases g with g | ⟨j, -, -, j3, j4⟩
  · omega
  · have ej : j = t := by omega
    rw [ej] at j4
    exact of_decide_eq_true j4
theorem six_of {S : Shp} {h : Hp} {b : Nat} {P : PlV} (D : DfC S h b P) : six P := ⟨D.2.2.2.1, fun t ht => by
  have d3 := D.2.2.2.2 t ht
  obtain ⟨a1, a2, a3, a4, a5, a6, a7, a8, a9, a10, a11, a12⟩ := d3
  exact a11⟩
theorem RsI.lt {P : PlV} {r : RunV} {t : Nat} (D : RsI P r) (s6 : six P) (ht : t < P.2.2.length) (he : rE r t = 0) (h0 : rH r 0 ≠ t) (h1 : rH r 1 ≠ t) : t ∉ rR r ∧ (rR r).length < 14 := by
  have n : t ∉ rR r := fun z => by
    rcases (D.1 t z).2 with y | y | y
    · exact y he
    · exact h0 y
    · exact h1 y
  refine ⟨n, ?_⟩
  have l := nodup_len (t :: rR r) (List.range P.2.2.length) (List.nodup_cons.mpr ⟨n, D.2⟩) (fun x hx => by
    rcases List.mem_cons.mp hx with z | z
    · rw [z]; exact List.mem_range.mpr ht
    · exact List.mem_range.mpr (D.1 x z).1)
  rw [List.length_cons, List.length_range] at l
  have := s6.1
  omega
theorem k_M_takeG {S : Shp} {G : Nat → Option Nat} {d : Nat} {h : Hp} {Q : Option MV → Hp → Prop} {m w nn : Nat} {P : PlV} {nd : Nat → Nat} {s : GoV} (ok : Ok S h) (h1 : 15 ≤ d) (hm : sK S m = 14) (GR : GoR S h m P nn s) (tg : Tg S G) (hw : w < 2) (hN : ∀ u, u < P.2.2.length → (bt nn u ↔ nd u = 1)) (hH : ∀ u, u < P.2.2.length → nd u = 1 → tH P.2.2 u = true) (hO : ∀ t, t < P.2.2.length → okN (tgW (tD P.2.2 t)) ∧ ∃ r : Nat, rix (tgR (tD P.2.2 t)) = (r : Int)) (hn : rH (goR s) w < 0) (kk : ∀ h', Fr S m [1713, 1714, 1715, 1716, 1717, 1718, 1719, 1678, 1679, 1680, 1672, 1673, 1708, 1709, 1683, 1685, 1686, 1687, 1688, 1698, 1699, 1700, 1689, 1690, 1691, 1692, 1693, 1694, 1695, 1696, 1697, 1681, 1682, 1684, 1677] h h' → GoR S h' m P nn (tn1 P nd w s) → Q none h') : Cl G d 247 [vR (some m), vI (w : Nat)] h Q := by
  obtain ⟨pu, pp, ra, kc, r⟩ := s
  obtain ⟨L, Y, wk, bu, bp, kf, pf, lf, ks, pb, TF, ST, HA, NE, LF_, HW, WK, WP, BU, KP, LP, RE, RN, CT, PT, PU, I⟩ := GR
  have s6 := six_of TF
  have hn' : rH r w < 0 := hn
  have Iks : kc = ksO ks := I.2.2.2.2.1
  have ePT : PtI pu pp bp lf pb := I.2.2.1
  have eEn : EnI pu r bu := I.2.2.2.1
  have eRs : RsI P r := I.2.2.2.2.2
  have T1 : ∀ t : Nat, chs P.2.2 nd (rE r) (rH r) = (t : Int) → tn1 P nd w (pu, pp, ra, kc, r) = tkG P w t (pu, pp, ra, kc, r) := fun t e => by
    unfold tn1
    have ec : cho P nd r = (t : Int) := e
    show (if rH r w < 0 ∧ 0 ≤ cho P nd r then tkG P w (cho P nd r).toNat (pu, pp, ra, kc, r) else _) = _
    rw [if_pos ⟨hn', by omega⟩, ec, Int.toNat_natCast]
  have pos : ∀ t, 0 < (tkP P pu t).length := fun t => by unfold tkP; rw [ptL_len]; omega
  refine k_M_take (pu := pu) (pp := pp) ok h1 hm TF ST HA NE LF_ HW WK WP BU KP LP RE RN tg hw hN hH (fun t ht e ha => ?_) hO (fun z => ?_) (fun t t14 e => ?_) (fun t t14 e => ?_) (fun z => ?_) (fun t h' e ht fr na HA' LF' HW' WK' WP' RN' RE' => ?_) (fun t h' e ht fr ta hk HA' LF' HW' WK' WP' RN' RE' => ?_) (fun t h' x e ht fr ta hk HA' LF' HW' hx WK' WP' RN' RE' => ?_)
  · have c := chs_t e
    exact tkI_cg s6 ha ht (hH t ht c.1) c.2.2.2.2 (fun u hu eu => (eEn.1 u (by have := s6.1; omega)).2.1 eu)
  · change 0 ≤ chs P.2.2 nd (rE r) (rH r) at z
    obtain ⟨t, e⟩ : ∃ t : Nat, chs P.2.2 nd (rE r) (rH r) = (t : Int) := ⟨(chs P.2.2 nd (rE r) (rH r)).toNat, by omega⟩
    have c := chs_t e
    have := (chs_rg P.2.2 nd (rE r) (rH r)).2
    exact (eRs.lt s6 (t := t) (by omega) c.2.1 c.2.2.1 c.2.2.2.1).2
  · have k := ePT t t14
    have b := k.2.1 (k.1 ▸ e)
    exact ⟨b.2.1, b.2.1 ▸ b.2.2⟩
  · have k := ePT t t14
    exact k.2.2 (k.1 ▸ e)
  · have e : tn1 P nd w (pu, pp, ra, kc, r) = (pu, pp, ra, kc, r) := by
      unfold tn1
      have z' : cho P nd r < 0 := z
      show (if rH r w < 0 ∧ 0 ≤ cho P nd r then tkG P w (cho P nd r).toNat (pu, pp, ra, kc, r) else _) = _
      rw [if_neg (by omega)]
    refine kk h (Fr.refl ok) ?_
    rw [e]
    exact ⟨L, Y, wk, bu, bp, kf, pf, lf, ks, pb, TF, ST, HA, NE, LF_, HW, WK, WP, BU, KP, LP, RE, RN, CT, PT, PU, I⟩
  · have c := chs_t e
    have eT : tn1 P nd w (pu, pp, ra, kc, r) = (pu, pp, ra, kc, tk1 r w t ((false, [], [], tkA P t), [], 0) 2 1) := by
      rw [T1 t e]
      unfold tkG tkE tkR
      show (pu, pp, (if tkA P t ≠ [] then ra else _), kc, (if tkA P t ≠ [] then _ else _)) = _
      rw [if_pos na, if_pos na]
      rfl
    refine kk h' fr ?_
    rw [eT]
    have I2 := I.tk1 (ra' := ra) (b := ((false, [], [], tkA P t), [], 0)) (y := 2) (sv := 1) (x := ([], [], tkA P t)) (kf' := kf) (pf' := pf) hw hn' ht (hH t ht c.1) c.2.1 c.2.2.1 c.2.2.2.1 c.2.2.2.2 (by decide) (fun _ _ => ⟨rfl, rfl⟩) (fun z => absurd rfl z) (fun z => absurd z (by decide)) (fun _ => rfl) (by rw [if_neg (by decide)]; unfold oV; rw [decide_eq_false na])
    exact ⟨_, _, _, bu, bp, kf, pf, lf, ks, pb, DfC.r (f := 1665) fr hm (by decide) TF, ST.r fr hm, HA', NE.r fr hm, LF', HW', WK', WP', OmS.r (f := 1668) fr hm (Or.inl rfl) (by decide) BU, KP.r fr hm, LP.r fr hm, RE', RN', CT.r fr hm, PT.r fr hm, PU.r fr hm, I2⟩
  · have c := chs_t e
    have kfe : kfd kc (tkK P pu t) = kfM ks (tkK P pu t) := by rw [Iks, kfd_O]
    have kfp : 0 ≤ kfd kc (tkK P pu t) := by rw [kfe]; exact hk
    have nta : ¬ (tkA P t ≠ []) := fun z => z ta
    have eT : tn1 P nd w (pu, pp, ra, kc, r) = (pu, pp, ra, kc, tk1 r w t (kO kc (kfd kc (tkK P pu t)).toNat, tkP P pu t, tkK P pu t) 1 1) := by
      rw [T1 t e]
      unfold tkG tkE tkR
      show (pu, pp, (if tkA P t ≠ [] then ra else if 0 ≤ kfd kc (tkK P pu t) then ra else _), kc, (if tkA P t ≠ [] then _ else if 0 ≤ kfd kc (tkK P pu t) then _ else _)) = _
      rw [if_neg nta, if_neg nta, if_pos kfp, if_pos kfp]
      rfl
    refine kk h' fr ?_
    rw [eT]
    have kl := kfM_rg ks (tkK P pu t)
    have I2 := I.tk1 (ra' := ra) (b := (kO kc (kfd kc (tkK P pu t)).toNat, tkP P pu t, tkK P pu t)) (y := 1) (sv := 1) (x := oM ks (kfM ks (tkK P pu t)).toNat) (kf' := upO kf w (tkK P pu t)) (pf' := upO pf w (tkP P pu t)) hw hn' ht (hH t ht c.1) c.2.1 c.2.2.1 c.2.2.2.1 c.2.2.2.2 (by decide) (fun _ q => ⟨upO_ne q, upO_ne q⟩) (fun z => ⟨upO_at, upO_at, by rw [upO_at]; exact pos t⟩) (fun z => absurd z (by decide)) (fun z => absurd z (by decide)) (by rw [if_neg (by decide), kfe, Iks, (kK_O (by omega)).2])
    exact ⟨_, _, _, bu, bp, _, _, lf, ks, pb, DfC.r (f := 1665) fr hm (by decide) TF, ST.r fr hm, HA', NE.r fr hm, LF', HW', WK', WP', OmS.r (f := 1668) fr hm (Or.inl rfl) (by decide) BU, KP.r fr hm, LP.r fr hm, RE', RN', CT.r fr hm, PT.r fr hm, PU.r fr hm, I2⟩
  · have c := chs_t e
    have rl := eRs.lt s6 ht c.2.1 c.2.2.1 c.2.2.2.1
    have kfe : ¬ 0 ≤ kfd kc (tkK P pu t) := by rw [Iks, kfd_O]; exact hk
    have nta : ¬ (tkA P t ≠ []) := fun z => z ta
    have eT : tn1 P nd w (pu, pp, ra, kc, r) = (pu, pp, upN ra t (rsnW (pu t).1 (tkP P pu t) (pp t)), kc, rsR (tk1 r w t ((false, [], [], []), tkP P pu t, tkK P pu t) 0 (tkS P pu t : Nat)) (rR r ++ [t])) := by
      rw [T1 t e]
      unfold tkG tkE tkR
      show (pu, pp, (if tkA P t ≠ [] then ra else if 0 ≤ kfd kc (tkK P pu t) then ra else upN ra t (rsnW (pu t).1 (tkP P pu t) (pp t))), kc, (if tkA P t ≠ [] then _ else if 0 ≤ kfd kc (tkK P pu t) then _ else if (rR r).length < 14 then _ else _)) = _
      rw [if_neg nta, if_neg nta, if_neg kfe, if_neg kfe, if_pos rl.2]
      rfl
    refine kk h' fr ?_
    rw [eT]
    have I2 := I.tk1 (ra' := ra) (b := ((false, [], [], []), tkP P pu t, tkK P pu t)) (y := 0) (sv := (tkS P pu t : Nat)) (x := x) (kf' := upO kf w (tkK P pu t)) (pf' := upO pf w (tkP P pu t)) hw hn' ht (hH t ht c.1) c.2.1 c.2.2.1 c.2.2.2.1 c.2.2.2.2 (by decide) (fun _ q => ⟨upO_ne q, upO_ne q⟩) (fun z => ⟨upO_at, upO_at, by rw [upO_at]; exact pos t⟩) (fun _ => ta) (fun z => absurd z (by decide)) (by rw [if_pos rfl]; exact hx)
    have I3 := I2.run (ra' := upN ra t (rsnW (pu t).1 (tkP P pu t) (pp t))) (t := t) ht (by
      show up (rH r) w t 0 = t ∨ up (rH r) w t 1 = t
      have a : w = 0 ∨ w = 1 := by omega
      rcases a with rfl | rfl
      · exact Or.inl up_at
      · exact Or.inr up_at) rl.1
    exact ⟨_, _, _, bu, bp, _, _, lf, ks, pb, DfC.r (f := 1665) fr hm (by decide) TF, ST.r fr hm, HA', NE.r fr hm, LF', HW', WK', WP', OmS.r (f := 1668) fr hm (Or.inl rfl) (by decide) BU, KP.r fr hm, LP.r fr hm, RE', RN', CT.r fr hm, PT.r fr hm, PU.r fr hm, I3⟩
theorem wrG_eq {P : PlV} {pu : Nat → OutV} {pp : Nat → List Int64} {ra : Nat → Nat} {kc : List (Int64 × OutV)} {r : RunV} {w t : Nat} : ∃ r2, wrG P w t (pu, pp, ra, kc, r) = (pu, pp, ra, kc, r2) ∧ rE r2 = rE r ∧ rH r2 = rH r ∧ rL r2 = rL r ∧ rW r2 = rW r ∧ rR r2 = rR r ∧ rC r2 = rC r := by
  unfold wrG
  by_cases q : rW r w = 0
  · exact ⟨wrR P pu r w t, if_pos q, rfl, rfl, rfl, rfl, rfl, rfl⟩
  · exact ⟨r, if_neg q, rfl, rfl, rfl, rfl, rfl, rfl⟩
theorem k_M_finishG {S : Shp} {G : Nat → Option Nat} {d : Nat} {h : Hp} {Q : Option MV → Hp → Prop} {m w t nn : Nat} {P : PlV} {s : GoV} (ok : Ok S h) (h1 : 3 ≤ d) (hm : sK S m = 14) (GR : GoR S h m P nn s) (hw : w < 2) (hT : rH (goR s) w = (t : Int)) (hC : ∀ j, rC (goR s) j + 1 ≤ 2147483647) (kk : ∀ h', Fr S m [1713, 1710, 1711, 1712, 1701, 1702, 1703, 1668, 1707, 1667, 1666, 1671, 1670] h h' → GoR S h' m P nn (fnG 24 w t (wrG P w t s)) → Q none h') : Cl G d 290 [vR (some m), vI (w : Nat)] h Q := by
  obtain ⟨pu, pp, ra, kc, r⟩ := s
  obtain ⟨L, Y, wk, bu, bp, kf, pf, lf, ks, pb, TF, ST, HA, NE, LF_, HW, WK, WP, BU, KP, LP, RE, RN, CT, PT, PU, I⟩ := GR
  have s6 := six_of TF
  obtain ⟨r2, e2, eE, eH, eL, eW, eR, eC⟩ := @wrG_eq P pu pp ra kc r w t
  have hT' : rH r w = (t : Int) := hT
  obtain ⟨t', e', g⟩ := I.1 w hw (by show 0 ≤ rH r w; omega)
  have et : t' = t := by
    change rH r w = _ at e'
    omega
  subst et
  unfold HdI at g
  obtain ⟨g1, g2, g3, g4, g5, g6, g7, g8, g9, g10, g11⟩ := g
  obtain ⟨J, hv⟩ := I.wr hw hT'
  rw [e2] at J hv
  change (rB r2 w).1 = oV (wk w) at hv
  have hT2 : rH r2 w = (t' : Int) := by rw [eH]; exact hT'
  refine k_M_finish (t := t') (z := rW r w) ok h1 hm HA ST HW WK WP BU KP LP CT PT PU hw hT (by have := s6.1; omega) g6 g7 (hC _) (fun h' fr HA' CT' KP' BU' ST' ne PT' PU' LP' => ?_) (fun h' fr HA' CT' KP' BU' ST' ne PT' PU' LP' => ?_)
  · obtain ⟨J2, f, y, eF⟩ := J.ill s6 hw hT2 hv ne
    refine kk h' fr ?_
    rw [e2]
    rw [eW] at J2
    have c1 : rE (fnR r2 w t') = upN (rE r) t' 2 := by rw [eF, ← eE]; rfl
    have c2 : rH (fnR r2 w t') = up (rH r) w (-1) := by rw [eF, ← eH]; rfl
    have c3 : rR (fnR r2 w t') = rR r := by rw [eF, ← eR]; rfl
    have c4 : rC (fnR r2 w t') = upN (rC r) (rW r w) (rC r (rW r w) + 1) := by rw [eF, ← eC, ← eW]; rfl
    exact ⟨L, Y, wk, upO bu t' (wk w), bp, kf, pf, lf, _, pb, DfC.r (f := 1665) fr hm (by decide) TF, c1.symm ▸ ST', c2.symm ▸ HA', NE.r fr hm, LF_.r fr hm, HW.r fr hm, WK.r fr hm, WP.r fr hm, BU', KP', LP', RE.r fr hm, c3.symm ▸ RN.r fr hm, c4.symm ▸ CT', PT', PU', J2⟩
  · obtain ⟨J2, eF⟩ := J.ok s6 hw hT2 hv ne
    refine kk h' fr ?_
    rw [e2]
    rw [eW] at J2
    have c1 : rE (fnR r2 w t') = upN (rE r) t' 1 := by rw [eF, ← eE]; rfl
    have c2 : rH (fnR r2 w t') = up (rH r) w (-1) := by rw [eF, ← eH]; rfl
    have c3 : rR (fnR r2 w t') = rR r := by rw [eF, ← eR]; rfl
    have c4 : rC (fnR r2 w t') = upN (rC r) (rW r w) (rC r (rW r w) + 1) := by rw [eF, ← eC, ← eW]; rfl
    exact ⟨L, Y, wk, upO bu t' (wk w), _, kf, pf, _, _, _, DfC.r (f := 1665) fr hm (by decide) TF, c1.symm ▸ ST', c2.symm ▸ HA', NE.r fr hm, LF_.r fr hm, HW.r fr hm, WK.r fr hm, WP.r fr hm, BU', KP', LP', RE.r fr hm, c3.symm ▸ RN.r fr hm, c4.symm ▸ CT', PT', PU', J2⟩
theorem GoR.left {S : Shp} {h h' : Hp} {m w t nn : Nat} {P : PlV} {s : GoV} (D : GoR S h m P nn s) (hm : sK S m = 14) (fr : Fr S m [1714] h h') (e : h' = sAI h (sT S 1714 m) w (rL (goR s) w - 1)) : GoR S h' m P nn (ltG w s) := by
  obtain ⟨pu, pp, ra, kc, r⟩ := s
  obtain ⟨L, Y, wk, bu, bp, kf, pf, lf, ks, pb, TF, ST, HA, NE, LF_, HW, WK, WP, BU, KP, LP, RE, RN, CT, PT, PU, I⟩ := D
  exact ⟨_, Y, wk, bu, bp, kf, pf, lf, ks, pb, DfC.r (f := 1665) fr hm (by decide) TF, ST.r fr hm, HA.r fr hm, NE.r fr hm, LF_.w e, HW.r fr hm, WK.r fr hm, WP.r fr hm, OmS.r (f := 1668) fr hm (Or.inl rfl) (by decide) BU, KP.r fr hm, LP.r fr hm, RE.r fr hm, RN.r fr hm, CT.r fr hm, PT.r fr hm, PU.r fr hm, I.lt⟩
theorem GoR.lf {S : Shp} {h : Hp} {m w nn : Nat} {P : PlV} {s : GoV} (D : GoR S h m P nn s) (hw : w < 2) (hn : 0 ≤ rH (goR s) w) : AI h (sT S 1714 m) w = rL (goR s) w := by
  obtain ⟨L, Y, wk, bu, bp, kf, pf, lf, ks, pb, TF, ST, HA, NE, LF_, HW, WK, WP, BU, KP, LP, RE, RN, CT, PT, PU, I⟩ := D
  obtain ⟨t, e, g⟩ := I.1 w hw hn
  exact (LF_ w hw).trans g.2.2.2.2.1
theorem GoR.hd {S : Shp} {h : Hp} {m w nn : Nat} {P : PlV} {s : GoV} (D : GoR S h m P nn s) (hw : w < 2) : AI h (sT S 1713 m) w = rH (goR s) w := by
  obtain ⟨L, Y, wk, bu, bp, kf, pf, lf, ks, pb, TF, ST, HA, rest⟩ := D
  exact HA w hw
