/-! the reference: what it holds of the house -/
/-- the session with what is released -/
def SxR (S : Shp) (h : Hp) (m : Nat) (z : SeP) : Prop := ∃ (nn : Nat) (br : Nat → OmV), DfC S h (sT S 1665 m) (sePl z) ∧ SeR S h m (seGo z) ∧ ArI S h m 1707 (fun t => ((rE (goR (seGo z)) t : Nat) : Int)) 14 ∧ ArI S h m 1713 (rH (goR (seGo z))) 2 ∧ NeR h m nn ∧ (∀ u, bt nn u ↔ seNd z u = 1) ∧ RnR S h m (rR (goR (seGo z))) ∧ FI h 1704 m = b2i (seOn z) ∧ FI h 1706 m = ((seSt z : Nat) : Int) ∧
  EdR S h m (fun u => (z.2.1 u).1) z.2.2.1 ∧ OmA S h m 1675 br ∧ (∀ u, u < 14 → (z.2.1 u).1 = true → (br u).1 = oO (z.2.1 u) ∧ (br u).2.1 = oF (z.2.1 u)) ∧ (seOn z = true → GoR S h m (sePl z) nn (seGo z))
theorem SxR.r {S : Shp} {h h' : Hp} {m : Nat} {z : SeP} {F : List Nat} (fr : Fr S m F h h') (hm : sK S m = 14) (D : SxR S h m z) (h1 : (∀ f ∈ [1665, 1707, 1713, 1705, 1714, 1715, 1716, 1717, 1718, 1719, 1668, 1701, 1702, 1703, 1670, 1671, 1672, 1673, 1708, 1709, 1710, 1711, 1712, 1667, 1666, 1704, 1706, 1674, 1676, 1675], f ∉ F) ∧ ltF4 F := by decide) : SxR S h' m z := by
  obtain ⟨nn, br, TF, SE, ST, HA, NE, nb, RN, GN, SP, ED, RL, rb, GR⟩ := D
  have k : ∀ f, f ∈ [1665, 1707, 1713, 1705, 1714, 1715, 1716, 1717, 1718, 1719, 1668, 1701, 1702, 1703, 1670, 1671, 1672, 1673, 1708, 1709, 1710, 1711, 1712, 1667, 1666, 1704, 1706, 1674, 1676, 1675] → f ∉ F := h1.1
  have q := h1.2
  have sub : ∀ L : List Nat, (∀ f ∈ L, f ∈ [1665, 1707, 1713, 1705, 1714, 1715, 1716, 1717, 1718, 1719, 1668, 1701, 1702, 1703, 1670, 1671, 1672, 1673, 1708, 1709, 1710, 1711, 1712, 1667, 1666, 1704, 1706, 1674, 1676, 1675]) → ∀ f ∈ L, f ∉ F := fun L hL f hf => k f (hL f hf)
  exact ⟨nn, br, DfC.r (f := 1665) fr hm ⟨Or.inr rfl, k _ (by decide), q⟩ TF, SE.r fr hm ⟨sub _ (by decide), q⟩, ST.r fr hm ⟨k _ (by decide), q, by decide⟩, HA.r fr hm ⟨k _ (by decide), q, by decide⟩, NE.r fr hm (k _ (by decide)), nb, RN.r fr hm ⟨k _ (by decide), k _ (by decide), q⟩, (fr.i 1704 (k _ (by decide))).trans GN, (fr.i 1706 (k _ (by decide))).trans SP, ED.r fr hm ⟨k _ (by decide), k _ (by decide), q⟩, RL.r fr hm ⟨by decide, k _ (by decide), q⟩, rb, fun o => (GR o).r fr hm ⟨sub _ (by decide), q⟩⟩
theorem GoR.sx {S : Shp} {h : Hp} {m nn : Nat} {P : PlV} {s : GoV} (D : GoR S h m P nn s) : DfC S h (sT S 1665 m) P ∧ SeR S h m s ∧ ArI S h m 1707 (fun t => ((rE (goR s) t : Nat) : Int)) 14 ∧ ArI S h m 1713 (rH (goR s)) 2 ∧ NeR h m nn ∧ RnR S h m (rR (goR s)) := by
  have se := D.se
  obtain ⟨L, Y, wk, bu, bp, kf, pf, lf, ks, pb, TF, ST, HA, NE, LF_, HW, WK, WP, BU, KP, LP, RE, RN, CT, PT, PU, I⟩ := D
  exact ⟨TF, se, ST, HA, NE, RN⟩
/-- cleared -/
theorem k_M_clearN {S : Shp} {G : Nat → Option Nat} {d : Nat} {h : Hp} {Q : Option MV → Hp → Prop} {m : Nat} {z : SeP} (ok : Ok S h) (h1 : 1 ≤ d) (hm : sK S m = 14) (SX : SxR S h m z)
    (kk : ∀ h', Fr S m [1664, 1704, 1705, 1706, 1709, 1710, 1711, 1712, 1701, 1720, 1713, 1666, 1671, 1672, 1674, 1707] h h' → DfC S h' (sT S 1664 m) ([], [], []) → SxR S h' m (z.1, (seNo z).2) → RsR S h' m [] → Q none h') : Cl G d 192 [vR (some m)] h Q := by
  obtain ⟨nn, br, TF, SE, ST, HA, NE, nb, RN, GN, SP, ED, RL, rb, GR⟩ := SX
  obtain ⟨wk, bu, bp, kf, pf, lf, ks, pb, WK, WP, BU, KP, LP, RE, CT, PT, PU, I, ke⟩ := SE
  refine k_M_clearHouse (s := (seNo z).2.2.2.2.1) ok h1 hm WK WP BU KP PT ED (fun _ _ => rfl) rfl rfl rfl (fun h' fr a1 a2 a3 a4 a5 a6 a7 a8 a9 a10 => kk h' fr a1 ?_ ⟨a10, by decide, fun k hk => absurd hk (Nat.not_lt_zero _)⟩)
  exact ⟨0, br, DfC.r (f := 1665) fr hm (by decide) TF, a2, a8, a5, a6, fun u => by
    show bt 0 u ↔ (0 : Nat) = 1
    unfold bt
    simp, a7, a3, a4, a9, RL.r fr hm, fun u _ y => absurd y Bool.noConfusion, fun o => absurd (show false = true from o) Bool.noConfusion⟩
theorem k_M_beginN {S : Shp} {G : Nat → Option Nat} {d : Nat} {h : Hp} {Q : Option MV → Hp → Prop} {m t : Nat} {N0 : PlV} {z : SeP} (ok : Ok S h) (h1 : 5 ≤ d) (hm : sK S m = 14) (NF : DfC S h (sT S 1664 m) N0) (SX : SxR S h m z) (ht : t < N0.2.2.length) (hH : tH N0.2.2 t = true)
    (kk : ∀ h', Fr S m [1665, 1704, 1705, 1706, 1709, 1707, 1713] h h' → SxR S h' m (N0, z.2.1, z.2.2.1, ndF N0.2.2 t, go0 (seGo z), true, 0) → Q none h') : Cl G d 242 [vR (some m), vI (t : Nat)] h Q := by
  obtain ⟨nn, br, TF, SE, ST, HA, NE, nb, RN, GN, SP, ED, RL, rb, GR⟩ := SX
  refine k_M_beginSession ok h1 hm NF SE ht hH (fun h' n2 fr GR' SP' GN' nb' => kk h' fr ?_)
  obtain ⟨g1, g2, g3, g4, g5, g6⟩ := GR'.sx
  exact ⟨n2, br, g1, g2, g3, g4, g5, fun u => by
    rw [nb' u]
    exact ⟨fun y => ndF_1 y, fun y => Classical.byContradiction (fun c => by
      change ndF N0.2.2 t u = 1 at y
      rw [ndF_0 c] at y; exact absurd y (by decide))⟩, g6, GN', SP', ED.r fr hm, RL.r fr hm, rb, fun _ => GR'⟩
/-- stopped -/
theorem SxR.stop {S : Shp} {h h' : Hp} {m : Nat} {z : SeP} (D : SxR S h m z) (fr : Fr S m [1704, 1713] h h') (hm : sK S m = 14) (e : FI h' 1704 m = 0) (e0 : AI h' (sT S 1713 m) 0 = -1) (e1 : AI h' (sT S 1713 m) 1 = -1) : SxR S h' m (sePl z, z.2.1, z.2.2.1, seNd z, ((seGo z).1, (seGo z).2.1, (seGo z).2.2.1, (seGo z).2.2.2.1, rsH (goR (seGo z)) (fun _ => -1)), false, seSt z) := by
  obtain ⟨nn, br, TF, SE, ST, HA, NE, nb, RN, GN, SP, ED, RL, rb, GR⟩ := D
  exact ⟨nn, br, DfC.r (f := 1665) fr hm (by decide) TF, SE.r fr hm, ST.r fr hm, fun w hw => by
    rcases (show w = 0 ∨ w = 1 by omega) with y | y
    · rw [y]; exact e0
    · rw [y]; exact e1, NE.r fr hm, nb, RN.r fr hm, e, (fr.i 1706).trans SP, ED.r fr hm, RL.r fr hm, rb, fun o => absurd o (by show ¬ false = true; decide)⟩
/-- what must be so for a session to go on n steps -/
def gowP (z : SeP) (n : Nat) : Prop := (∀ u, u < (sePl z).2.2.length → seNd z u = 1 → tH (sePl z).2.2 u = true) ∧ (∀ t, t < (sePl z).2.2.length → okN (tgW (tD (sePl z).2.2 t)) ∧ ∃ r : Nat, rix (tgR (tD (sePl z).2.2 t)) = (r : Int)) ∧ seSt z + n ≤ 2147483647 ∧ LfI (goR (seGo z)) ∧ (∀ j, rC (goR (seGo z)) j + (2 * n + 3) ≤ 2147483647) ∧ NdI (sePl z) (seNd z) (goR (seGo z)) ∧ ∀ t, t < (sePl z).2.2.length → cln (tgN (tD (sePl z).2.2 t))
/-- a session gone on -/
def gonP (z : SeP) (n : Nat) : GoV × Bool × Nat := goG (sePl z) (seNd z) 24 n (seGo z) (seOn z) (seSt z)
theorem k_M_goN {S : Shp} {G : Nat → Option Nat} {d : Nat} {h : Hp} {Q : Option MV → Hp → Prop} {m n : Nat} {z : SeP} {la : List Nat} (ok : Ok S h) (h1 : 17 ≤ d) (hm : sK S m = 14) (SX : SxR S h m z) (TE : TeR S h m la) (AG : AI h (sT S 1741 m) 0 = ((n : Nat) : Int)) (tg : Tg S G) (on : seOn z = true) (W : gowP z n)
    (kk : ∀ h', Fr S m [1713, 1714, 1715, 1716, 1717, 1718, 1719, 1678, 1679, 1680, 1672, 1673, 1708, 1709, 1683, 1685, 1686, 1687, 1688, 1698, 1699, 1700, 1689, 1690, 1691, 1692, 1693, 1694, 1695, 1696, 1697, 1681, 1682, 1684, 1677, 1710, 1711, 1712, 1701, 1702, 1703, 1668, 1707, 1667, 1666, 1671, 1670, 1706, 1704, 1732, 1733] h h' → SxR S h' m (sePl z, z.2.1, z.2.2.1, seNd z, gonP z n) → TeR S h' m (addBs 20000 la (endT (sePl z).2.2 (gonP z n).2.1 (rF (goR (gonP z n).1)) ((rT (goR (gonP z n).1)).map told))) → Q none h') : Cl G d 245 [vR (some m)] h Q := by
  obtain ⟨nn, br, TF, SE, ST, HA, NE, nb, RN, GN, SP, ED, RL, rb, GR⟩ := SX
  refine k_M_go ok h1 hm (GR on) SP GN TE AG tg (fun u _ => nb u) W.1 W.2.1 W.2.2.1 W.2.2.2.1 W.2.2.2.2.1 W.2.2.2.2.2.1 W.2.2.2.2.2.2 (fun h' fr GR' SP' GN' TE' => kk h' fr ?_ TE')
  obtain ⟨g1, g2, g3, g4, g5, g6⟩ := GR'.sx
  exact ⟨nn, br, g1, g2, g3, g4, g5, nb, g6, GN', SP', ED.r fr hm, RL.r fr hm, rb, fun _ => GR'⟩
/-- released -/
theorem k_M_releaseN {S : Shp} {G : Nat → Option Nat} {d : Nat} {h : Hp} {Q : Option MV → Hp → Prop} {m t : Nat} {z : SeP} {la : List Nat} (ok : Ok S h) (h1 : 14 ≤ d) (hm : sK S m = 14) (SX : SxR S h m z) (TE : TeR S h m la) (tg : Tg S G) (ht : t < 14) (hp : ((seGo z).1 t).1 = true) (hb : ∀ i, z.2.2.1 t i < 2147483647)
    (kk : ∀ h', Fr S m [1732, 1733, 1674, 1676, 1675] h h' → SxR S h' m (sePl z, upO z.2.1 t ((seGo z).1 t), upO z.2.2.1 t (relE (z.2.1 t) ((seGo z).1 t) (z.2.2.1 t)), z.2.2.2) → TeR S h' m (addBs 20000 la (relTxt (z.2.1 t) ((seGo z).1 t) (z.2.2.1 t))) → Q none h') : Cl G d 295 [vR (some m), vI (t : Nat)] h Q := by
  obtain ⟨nn, br, TF, SE, ST, HA, NE, nb, RN, GN, SP, ED, RL, rb, GR⟩ := SX
  have SE_0 := SE
  obtain ⟨wk, bu, bp, kf, pf, lf, ks, pb, WK, WP, BU, KP, LP, RE, CT, PT, PU, I, ke⟩ := SE
  have i := I t ht
  have ib : oV (bp t) = (seGo z).1 t := (i.2.1 (i.1.symm.trans hp)).1
  refine k_M_releaseTarget (re := z.2.1) (n := (seGo z).1 t) ok h1 hm TE ED PT RL tg ht ⟨by rw [← ib]; rfl, by rw [← ib]; rfl⟩ (rb t ht) hb (fun h' fr ED' RL' TE' => kk h' fr ?_ TE')
  refine ⟨nn, _, DfC.r (f := 1665) fr hm (by decide) TF, SE_0.r fr hm, ST.r fr hm, HA.r fr hm, NE.r fr hm, nb, RN.r fr hm, (fr.i 1704).trans GN, (fr.i 1706).trans SP, ?_, RL', fun u hu y => ?_, fun o => (GR o).r fr hm⟩
  · have e : (fun u => (upO z.2.1 t ((seGo z).1 t) u).1) = upO (fun u => (z.2.1 u).1) t true := by
      funext u
      unfold upO
      split
      · exact hp
      · rfl
    show EdR S h' m (fun u => (upO z.2.1 t ((seGo z).1 t) u).1) _
    rw [e]; exact ED'
  · change (upO z.2.1 t ((seGo z).1 t) u).1 = true at y
    show (upO br t (bp t) u).1 = oO (upO z.2.1 t ((seGo z).1 t) u) ∧ (upO br t (bp t) u).2.1 = oF (upO z.2.1 t ((seGo z).1 t) u)
    unfold upO at y ⊢
    by_cases q : u = t
    · rw [if_pos q, if_pos q, ← ib]; exact ⟨rfl, rfl⟩
    · rw [if_neg q, if_neg q]
      rw [if_neg q] at y
      exact rb u hu y
section NOWN
variable {S : Shp} {G : Nat → Option Nat} {d : Nat} {h : Hp} {Q : Option MV → Hp → Prop} {m f e tf te v : Nat} {n l : List Nat} {N0 : PlV} {D : TgV}
theorem k_M_putFileN (ok : Ok S h) (h1 : 2 ≤ d) (hm : sK S m = 14) (NM : NmR h m f e) (SG : SgC S h (sT S 1730 m) f n) (NF : DfC S h (sT S 1664 m) N0) (RQ : RqR S h m l) (T1 : FI h 1746 m = ((tf : Nat) : Int)) (T2 : FI h 1747 m = ((te : Nat) : Int)) (hn : f + n.length = e) (h8 : n.length ≤ 12) (ht : tf ≤ te ∧ te ≤ l.length ∧ te - tf ≤ 160) (hr : fix N0.1 n < 0 → N0.1.length < 16)
    (kk : ∀ h', Fr S m [1664] h h' → DfC S h' (sT S 1664 m) (fsPut N0.1 n ((sl l tf te).map untold), N0.2) → Q none h') : Cl G d 238 [vR (some m)] h Q :=
  k_M_putFile ok h1 hm NM SG NF.1 RQ T1 T2 hn h8 ht hr (fun h' fr D => kk h' (fr.sub hm) ⟨D, NF.2.1.r fr (kT1664 ok hm), NF.2.2.r fr (kT1664 ok hm)⟩)
theorem k_M_removeFileN (ok : Ok S h) (h1 : 2 ≤ d) (hm : sK S m = 14) (NF : DfC S h (sT S 1664 m) N0) (hf : f < N0.1.length)
    (kk : ∀ h', Fr S m [1664] h h' → DfC S h' (sT S 1664 m) (N0.1.eraseIdx f, N0.2) → Q none h') : Cl G d 239 [vR (some m), vI (f : Nat)] h Q :=
  k_M_removeFile ok h1 hm NF.1 hf (fun h' fr D => kk h' (fr.sub hm) ⟨D, NF.2.1.r fr (kT1664 ok hm), NF.2.2.r fr (kT1664 ok hm)⟩)
theorem k_M_setFlagN (ok : Ok S h) (h1 : 2 ≤ d) (hm : sK S m = 14) (NM : NmR h m f e) (SG : SgC S h (sT S 1730 m) f n) (NF : DfC S h (sT S 1664 m) N0) (A0 : AI h (sT S 1741 m) 0 = ((v : Nat) : Int)) (hn : f + n.length = e) (h8 : n.length ≤ 8) (hv : v ≤ 9999) (hr : gix N0.2.1 n < 0 → N0.2.1.length < 6)
    (kk : ∀ h', Fr S m [1664] h h' → DfC S h' (sT S 1664 m) (N0.1, gsPut N0.2.1 n v, N0.2.2) → Q none h') : Cl G d 240 [vR (some m)] h Q :=
  k_M_setFlag ok h1 hm NM SG NF.2.1 (fun i hi => by rw [show i = 0 by omega]; exact A0) hn h8 hv hr (fun h' fr D => kk h' (fr.sub hm) ⟨NF.1.r fr (kT1664 ok hm), D, NF.2.2.r fr (kT1664 ok hm)⟩)
/-- what a definition read is like -/
def tgoP (D : TgV) : Prop := (tgN D).length ≤ 8 ∧ (tgW D).length ≤ 8 ∧ (∀ k, k < (tgI D).length → (inN (tgI D) k).length ≤ 12) ∧ (tgC D).length ≤ 8 ∧ tgK D ≤ 9999
theorem k_M_setTargetN (ok : Ok S h) (h1 : 9 ≤ d) (hm : sK S m = 14) (NF : DfC S h (sT S 1664 m) N0) (RQ : RqR S h m l) (T : TdR S h m l D) (tg : Tg S G) (g : tgoP D) (hr0 : 0 ≤ rix (tgR D)) (hr : tix N0.2.2 (tgN D) < 0 → N0.2.2.length < 14)
    (kk : ∀ h', Fr S m [1664] h h' → DfC S h' (sT S 1664 m) (N0.1, N0.2.1, tsPut N0.2.2 D) → Q none h') : Cl G d 241 [vR (some m)] h Q := by
  obtain ⟨nf, nt, rf, rt, wf, wt, NM, RU, WO, ⟨o1, o2, o3, o4, o5, o6⟩, eN, eR, eW, IC, i6, IA, CC⟩ := T
  have nl := sl_len ⟨o1, o2⟩
  have rl := sl_len ⟨o3, o4⟩
  have wl := sl_len ⟨o5, o6⟩
  rw [eN] at nl
  rw [eR] at rl
  rw [eW] at wl
  have fin : ∀ (cb : Bool) (ff ft : Nat), FI h 1756 m = b2i cb → CdS S h m cb ff ft (tgC D) (tgK D) → (cb = false → tgC D = [] ∧ tgK D = 0) → Cl G d 241 [vR (some m)] h Q := fun cb ff ft CN CS hcf =>
    k_M_setTarget ok h1 hm NM (by rw [← eN]; exact RQ.2.2.sub ⟨o1, o2⟩) NF RQ RU (by rw [← eR]; exact RQ.2.2.sub ⟨o3, o4⟩) WO (by rw [← eW]; exact RQ.2.2.sub ⟨o5, o6⟩) IC IA CN CS tg rfl (by omega) (by omega) (by omega) hcf g.1 hr0 g.2.1 i6 g.2.2.1 g.2.2.2.1 g.2.2.2.2 hr
      (fun h' fr D' => kk h' (fr.sub hm) ⟨NF.1.r fr (kT1664 ok hm), NF.2.1.r fr (kT1664 ok hm), D'⟩)
  rcases CC with ⟨c1, c2, c3⟩ | ⟨c1, c2, ff, ft, c3, c4, c5, c6, c7⟩
  · exact fin false 0 0 c3 (fun q => absurd q (by decide)) (fun _ => ⟨c1, c2⟩)
  · have fl := sl_len ⟨c4, c5⟩
    rw [c6] at fl
    exact fin true ff ft c2 (fun _ => ⟨c3, by omega, by rw [← c6]; exact RQ.2.2.sub ⟨c4, c5⟩, c7⟩) (fun y => absurd y (by decide))
end NOWN
