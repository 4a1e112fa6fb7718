/-! between two calls: what stays so, and each call of both -/
def LvI (S : Shp) (h : Hp) (k : Nat) (v w : HoS) (b : BkV) (tp la : List Nat) : Prop := Ok S h ∧ HoC S h v ∧ BoV S h b ∧ rl h (sT S 1280 (sX S)) = tp ∧ rl h (sT S 1281 (sX S)) = la ∧ cap h (sT S 1281 (sX S)) = 4096 ∧ MoR S h (sM S) w b tp la ∧ cInv k v w ∧ (b.2.1 ≤ 2048 ∧ b.2.2.1 ≤ (b.2.1 : Int)) ∧ la.length ≤ 4087
/-- the room that is left doesn't grow less but by what is made -/
def Rmm (h h' : Hp) : Prop := NX h' + psum potC h' ≤ NX h + psum potC h ∧ SL h' + psum potS h' ≤ SL h + psum potS h
theorem Rmm.refl {h : Hp} : Rmm h h := ⟨Nat.le_refl _, Nat.le_refl _⟩
theorem Rmm.tr {h h1 h2 : Hp} (a : Rmm h h1) (b : Rmm h1 h2) : Rmm h h2 := ⟨Nat.le_trans b.1 a.1, Nat.le_trans b.2 a.2⟩
theorem Mo.rmm {S : Shp} {A : Nat → Prop} {h h' : Hp} (m : Mo S A h h') : Rmm h h' := m.1.2.2.2.2.2.2.2.2.2
/-- the reference's call j answers x too, and all stays so -/
def Sam (S : Shp) (G : Nat → Option Nat) (d j : Nat) (args : List MV) (k : Nat) (h h1 : Hp) (x : MV) : Prop := Ok S h1 ∧ Rmm h h1 ∧ ∀ Q' : Option MV → Hp → Prop, (∀ h2 k' v' w' b' tp' la', k' ≤ k + 684 → LvI S h2 k' v' w' b' tp' la' → Rmm h h2 → Q' (some x) h2) → Cl G d j (vR (some (sM S)) :: args) h1 Q'
section LAWC
variable {S : Shp} {G : Nat → Option Nat} {d k : Nat} {h : Hp} {Q : Option MV → Hp → Prop} {v w : HoS} {b : BkV} {tp la : List Nat}
theorem MA_X (so : SOk S) {F : List Nat} (hF : ltF4 F) {f z : Nat} (hf : f < 4096) (u : U S (sT S f (sX S)) z) : ¬ MA S (sM S) F z := by
  rintro (e | ⟨g, hg, y⟩)
  · exact U_XM so hf u (e ▸ U_refl)
  · exact U_XM so hf u (U_trans (so.uT (hF g hg) U_refl) y)
/-- the class's side across the reference's call -/
theorem cl_x {F : List Nat} {h1 h2 : Hp} (fr : Fr S (sM S) F h1 h2) (hF : ltF4 F) (D : HoC S h1 v) (B : BoV S h1 b) : HoC S h2 v ∧ BoV S h2 b ∧ rl h2 (sT S 1280 (sX S)) = rl h1 (sT S 1280 (sX S)) ∧ rl h2 (sT S 1281 (sX S)) = rl h1 (sT S 1281 (sX S)) ∧ cap h2 (sT S 1281 (sX S)) = cap h1 (sT S 1281 (sX S)) := by
  have ok1 := fr.1
  have kX := ok1.kX
  exact ⟨HoC.f ok1 fr.mo (fun f f1 f2 z u => MA_X ok1.so hF (by omega) u) D, BoC.f ok1 fr.mo (fun z u => MA_X ok1.so hF (by decide) u) B, fr.mo.rb ok1 (kT1280 ok1 kX) (MA_X ok1.so hF (f := 1280) (by decide) U_refl), fr.mo.rb ok1 (kT1281 ok1 kX) (MA_X ok1.so hF (f := 1281) (by decide) U_refl), (fr.mo.cp ok1 (kT1281 ok1 kX)).2 (MA_X ok1.so hF (f := 1281) (by decide) U_refl)⟩
theorem LvI.hm (I : LvI S h k v w b tp la) : sK S (sM S) = 14 := I.1.so.2.2.2.2.1.2.1
/-- answers that change nothing -/
theorem l_same {jc jr : Nat} {args : List MV} {x : Int} (I : LvI S h k v w b tp la) (c : ∀ Q : Option MV → Hp → Prop, Q (some (vI x)) h → Cl G d jc (vR (some (sX S)) :: args) h Q) (r : ∀ Q : Option MV → Hp → Prop, Q (some (vI x)) h → Cl G d jr (vR (some (sM S)) :: args) h Q) (kk : ∀ h1 y, Sam S G d jr args k h h1 (vI y) → Q (some (vI y)) h1) : Cl G d jc (vR (some (sX S)) :: args) h Q :=
  c Q (kk h x ⟨I.1, Rmm.refl, fun Q' q' => r Q' (q' h k v w b tp la (by omega) I Rmm.refl)⟩)
theorem l_answer {i : Int} (I : LvI S h k v w b tp la) (h1 : 24 ≤ d) (kk : ∀ h1 y, Sam S G d 334 [vI i] k h h1 (vI y) → Q (some (vI y)) h1) : Cl G d 179 [vR (some (sX S)), vI i] h Q := by
  obtain ⟨ok, D, B, e1, e2, e3, MR, cI, bI, ll⟩ := id I
  exact l_same (x := atv la i) I (fun Q q => k_Ho_answer ok (by omega) (by rw [e2]; exact q)) (fun Q q => k_M_answer ok (Nat.zero_le _) I.hm MR.2.2.2.2.2.1 q) kk
theorem l_byteAt {i : Int} (I : LvI S h k v w b tp la) (h1 : 24 ≤ d) (kk : ∀ h1 y, Sam S G d 340 [vI i] k h h1 (vI y) → Q (some (vI y)) h1) : Cl G d 185 [vR (some (sX S)), vI i] h Q := by
  obtain ⟨ok, D, B, e1, e2, e3, MR, cI, bI, ll⟩ := id I
  exact l_same (x := bAt b.1 i) I (fun Q q => k_Ho_byteAt ok (by omega) B q) (fun Q q => k_M_byteAt ok (Nat.zero_le _) I.hm MR.2.2.2.1.1 (by rw [by_tie]; exact q)) kk
theorem l_state {i : Int} (I : LvI S h k v w b tp la) (h1 : 24 ≤ d) (kk : ∀ h1 y, Sam S G d 336 [vI i] k h h1 (vI y) → Q (some (vI y)) h1) : Cl G d 181 [vR (some (sX S)), vI i] h Q := by
  obtain ⟨ok, D, B, e1, e2, e3, MR, cI, bI, ll⟩ := id I
  have nd := cI.2.2.1.2.1.2.2.2
  exact l_same (x := stV v b tp.length la.length i) I (fun Q q => k_Ho_state ok (by omega) D B (by rw [e1, e2]; exact q)) (fun Q q => k_M_state ok (by omega) I.hm MR.1 MR.2.1 MR.2.2.1 MR.2.2.2.1 MR.2.2.2.2.1 MR.2.2.2.2.2.1 cI.2.2.2.2.2.2 (fun t ht he => (nd.1 t ht he).2) (by rw [st_tie cI.2.1]; exact q)) kk
theorem l_feed {a1 a2 a3 a4 a5 : Int} (I : LvI S h k v w b tp la) (h1 : 24 ≤ d) (kk : ∀ h1 y, Sam S G d 194 [vI a1, vI a2, vI a3, vI a4, vI a5] k h h1 (vI y) → Q (some (vI y)) h1) : Cl G d 12 [vR (some (sX S)), vI a1, vI a2, vI a3, vI a4, vI a5] h Q := by
  obtain ⟨ok, D, B, e1, e2, e3, MR, cI, bI, ll⟩ := id I
  have hm := I.hm
  have kX := ok.kX
  have tl := MR.2.2.2.2.1.2.1
  refine k_Ho_feed ok (by omega) e1 (by omega) (fun h2 m1 e4 => kk h2 _ ⟨m1.2, m1.rmm, fun Q' q' => ?_⟩)
  have ok1 : Ok S h2 := m1.2
  have nT : ∀ f, f ≠ 1280 → f < 4096 → ∀ z, U S (sT S f (sX S)) z → ¬ z = sT S 1280 (sX S) := fun f hn hf z u q => ok.so.nUT (f := f) (g := 1280) (x := sX S) hf (by decide) hn (q ▸ u)
  have MR1 : MoR S h2 (sM S) w b tp la := MR.q ok m1 hm (fun y u e => U_XM ok.so (f := 1280) (by decide) (e ▸ U_refl) u)
  have D1 : HoC S h2 v := HoC.f ok m1 (fun f f1 f2 z u => nT f (by omega) (by omega) z u) D
  have B1 : BoV S h2 b := BoC.f ok m1 (fun z u => nT 1283 (by decide) (by decide) z u) B
  have l1 : rl h2 (sT S 1281 (sX S)) = la := (m1.rb ok (kT1281 ok kX) (nT 1281 (by decide) (by decide) _ U_refl)).trans e2
  have c1 : cap h2 (sT S 1281 (sX S)) = 4096 := ((m1.cp ok (kT1281 ok kX)).2 (nT 1281 (by decide) (by decide) _ U_refl)).trans e3
  obtain ⟨NF, RS, SX, BO, TP, TE, NI, ⟨l, RQ⟩, bu, FO⟩ := MR1
  refine k_M_feed ok1 (Nat.zero_le _) hm TP.1 TP.2.2 tl (fun h3 fr TP3 => ?_)
  obtain ⟨x1, x2, x3, x4, x5⟩ := cl_x fr (by decide) D1 B1
  exact q' h3 k v w b _ la (by omega) ⟨fr.ok, x1, x2, x3.trans e4, x4.trans l1, x5.trans c1, ⟨DfC.r (f := 1664) fr hm (by decide) NF, RsR.s fr hm RS, SxR.r fr hm SX, BoR.r fr hm BO, TP3, TE.f fr.1 fr.mo fr.2.2 hm (fr.no (by decide) (by decide) (by decide) U_refl), NI.r fr hm, ⟨l, RQ.r fr hm⟩, bu, OmA.r (f := 1669) FO fr hm (by decide)⟩, cI, bI, ll⟩ (m1.rmm.tr fr.mo.rmm)
theorem l_poke {i x : Int} (I : LvI S h k v w b tp la) (h1 : 24 ≤ d) (kk : ∀ h1 y, Sam S G d 341 [vI i, vI x] k h h1 (vI y) → Q (some (vI y)) h1) : Cl G d 186 [vR (some (sX S)), vI i, vI x] h Q := by
  obtain ⟨ok, D, B, e1, e2, e3, MR, cI, bI, ll⟩ := id I
  have hm := I.hm
  have kX := ok.kX
  refine k_Ho_poke ok (by omega) B (fun h2 r m1 hr B1 => kk h2 _ ⟨m1.2, m1.rmm, fun Q' q' => ?_⟩)
  have ok1 : Ok S h2 := m1.2
  have MR1 : MoR S h2 (sM S) w b tp la := MR.q ok m1 hm (fun y u e => U_XM ok.so (f := 1283) (by decide) e u)
  have D1 : HoC S h2 v := HoC.f ok m1 (fun f f1 f2 z u => apX ok.so (f := f) (g := 1283) (by omega) (by decide) (by omega) z u) D
  have t1 : rl h2 (sT S 1280 (sX S)) = tp := (m1.rb ok (kT1280 ok kX) (ok.so.nUT (by decide) (by decide) (by decide))).trans e1
  have l1 : rl h2 (sT S 1281 (sX S)) = la := (m1.rb ok (kT1281 ok kX) (ok.so.nUT (by decide) (by decide) (by decide))).trans e2
  have c1 : cap h2 (sT S 1281 (sX S)) = 4096 := ((m1.cp ok (kT1281 ok kX)).2 (ok.so.nUT (by decide) (by decide) (by decide))).trans e3
  obtain ⟨NF, RS, SX, BO, TP, TE, NI, ⟨l, RQ⟩, bu, FO⟩ := MR1
  refine k_M_poke ok1 (by omega) hm BO (fun h3 r3 fr hr3 BO3 => ?_)
  have er : r3 = r := Bool.eq_iff_iff.mpr (hr3.trans hr.symm)
  subst er
  obtain ⟨x1, x2, x3, x4, x5⟩ := cl_x fr (by decide) D1 B1
  have tn : ∀ f, f ∉ [1734, 1736] → f < 4096 → ¬ MA S (sM S) [1734, 1736] (sT S f (sM S)) := fun f hf h4 => fr.no h4 hf (by decide) U_refl
  refine q' h3 k v w _ tp la (by omega) ⟨fr.ok, x1, x2, x3.trans t1, x4.trans l1, x5.trans c1, ⟨DfC.r (f := 1664) fr hm (by decide) NF, RsR.s fr hm RS, SxR.r fr hm SX, BO3, TP.r fr hm, TE.f fr.1 fr.mo fr.2.2 hm (tn 1732 (by decide) (by decide)), NI.r fr hm, ⟨l, RQ.r fr hm⟩, bu, OmA.r (f := 1669) FO fr hm (by decide)⟩, cI, ?_, ll⟩ (m1.rmm.tr fr.mo.rmm)
  split
  · exact bI
  · exact bI
end LAWC
