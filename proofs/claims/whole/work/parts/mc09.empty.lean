/-! both houses are empty at first -/
def o00 : OutV := (false, [], [], [])
def r00 : RunV := (fun _ => 0, fun _ => -1, fun _ => 0, fun _ => 0, fun _ => (o00, [], 0), [], fun _ => 0, -1, [])
def g00 : GoV := (fun _ => o00, fun _ => [], fun _ => 0, [], r00)
def z00 : SeP := (([], [], []), fun _ => o00, fun _ _ => 0, fun _ => 0, g00, false, 0)
def v00 : HoS := (([], [], []), [], z00)
def b00 : BkV := (fun _ => 0, 0, -1, false)
def e00 : OmV := ([], [], [])
section EMPTY
variable {G : Nat → Option Nat} {v n0 : Nat} {h0 h : Hp}
theorem Hw.fi (W : Hw G v n0 h0 h) {a kd : Nat} (ha : sK (shS n0 h0) a = kd) (hk : kd ≠ 0) (f : Nat) : FI h f a = iF kd f := by
  rw [← ha]
  exact (W.zi (by omega) f).1
theorem Hw.z4 (W : Hw G v n0 h0 h) {f a : Nat} (ha : sK (shS n0 h0) a = kFld f) (hf : fk f ≠ 0 ∧ f ≠ 775 ∧ f ≠ 1713) (j : Nat) : AI h (sT (shS n0 h0) f a) j = 0 := (W.za hf.1 ha j).1.trans (iA_no hf.2 j).symm
theorem Hw.r0 (W : Hw G v n0 h0 h) {a : Nat} (ha : sK (shS n0 h0) a = 6) : rl h a = [] := by
  have e : FI h 641 a = 0 := (W.fi ha (by decide) 641).trans (by decide)
  unfold rl
  rw [e]
  rfl
theorem Hw.ou (W : Hw G v n0 h0 h) (ok : Ok (shS n0 h0) h) {a : Nat} (ha : sK (shS n0 h0) a = 3) : OuC (shS n0 h0) h a o00 ∧ PaC (shS n0 h0) h a [] :=
  ⟨⟨(W.fi ha (by decide) 256).trans (by decide), W.r0 (kT257 ok ha), W.r0 (kT258 ok ha), W.r0 (kT259 ok ha), Nat.zero_le _, Nat.zero_le _, Nat.zero_le _⟩, (W.fi ha (by decide) 261).trans (by decide), Nat.zero_le _, fun i hi => absurd hi (Nat.not_lt_zero i)⟩
theorem Hw.st (W : Hw G v n0 h0 h) (ok : Ok (shS n0 h0) h) {s : Nat} (hs : sK (shS n0 h0) s = 8) : StC (shS n0 h0) h s (fun _ => o00) (fun _ => []) (fun _ => o00) (fun _ _ => 0) (fun _ => 0) [] := by
  have l9 : sL (shS n0 h0) (sT (shS n0 h0) 898 s) = 14 := (ok.so.2.2.1 898 s (by decide) hs).2.1 (by decide)
  refine ⟨fun t ht => W.ou ok (kE896 ok hs ht), fun t ht => ⟨(W.ou ok (kE897 ok hs ht)).1, fun i _ => (W.ze (f := 898) (by decide) hs (by rw [l9]; exact ht) i).1⟩, fun t _ => W.z4 hs (by decide) t, id, fun i hi => ⟨hi, W.ar (f := 900) (by decide) hs hi⟩, fun i j _ _ e => e, (W.fi hs (by decide) 901).trans (by decide), Nat.zero_le _, ?_, fun i hi => absurd hi (Nat.not_lt_zero i)⟩
  obtain ⟨k, e, rfl, h1, h2, -, -⟩ := W.at (a := s) (by omega)
  obtain ⟨u, h3, h4⟩ := (kd_at h1).2.2.2.2 (h2.trans hs)
  have e1 : sT (shS n0 h0) 900 (n0 + k) = n0 + u := tgE_s h3
  rw [e1, shL]
  exact h4
theorem Hw.pl (W : Hw G v n0 h0 h) (ok : Ok (shS n0 h0) h) {p : Nat} (hp : sK (shS n0 h0) p = 4) : PlC (shS n0 h0) h p ([], [], []) := by
  have l3 : sL (shS n0 h0) (sT (shS n0 h0) 387 p) = 16 := (ok.so.2.2.1 387 p (by decide) hp).2.1 (by decide)
  exact ⟨⟨id, fun i hi => ⟨hi, W.ar (f := 387) (by decide) hp (by rw [l3]; exact hi)⟩, fun i j _ _ e => e, (W.fi hp (by decide) 384).trans (by decide), Nat.zero_le _, fun i hi => absurd hi (Nat.not_lt_zero i)⟩, ⟨(W.fi hp (by decide) 388).trans (by decide), Nat.zero_le _, fun i hi => absurd hi (Nat.not_lt_zero i)⟩, (W.fi hp (by decide) 391).trans (by decide), Nat.zero_le _, fun i hi => absurd hi (Nat.not_lt_zero i)⟩
theorem Hw.se (W : Hw G v n0 h0 h) (ok : Ok (shS n0 h0) h) {x : Nat} (hx : sK (shS n0 h0) x = 7) : SeC (shS n0 h0) h x z00 := by
  refine ⟨false, ⟨W.pl ok (kT770 ok hx), W.st ok (kT769 ok hx), ⟨fun t _ => W.z4 hx (by decide) t, fun w hw => ?_, fun w _ => W.z4 hx (by decide) w, fun w _ => W.z4 hx (by decide) w, fun w hw => ?_, ⟨(W.fi hx (by decide) 780).trans (by decide), Nat.zero_le _, fun i hi => absurd hi (Nat.not_lt_zero i)⟩, fun i _ => W.z4 hx (by decide) i, (W.fi hx (by decide) 782).trans (by decide), W.r0 (kT784 ok hx), Nat.zero_le _⟩, fun u _ => W.z4 hx (by decide) u, (W.fi hx (by decide) 771).trans (by decide), (W.fi hx (by decide) 772).trans (by decide), (W.fi hx (by decide) 783).trans (by decide)⟩, ⟨fun w _ => ⟨Int.le_refl _, by show (-1 : Int) < ((0 : Nat) : Int); decide⟩, fun w _ _ z => absurd (show (0 : Int) ≤ -1 from z) (by decide), fun t _ z => absurd (show false = true from z) (by decide), by show (-1 : Int) < ((0 : Nat) : Int); decide, fun i hi => absurd hi (Nat.not_lt_zero i)⟩, fun w _ _ z => absurd (show (0 : Int) ≤ -1 from z) (by decide), fun z => absurd (show false = true from z) (by decide)⟩
  · refine (W.za (f := 775) (by decide) hx w).1.trans ?_
    unfold iA
    rw [if_pos ⟨Or.inl rfl, hw⟩]
    rfl
  · have k := kE778 ok hx hw
    exact ⟨(W.ou ok k).1, (W.ou ok k).2, (W.zi (by omega) 262).2⟩
theorem Hw.ho (W : Hw G v n0 h0 h) (ok : Ok (shS n0 h0) h) : HoC (shS n0 h0) h v00 ∧ BoV (shS n0 h0) h b00 ∧ rl h (sT (shS n0 h0) 1280 (sX (shS n0 h0))) = [] ∧ rl h (sT (shS n0 h0) 1281 (sX (shS n0 h0))) = [] := by
  have kX := ok.kX
  have k9 := kT1285 ok kX
  have kb := kT1283 ok kX
  refine ⟨⟨W.pl ok (kT1284 ok kX), ⟨(W.fi k9 (by decide) 1024).trans (by decide), Nat.zero_le _, fun k hk => absurd hk (Nat.not_lt_zero k)⟩, W.se ok (kT1286 ok kX), ⟨z00, W.se ok (kT1287 ok kX)⟩, W.r0 (kT1152 ok (kT1288 ok kX))⟩, ⟨fun j _ => ?_, (W.fi kb (by decide) 1).trans (by decide), (W.fi kb (by decide) 2).trans (by decide), (W.fi kb (by decide) 3).trans (by decide)⟩, W.r0 (kT1280 ok kX), W.r0 (kT1281 ok kX)⟩
  rw [W.z4 kb (by decide) j]
  rfl
theorem Hw.om (W : Hw G v n0 h0 h) (ok : Ok (shS n0 h0) h) {o : Nat} (ho : sK (shS n0 h0) o = 13) : OmC (shS n0 h0) h o e00 := by
  have l6 := (ok.so.2.2.1 1536 o (by decide) ho).2.1 (by decide)
  have l7 := (ok.so.2.2.1 1538 o (by decide) ho).2.1 (by decide)
  have l8 := (ok.so.2.2.1 1540 o (by decide) ho).2.1 (by decide)
  exact ⟨(W.fi ho (by decide) 1537).trans (by decide), (W.fi ho (by decide) 1539).trans (by decide), (W.fi ho (by decide) 1541).trans (by decide), ⟨kT1536 ok ho, Nat.zero_le _, by rw [l6]; decide, fun i hi => absurd hi (Nat.not_lt_zero i)⟩, ⟨kT1538 ok ho, Nat.zero_le _, by rw [l7]; decide, fun i hi => absurd hi (Nat.not_lt_zero i)⟩, ⟨kT1540 ok ho, Nat.zero_le _, by rw [l8]; decide, fun i hi => absurd hi (Nat.not_lt_zero i)⟩⟩
theorem Hw.df (W : Hw G v n0 h0 h) {d : Nat} (hd : sK (shS n0 h0) d = 12) : DfC (shS n0 h0) h d ([], [], []) :=
  ⟨⟨(W.fi hd (by decide) 1408).trans (by decide), Nat.zero_le _, fun i hi => absurd hi (Nat.not_lt_zero i)⟩, ⟨(W.fi hd (by decide) 1413).trans (by decide), Nat.zero_le _, fun i hi => absurd hi (Nat.not_lt_zero i)⟩, (W.fi hd (by decide) 1417).trans (by decide), Nat.zero_le _, fun i hi => absurd hi (Nat.not_lt_zero i)⟩
/-- the reference forgets its house, then holds the empty one -/
theorem Hw.clear (W : Hw G v n0 h0 h) (ok : Ok (shS n0 h0) h) {d : Nat} {Q : Option MV → Hp → Prop} (h1 : 1 ≤ d) (kk : ∀ h', Mo (shS n0 h0) (fun y => U (shS n0 h0) (sM (shS n0 h0)) y) h h' → MoR (shS n0 h0) h' (sM (shS n0 h0)) v00 b00 [] [] → Q none h') : Cl G d 192 [vR (some (sM (shS n0 h0)))] h Q := by
  have hm : sK (shS n0 h0) (sM (shS n0 h0)) = 14 := ok.so.2.2.2.2.1.2.1
  generalize hmm : sM (shS n0 h0) = m at hm kk ⊢
  have l3 : sL (shS n0 h0) (sT (shS n0 h0) 1703 m) = 24 := (ok.so.2.2.1 1703 m (by decide) hm).2.1 (by decide)
  have lr : sL (shS n0 h0) (sT (shS n0 h0) 1730 m) = 20020 := (ok.so.2.2.1 1730 m (by decide) hm).2.1 (by decide)
  have fi : ∀ f, iF 14 f = 0 → FI h f m = 0 := fun f e => (W.fi hm (by decide) f).trans e
  refine k_M_clearHouse (wk := fun _ => e00) (bu := fun _ => e00) (bp := fun _ => e00) (kf := fun _ => 0) (pf := fun _ => []) (ks := []) (re := fun _ => false) (ed := fun _ _ => 0) (s := g00) ok h1 hm (fun w hw => W.om ok (kE1716 ok hm hw)) (fun w hw => ⟨(W.za (f := 1717) (by decide) hm w).2, W.z4 hm (by decide) w, Nat.zero_le _, fun k hk => absurd hk (Nat.not_lt_zero k)⟩) (fun j hj => W.om ok (kE1668 ok hm hj)) ⟨fi 1701 (by decide), Nat.zero_le _, id, fun i hi => ⟨hi, W.ar (f := 1703) (by decide) hm (by rw [l3]; exact hi)⟩, fun i j _ _ e => e, fun i hi => absurd hi (Nat.not_lt_zero i)⟩ (fun j hj => W.om ok (kE1667 ok hm hj)) (fun t _ => ⟨W.z4 hm (by decide) t, fun i _ => W.z4 hm (by decide) (3 * t + i)⟩) (fun _ _ => rfl) rfl rfl rfl (fun h' fr NF SE GN SP HA NE RN ST ED RS => ?_)
  refine kk h' (fr.mo.mono (fun y q => ?_)) ⟨NF, ⟨RS, Nat.zero_le _, fun k hk => absurd hk (Nat.not_lt_zero k)⟩, ⟨0, fun _ => e00, DfC.r (f := 1665) fr hm (by decide) (W.df (kT1665 ok hm)), SE, ST, HA, NE, fun u => ⟨fun z => ?_, fun z => absurd (show (0 : Nat) = 1 from z) (by decide)⟩, RN, GN, SP, ED, OmA.r (f := 1675) (bu := fun _ => e00) (fun j hj => W.om ok (kE1675 ok hm hj)) fr hm (by decide), fun u _ z => absurd (show false = true from z) (by decide), fun z => absurd (show false = true from z) (by decide)⟩, BoR.r fr hm ⟨fun i _ => W.z4 hm (by decide) i, fi 1735 (by decide), (W.fi hm (by decide) 1737).trans (by decide), fi 1736 (by decide)⟩, TpR.r ⟨fi 1729 (by decide), Nat.zero_le _, fun i hi => absurd hi (Nat.not_lt_zero i)⟩ fr hm, ⟨(fr.i 1733).trans (fi 1733 (by decide)), Nat.zero_le _, fun i hi => absurd hi (Nat.not_lt_zero i)⟩, NmI.r ⟨0, 0, ⟨fi 1742 (by decide), fi 1743 (by decide)⟩, Nat.le_refl _, Nat.zero_le _⟩ fr hm, ⟨[], RqR.r ⟨fi 1731 (by decide), Nat.zero_le _, kT1730 ok hm, Nat.zero_le _, by rw [lr]; decide, fun i hi => absurd hi (Nat.not_lt_zero i)⟩ fr hm⟩, fun _ => e00, ?_⟩
  · rcases q with q | ⟨g, hg, q⟩
    · rw [q]; exact U_refl
    · exact U_trans (ok.so.uT ((by decide : ∀ g ∈ ([1664, 1704, 1705, 1706, 1709, 1710, 1711, 1712, 1701, 1720, 1713, 1666, 1671, 1672, 1674, 1707] : List Nat), g < 4096) g hg) U_refl) q
  · unfold bt at z
    rw [Nat.zero_div] at z
    exact absurd z (by decide)
  · exact OmA.r (f := 1669) (bu := fun _ => e00) (fun j hj => W.om ok (kE1669 ok hm hj)) fr hm (by decide)
end EMPTY
