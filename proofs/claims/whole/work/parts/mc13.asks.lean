/-! ask and disproveAnswer of both -/
section LAWA
variable {S : Shp} {G : Nat → Option Nat} {d k : Nat} {h : Hp} {Q : Option MV → Hp → Prop} {v w : HoS} {b : BkV} {tp la : List Nat}
theorem l_askN {n : Int} (ok : Ok S h) (h1 : 24 ≤ d) (htp : rl h (sT S 1280 (sX S)) = tp) (q : ¬ (0 ≤ n ∧ n ≤ (tp.length : Nat))) (hq : Q (some (vI (-1))) h) : Cl G d 16 [vR (some (sX S)), vI n] h Q := by
  show Wp G d 16 0 [some (vR (some (sX S))), some (vI n)] [] h Q
  refine w_iload_n d16_0 rfl ?_
  refine w_iflt d16_1 (fun c1 => ?_) (fun c1 => ?_)
  · refine w_iconst d16_15 (by decide) ?_
    exact w_ireturn d16_16 hq
  · refine w_iload_n d16_4 rfl ?_
    refine w_aload_n d16_5 rfl ?_
    refine w_dloadS d16_6 (ok.kd ok.kX) (fr1280 ok ok.kX) ?_
    refine w_callv1 d16_9 (by omega) rfl (ok.kd (kT1280 ok ok.kX)) (by simp) (Nat.le_of_ble_eq_true rfl) ?_
    refine r_Row_size ok (kT1280 ok ok.kX) ?_
    rw [htp]
    refine w_icmple d16_12 (fun c12 => ?_) (fun c12 => ?_)
    · exact absurd ⟨by omega, c12⟩ q
    · refine w_iconst d16_15 (by decide) ?_
      exact w_ireturn d16_16 hq
theorem l_MaskN {n : Int} {m : Nat} (ok : Ok S h) (hm : sK S m = 14) (TP : TpR S h m tp) (q : ¬ (0 ≤ n ∧ n ≤ (tp.length : Nat))) (hq : Q (some (vI (-1))) h) : Cl G d 195 [vR (some m), vI n] h Q := by
  show Wp G d 195 0 [some (vR (some m)), some (vI n), none] [] h Q
  refine w_iload_n d195_0 rfl ?_
  refine w_iflt d195_1 (fun c1 => ?_) (fun c1 => ?_)
  · refine w_iconst d195_12 (by decide) ?_
    exact w_ireturn d195_13 hq
  · refine w_iload_n d195_4 rfl ?_
    refine w_aload_n d195_5 rfl ?_
    refine w_getI (x := ((tp.length : Nat) : Int)) d195_6 (ok.kd hm) TP.1 ?_
    refine w_icmple d195_9 (fun c9 => ?_) (fun c9 => ?_)
    · exact absurd ⟨by omega, c9⟩ q
    · refine w_iconst d195_12 (by decide) ?_
      exact w_ireturn d195_13 hq
theorem fB_le {fl : List (List Nat × List Nat)} {n : Nat} (h : ∀ i, i < fl.length → (fB fl i).length ≤ n) (i : Nat) : (fB fl i).length ≤ n := by
  rcases Nat.lt_or_ge i fl.length with q | q
  · exact h i q
  · unfold fB
    rw [List.getD_eq_getElem?_getD, List.getElem?_eq_none q]
    exact Nat.zero_le _
theorem fP_le {fl : List (List Nat × List Nat)} {n : Nat} (h : ∀ i, i < fl.length → (fP fl i).length ≤ n) (i : Nat) : (fP fl i).length ≤ n := by
  rcases Nat.lt_or_ge i fl.length with q | q
  · exact h i q
  · unfold fP
    rw [List.getD_eq_getElem?_getD, List.getElem?_eq_none q]
    exact Nat.zero_le _
theorem LvI.sx6 (I : LvI S h k v w b tp la) : six w.1 ∧ flB w.1.1 := by
  have NF := I.2.2.2.2.2.2.1.1
  exact ⟨six_of NF, fun i => Nat.le_trans (fB_le (n := 160) (fun j hj => (NF.1.2.2 j hj).2.2.2.2.1) i) (by decide)⟩
theorem LvI.len (I : LvI S h k v w b tp la) : lenP v := by
  have s6 := I.sx6.1
  obtain ⟨ok, D, B, e1, e2, e3, MR, cI, bI, ll⟩ := I
  have e12 : w.1.2 = v.1.2 := cI.2.1.1.1
  have pk := cI.2.2.1.1.2.2.1
  unfold six at s6
  rw [e12] at s6 pk
  obtain ⟨⟨⟨σ, -, -, -, f16, fi⟩, -, ⟨-, t14, ti⟩⟩, ⟨-, r20, -⟩, ⟨y, ⟨-, ⟨pt, -⟩, ⟨-, -, -, -, -, ⟨-, r14, -⟩, -⟩, -⟩, -⟩, -, -⟩ := D
  exact ⟨f16, fun i => ⟨fP_le (fun j hj => (fi j hj).2.2.2.1.1) i, fB_le (fun j hj => (fi j hj).2.2.2.2) i⟩, s6, pk, fun u hu => (ti u hu).2.2.2.1, fun t ht => ⟨(pt t ht).1.2.2.2.2.1, (pt t ht).1.2.2.2.2.2.1⟩, r14, r20⟩
theorem LvI.sol (I : LvI S h k v w b tp la) : solQ v.2.1 := sol_eq (VrC.rg I.2.1.2.1) I.2.1.2.1.2.1
theorem LvI.rt (I : LvI S h k v w b tp la) (n : Nat) : (rT (goR (goG (sePl v.2.2) (seNd v.2.2) 24 n (seGo v.2.2) (seOn v.2.2) (seSt v.2.2)).1)).length ≤ 600 := by
  obtain ⟨ok, D, B, e1, e2, e3, MR, cI, bI, ll⟩ := I
  have T := cI.2.1
  have ev : v.2.2.2 = w.2.2.2 := T.2.2.1
  have g1 : seGo v.2.2 = seGo w.2.2 := by unfold seGo; rw [ev]
  have g2 : seOn v.2.2 = seOn w.2.2 := by unfold seOn; rw [ev]
  have g3 : seSt v.2.2 = seSt w.2.2 := by unfold seSt; rw [ev]
  have g4 : seNd v.2.2 = seNd w.2.2 := by unfold seNd; rw [ev]
  have cl := cI.2.2.2.1
  rw [g1, g2, g3, g4]
  rcases T.2.2.2 with z | ⟨z, -⟩
  · rw [← z.eG]
    exact Nat.le_trans (goG_cl (nd := seNd w.2.2) (L := 24) (n := n) (g := seOn w.2.2) (k := seSt w.2.2) cI.2.2.1.2.1.1 cl).2.2.2 (by decide)
  · rw [z, goG_no]
    exact Nat.le_trans cl.2.2.2 (by decide)
theorem ask_len {l T : List Nat} {v' : HoS} {b' b0 : BkV} (I : LvI S h k v w b tp la) (A : askR 24 0 l v b0 v' b' T) : T.length ≤ 4000 := by
  rcases A with ⟨-, -, -, -, e⟩ | ⟨-, A⟩
  · rw [e]
    exact Nat.le_trans (dec_10 _) (by decide)
  · exact ansR_len I.len I.sol I.2.2.2.2.2.2.2.1.1.1.2.1 (I.rt _) A
theorem ask_bk {l T : List Nat} {v' : HoS} {b' : BkV} (I : LvI S h k v w b tp la) (A : askR 24 0 l v b v' b' T) : b'.2.1 ≤ 2048 ∧ b'.2.2.1 ≤ (b'.2.1 : Int) := by
  obtain ⟨ok, D, B, e1, e2, e3, MR, cI, bI, ll⟩ := I
  have z0 : ∀ t, (bk0 true t b).2.1 ≤ 2048 ∧ (bk0 true t b).2.2.1 ≤ ((bk0 true t b).2.1 : Int) := fun t => by
    unfold bk0
    split
    · exact ⟨Nat.zero_le _, by show (-1 : Int) ≤ ((0 : Nat) : Int); decide⟩
    · exact bI
  rcases A with ⟨-, -, -, e, -⟩ | ⟨-, A⟩
  · obtain ⟨m1, j, -, -, m4, -⟩ := md_tie (B := b.1) 2048 (a := 0) (n := 0) cI.no (Nat.zero_le _)
    have ee : (mdM b.1 2048 (mNo w) 0 0).2.1 = (mdS 24 b.1 2048 (hoNo v) 0 0).2.1 := by rw [m1]
    rw [e]
    exact ⟨by show (mdS 24 b.1 2048 (hoNo v) 0 0).2.1 ≤ 2048; omega, by show (-1 : Int) ≤ (((mdS 24 b.1 2048 (hoNo v) 0 0).2.1 : Nat) : Int); omega⟩
  · unfold ansR at A
    split at A
    · rw [A.2.1]; exact bI
    split at A
    · rw [A.2.1]; exact bI
    split at A
    · rw [A.2.1]; exact bI
    split at A
    · rw [A.2.1]; exact bI
    split at A
    · obtain ⟨-, sel, cu, -, -, e, -⟩ := A
      rw [e]
      split
      · exact bI
      · exact bI
    split at A
    · rename_i c
      rw [A.2.1]
      have c2 := c.2.2.2
      unfold bkW
      exact ⟨by show (bk0 true (qrT l) b).2.1 + l.length + 2 ≤ 2048; omega, by show (((bk0 true (qrT l) b).2.1 : Nat) : Int) ≤ (((bk0 true (qrT l) b).2.1 + l.length + 2 : Nat) : Int); omega⟩
    · rw [A.2.1]; exact z0 _
/-- what is to be told, for the reference's contract -/
theorem ap_of {l T : List Nat} {v' : HoS} {b' : BkV} (I : LvI S h k v w b tp la) (A : askR 24 0 l v b v' b' T) (ex : ∃ v0 b0 T0, askR 24 0 l v (b.1, b.2.1, b.2.2.1, false) v0 b0 T0) : ∃ T0, (qrR l = true → 12 < qrT l → qrT l ≤ 32 → asP w l v.1.1 T0) ∧ ∀ w' b2 T', anM w b l T0 w' b2 T' → anM w b l T w' b2 T' := by
  have cI := I.2.2.2.2.2.2.2.1
  by_cases c : qrR l = true ∧ 12 < qrT l ∧ qrT l ≤ 32
  · obtain ⟨c1, c2, c3⟩ := c
    by_cases sh : b.2.2.2 = true
    · obtain ⟨v0, b0, T0, A0⟩ := ex
      refine ⟨T0, fun er h12 h32 => ?_, fun w' b2 T' N => ?_⟩
      · rcases A0 with ⟨-, z, -⟩ | ⟨-, R⟩
        · omega
        · exact as_of cI I.sol er h12 h32 rfl R
      · unfold anM at N ⊢
        rw [if_neg (by rw [c1]; decide), if_pos ⟨sh, by omega, by omega⟩] at N ⊢
        exact N
    · refine ⟨T, fun er h12 h32 => ?_, fun w' b2 T' N => N⟩
      rcases A with ⟨-, z, -⟩ | ⟨-, R⟩
      · omega
      · exact as_of cI I.sol er h12 h32 (Bool.eq_false_iff.mpr sh) R
  · exact ⟨T, fun er h12 h32 => absurd ⟨er, h12, h32⟩ c, fun w' b2 T' N => N⟩
/-- the same house with its book open -/
theorem open_b (I : LvI S h k v w b tp la) : ∃ h', Ok S h' ∧ HoC S h' v ∧ BoV S h' (b.1, b.2.1, b.2.2.1, false) ∧ rl h' (sT S 1280 (sX S)) = tp ∧ rl h' (sT S 1281 (sX S)) = la ∧ cap h' (sT S 1281 (sX S)) = 4096 := by
  obtain ⟨ok, D, B, e1, e2, e3, MR, cI, bI, ll⟩ := I
  have kX := ok.kX
  have kb := kT1283 ok kX
  have m : Mo S (fun y => y = sT S 1283 (sX S)) h (sFI h 3 (sT S 1283 (sX S)) 0) := Mo.pFI ok (f := 3) (kb.trans (by decide)) (by decide) (by decide)
  have n : ∀ f, f ≠ 1283 → f < 4096 → ¬ sT S f (sX S) = sT S 1283 (sX S) := fun f hf h4 e => hf ((ok.so.inj h4 (by decide)).mp e).1
  refine ⟨_, m.2, HoC.f ok m (fun f f1 f2 z u e => apX ok.so (f := f) (g := 1283) (by omega) (by decide) (by omega) z u (e ▸ U_refl)) D, ⟨B.1.mo ok m kb (fun e => ?_), ?_, ?_, ?_⟩, (m.rb ok (kT1280 ok kX) (n 1280 (by decide) (by decide))).trans e1, (m.rb ok (kT1281 ok kX) (n 1281 (by decide) (by decide))).trans e2, ((m.cp ok (kT1281 ok kX)).2 (n 1281 (by decide) (by decide))).trans e3⟩
  · have := ok.so.ltT (f := 0) (a := sT S 1283 (sX S)) (by decide)
    omega
  · rw [FI_sFI, if_neg (fun z => absurd z.1 (by decide))]; exact B.2.1
  · rw [FI_sFI, if_neg (fun z => absurd z.1 (by decide))]; exact B.2.2.1
  · rw [FI_sFI, if_pos ⟨rfl, rfl⟩]; rfl
theorem ax_X (so : SOk S) {y : Nat} (u : U S (sM S) y) : ¬ (U S (sT S 1284 (sX S)) y ∨ U S (sT S 1285 (sX S)) y ∨ U S (sT S 1286 (sX S)) y ∨ U S (sT S 1287 (sX S)) y ∨ U S (sT S 1288 (sX S)) y ∨ U S (sT S 1283 (sX S)) y ∨ y = sT S 1281 (sX S) ∨ U S (sT S 1282 (sX S)) y ∨ y = sT S 1280 (sX S)) := by
  rintro (q | q | q | q | q | q | q | q | q)
  · exact U_XM so (by decide) q u
  · exact U_XM so (by decide) q u
  · exact U_XM so (by decide) q u
  · exact U_XM so (by decide) q u
  · exact U_XM so (by decide) q u
  · exact U_XM so (by decide) q u
  · exact U_XM so (f := 1281) (by decide) (q ▸ U_refl) u
  · exact U_XM so (by decide) q u
  · exact U_XM so (f := 1280) (by decide) (q ▸ U_refl) u
theorem l_ask {n : Int} (I : LvI S h k v w b tp la) (hk : k ≤ 49000) (tg : Tg S G) (s1 : stL S (sT S 1286 (sX S)) = 24) (s2 : stL S (sT S 1287 (sX S)) = 0) (h1 : 24 ≤ d) (kk : ∀ h1 y, Sam S G d 195 [vI n] k h h1 (vI y) → Q (some (vI y)) h1) : Cl G d 16 [vR (some (sX S)), vI n] h Q := by
  have six := I.sx6
  have J := I
  obtain ⟨ok, D, B, e1, e2, e3, MR, cI, bI, ll⟩ := I
  have hm := J.hm
  have tl := MR.2.2.2.2.1.2.1
  by_cases q : 0 ≤ n ∧ n ≤ (tp.length : Nat)
  · refine k_Ho_ask ok (by omega) tg D B cI.1 (by omega) (by omega) e1 tl (fun z => absurd q z) (fun h2 v1 b1 T m1 D1 B1 _ et el ec A => kk h2 _ ⟨m1.2, m1.rmm, fun Q' q' => ?_⟩)
    have ok1 : Ok S h2 := m1.2
    rw [s1, s2] at A
    have tlen := ask_len J A
    have eT0 : addBs (cap h (sT S 1281 (sX S))) [] T = T := addBs_lat (by omega) (by omega)
    rw [eT0] at el
    have MR1 : MoR S h2 (sM S) w b tp la := MR.q ok m1 hm (fun y u => ax_X ok.so u)
    obtain ⟨NF, RS, SX, BO, TP, TE, NI, ⟨l0, RQ⟩, bu, FO⟩ := MR1
    have ex : ∃ v0 b0 T0, askR 24 0 (tp.take n.toNat) v (b.1, b.2.1, b.2.2.1, false) v0 b0 T0 := by
      obtain ⟨h', o1, o2, o3, o4, o5, o6⟩ := open_b J
      have r := k_Ho_ask (G := G) (d := d) (Q := fun _ _ => ∃ v0 b0 T0, askR 24 0 (tp.take n.toNat) v (b.1, b.2.1, b.2.2.1, false) v0 b0 T0) (n := n) o1 (by omega) tg o2 o3 cI.1 (by omega) (by omega) o4 tl (fun z => absurd q z) (fun h3 v3 b3 T3 _ _ _ _ _ _ _ A3 => ⟨v3, b3, T3, by rw [s1, s2] at A3; exact A3⟩)
      obtain ⟨_, _, _, -, z⟩ := r
      exact z
    obtain ⟨T0, AP, cv⟩ := ap_of J A ex
    refine k_M_ask (T0 := T0) (fl := v.1.1) (k := k) ok1 h1 hm NF RS SX BO TP TE NI RQ FO tg (cI.m (by omega) bI) AP (fun z => absurd q z) (fun h3 w3 b3 T3 fr MR3 N => ?_)
    obtain ⟨⟨j, jl, cI3⟩, eb, eT⟩ := an_tie cI A (anw_of cI six.1 six.2) (cv _ _ _ N)
    have e20 : addBs 20000 [] T = T := addBs_fit (by simp only [List.length_nil]; omega)
    rw [eT, e20] at MR3 ⊢
    rw [eb] at MR3
    obtain ⟨x1, x2, x3, x4, x5⟩ := cl_x fr (by decide) D1 B1
    rw [← el]
    refine q' h3 (k + j) v1 w3 b1 [] T (by omega) ⟨fr.ok, x1, x2, x3.trans et, x4.trans el, x5.trans (ec.trans e3), MR3, cI3, ask_bk J A, by omega⟩ (m1.rmm.tr fr.mo.rmm)
  · exact l_askN ok h1 e1 q (kk h (-1) ⟨ok, Rmm.refl, fun Q' q' => l_MaskN ok hm MR.2.2.2.2.1 q (q' h k v w b tp la (by omega) J Rmm.refl)⟩)
theorem l_disp (I : LvI S h k v w b tp la) (hk : k ≤ 49000) (tg : Tg S G) (s1 : stL S (sT S 1286 (sX S)) = 24) (s2 : stL S (sT S 1287 (sX S)) = 0) (h1 : 24 ≤ d) (kk : ∀ h1 y, Sam S G d 335 [] k h h1 (vI y) → Q (some (vI y)) h1) : Cl G d 180 [vR (some (sX S))] h Q := by
  have six := I.sx6
  have J := I
  obtain ⟨ok, D, B, e1, e2, e3, MR, cI, bI, ll⟩ := I
  have hm := J.hm
  have tl := MR.2.2.2.2.1.2.1
  have ev : vw 32 = txt 43 := by decide +kernel
  have both : ∀ {h : Hp} {b : BkV} {Q : Option MV → Hp → Prop} (ok : Ok S h) (D : HoC S h v) (B : BoV S h b) (e1 : rl h (sT S 1280 (sX S)) = tp) (e2 : rl h (sT S 1281 (sX S)) = la) (e3 : cap h (sT S 1281 (sX S)) = 4096) (kk : ∀ h' v' b' T, Mo S (fun z => U S (sT S 1284 (sX S)) z ∨ U S (sT S 1285 (sX S)) z ∨ U S (sT S 1286 (sX S)) z ∨ U S (sT S 1287 (sX S)) z ∨ U S (sT S 1288 (sX S)) z ∨ U S (sT S 1283 (sX S)) z ∨ z = sT S 1281 (sX S) ∨ U S (sT S 1282 (sX S)) z ∨ z = sT S 1280 (sX S)) h h' → HoC S h' v' → BoV S h' b' → rl h' (sT S 1280 (sX S)) = tp → rl h' (sT S 1281 (sX S)) = addBs (cap h (sT S 1281 (sX S))) [] T → cap h' (sT S 1281 (sX S)) = cap h (sT S 1281 (sX S)) → askR 24 0 (vw 32 ++ la) v b v' b' T → Q (some (vI (((rl h' (sT S 1281 (sX S))).length : Nat) : Int))) h'), Cl G d 180 [vR (some (sX S))] h Q := fun {h b Q} ok D B e1 e2 e3 kk => by
    cases er : qrR (vw 32 ++ la) with
    | false => exact k_Ho_disproveW ok (by omega) tg D B cI.1 (by omega) (by omega) e1 e2 ll er (fun h' v' b' T m D1 B1 _ et el ec A => kk h' v' b' T m D1 B1 et el ec (by rw [s1, s2] at A; exact A))
    | true => exact k_Ho_disproveR ok (by omega) tg D B cI.1 (by omega) (by omega) e1 e2 ll er (fun h' v' b' T m D1 B1 _ et el ec A => kk h' v' b' T m D1 B1 et el ec (by rw [s1, s2] at A; exact A))
  refine both ok D B e1 e2 e3 (fun h2 v1 b1 T m1 D1 B1 et el ec A => kk h2 _ ⟨m1.2, m1.rmm, fun Q' q' => ?_⟩)
  have ok1 : Ok S h2 := m1.2
  have tlen := ask_len J A
  have eT0 : addBs (cap h (sT S 1281 (sX S))) [] T = T := addBs_lat (by omega) (by omega)
  rw [eT0] at el
  have MR1 : MoR S h2 (sM S) w b tp la := MR.q ok m1 hm (fun y u => ax_X ok.so u)
  obtain ⟨NF, RS, SX, BO, TP, TE, NI, ⟨l0, RQ⟩, bu, FO⟩ := MR1
  have ex : ∃ v0 b0 T0, askR 24 0 (vw 32 ++ la) v (b.1, b.2.1, b.2.2.1, false) v0 b0 T0 := by
    obtain ⟨h', o1, o2, o3, o4, o5, o6⟩ := open_b J
    have r := both (Q := fun _ _ => ∃ v0 b0 T0, askR 24 0 (vw 32 ++ la) v (b.1, b.2.1, b.2.2.1, false) v0 b0 T0) o1 o2 o3 o4 o5 o6 (fun h3 v3 b3 T3 _ _ _ _ _ _ A3 => ⟨v3, b3, T3, A3⟩)
    obtain ⟨_, _, _, -, z⟩ := r
    exact z
  obtain ⟨T0, AP, cv⟩ := ap_of J A ex
  rw [ev] at AP cv
  refine k_M_disproveAnswer (T0 := T0) (fl := v.1.1) (k := k) ok1 h1 hm NF RS SX BO TP TE NI RQ FO tg ll (cI.m (by omega) bI) AP (fun h3 w3 b3 T3 fr MR3 N => ?_)
  have A' := A
  rw [ev] at A'
  obtain ⟨⟨j, jl, cI3⟩, eb, eT⟩ := an_tie cI A' (anw_of cI six.1 six.2) (cv _ _ _ N)
  have e20 : addBs 20000 [] T = T := addBs_fit (by simp only [List.length_nil]; omega)
  rw [eT, e20] at MR3 ⊢
  rw [eb] at MR3
  obtain ⟨x1, x2, x3, x4, x5⟩ := cl_x fr (by decide) D1 B1
  rw [← el]
  exact q' h3 (k + j) v1 w3 b1 tp T (by omega) ⟨fr.ok, x1, x2, x3.trans et, x4.trans el, x5.trans (ec.trans e3), MR3, cI3, ask_bk J A, by omega⟩ (m1.rmm.tr fr.mo.rmm)
end LAWA
