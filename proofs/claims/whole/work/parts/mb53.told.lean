/-! the reference: a target is told -/
section TLD
variable {S : Shp} {m : Nat} {F : List Nat} {h h' : Hp}
theorem RuS {f e : Nat} (fr : Fr S (sT S 1664 m) F h h') (hm : sK S m = 14) (D : RuR h m f e) (hF : ltF4 F := by decide) : RuR h' m f e := D.r (fr.sub hm hF) hm
theorem WoS {f e : Nat} (fr : Fr S (sT S 1664 m) F h h') (hm : sK S m = 14) (D : WoR h m f e) (hF : ltF4 F := by decide) : WoR h' m f e := D.r (fr.sub hm hF) hm
theorem InS {l : List Nat} {xs : List InV} (fr : Fr S (sT S 1664 m) F h h') (hm : sK S m = 14) (D : InA S h m l xs) (hF : ltF4 F := by decide) : InA S h' m l xs := D.r (fr.sub hm hF) hm
/-- a condition of a request -/
def CdS (S : Shp) (h : Hp) (m : Nat) (cb : Bool) (ff ft : Nat) (c : List Nat) (k : Nat) : Prop := cb = true → FgR h m ff ft ∧ ff + c.length = ft ∧ SgC S h (sT S 1730 m) ff c ∧ AI h (sT S 1741 m) 0 = ((k : Nat) : Int)
theorem CdS.s {cb : Bool} {ff ft k : Nat} {c : List Nat} (fr : Fr S (sT S 1664 m) F h h') (hm : sK S m = 14) (D : CdS S h m cb ff ft c k) (hF : ltF4 F := by decide) : CdS S h' m cb ff ft c k := fun q => by
  obtain ⟨a, b, c, e⟩ := D q
  have f2 := fr.sub hm hF
  exact ⟨a.r f2 hm, b, SgC.s fr hm c hF, by rw [f2.ai (by have := kT1741 fr.1 hm; omega) (by decide) (by decide) (by decide)]; exact e⟩
end TLD
/-- targets' names -/
def DTn (S : Shp) (h : Hp) (d : Nat) (ts : List (Bool × TgV)) : Prop := FI h 1417 d = ts.length ∧ ts.length ≤ 14 ∧ ∀ i, i < ts.length → AI h (sT S 1419 d) i = (tgN (tD ts i)).length ∧ (tgN (tD ts i)).length ≤ 8 ∧ SgC S h (sT S 1418 d) (8 * i) (tgN (tD ts i))
theorem DTn.r {S : Shp} {d : Nat} {F : List Nat} {h h' : Hp} {ts : List (Bool × TgV)} (fr : Fr S d F h h') (hd : sK S d = 12) (D : DTn S h d ts) (h1 : 1417 ∉ F ∧ 1418 ∉ F ∧ 1419 ∉ F ∧ ltF4 F := by decide) : DTn S h' d ts := by
  obtain ⟨q1, q2, q3, q5⟩ := h1
  refine ⟨(fr.i 1417 q1).trans D.1, D.2.1, fun i hi => ?_⟩
  obtain ⟨a1, a2, a3⟩ := D.2.2 i hi
  exact ⟨by rw [fr.ai (by have := kT1419 fr.1 hd; omega) (by decide) q3 q5]; exact a1, a2, fr.sg (by decide) q2 q5 a3⟩
theorem DTs.n {S : Shp} {d : Nat} {h : Hp} {ts : List (Bool × TgV)} (D : DTs S h d ts) : DTn S h d ts := ⟨D.1, D.2.1, fun i hi => by obtain ⟨a1, a2, a3, a4⟩ := D.2.2 i hi; exact ⟨a1, a2, a3⟩⟩
/-- where the target goes -/
def tsJ (ts tq : List (Bool × TgV)) (D : TgV) (i : Nat) : Prop := i < tq.length ∧ tgN (tD tq i) = tgN D ∧ tsPut ts D = tq.set i (true, D) ∧ ∀ j, j < tq.length → j ≠ i → j < ts.length ∧ tH tq j = tH ts j ∧ tD tq j = tD ts j
theorem tsJ_old {ts : List (Bool × TgV)} {D : TgV} {j : Nat} (h : tix ts (tgN D) = (j : Int)) : tsJ ts ts D j := by
  have r := tix_rg ts (tgN D)
  obtain ⟨n1, n2⟩ := tix_name h
  refine ⟨n2, n1, ?_, fun k h1 _ => ⟨h1, rfl, rfl⟩⟩
  unfold tsPut
  rw [if_neg (by omega), h, Int.toNat_natCast]
theorem tsJ_new {ts : List (Bool × TgV)} {D : TgV} (h : tix ts (tgN D) < 0) : tsJ ts (ts ++ [(false, (tgN D, [], [], [], [], 0))]) D ts.length := by
  have l : (ts ++ [(false, ((tgN D, [], [], [], [], 0) : TgV))]).length = ts.length + 1 := by rw [List.length_append]; rfl
  refine ⟨by omega, by rw [(tH_snoc _ _ _).2, if_pos rfl]; rfl, ?_, fun k h1 h2 => ⟨by omega, by rw [(tH_snoc _ _ _).1, if_neg h2], by rw [(tH_snoc _ _ _).2, if_neg h2]⟩⟩
  unfold tsPut
  rw [if_pos h]
  simp
theorem DTn.add {S : Shp} {d : Nat} {h h' : Hp} {ts : List (Bool × TgV)} {D : TgV} (ok : Ok S h') (hd : sK S d = 12) (DN : DTn S h d ts) (h6 : ts.length < 14) (h8 : (tgN D).length ≤ 8) (C : FI h' 1417 d = ((ts.length + 1 : Nat) : Int)) (U15 : ArU S h' d 1419 (fun j => if j = ts.length then (((tgN D).length : Nat) : Int) else AI h (sT S 1419 d) j)) (U14 : ArU S h' d 1418 (cpF (AI h (sT S 1418 d)) (8 * ts.length) (tgN D).length (tgN D))) : DTn S h' d (ts ++ [(false, (tgN D, [], [], [], [], 0))]) := by
  have l : (ts ++ [(false, ((tgN D, [], [], [], [], 0) : TgV))]).length = ts.length + 1 := by rw [List.length_append]; rfl
  refine ⟨by rw [l]; exact C, by omega, fun i hi => ?_⟩
  rw [l] at hi
  rw [(tH_snoc _ _ _).2]
  by_cases q : i = ts.length
  · rw [if_pos q, U15 i]
    dsimp only
    rw [if_pos q, q]
    exact ⟨rfl, h8, SgC.cpF U14 (kT1418 ok hd) (by rw [sLD ok hd]; show 8 * ts.length + (tgN D).length ≤ 112; omega) (by rw [sLD ok hd]; decide)⟩
  · rw [if_neg q, U15 i]
    dsimp only
    rw [if_neg q]
    obtain ⟨a1, a2, a3⟩ := DN.2.2 i (by omega)
    refine ⟨a1, a2, a3.fn (fun j hj => ?_)⟩
    rw [U14 (8 * i + j)]
    exact if_neg (by omega)
/-- k numbers of a list's written from b on -/
def maF (g : Nat → Int) (b k : Nat) (v : Nat → Int) : Nat → Int := fun j => if b ≤ j ∧ j < b + k then v (j - b) else g j
theorem maF_0 {g v : Nat → Int} {b : Nat} : maF g b 0 v = g := by
  funext j
  unfold maF
  rw [if_neg (by omega)]
theorem maF_s {g v : Nat → Int} {b k i : Nat} : maF g b (k + 1) v i = if i = b + k then v k else maF g b k v i := by
  unfold maF
  by_cases q : i = b + k
  · rw [if_pos q, if_pos (by omega), show i - b = k by omega]
  · rw [if_neg q]
    by_cases z : b ≤ i ∧ i < b + k
    · rw [if_pos z, if_pos (by omega)]
    · rw [if_neg z, if_neg (by omega)]
/-- the names of the first k inputs written -/
def inF (g : Nat → Int) (i : Nat) (I : List InV) : Nat → Nat → Int
  | 0 => g
  | k + 1 => cpF (inF g i I k) (12 * (6 * i + k)) (inN I k).length (inN I k)
theorem inF_out {g : Nat → Int} {i : Nat} {I : List InV} {p : Nat} : ∀ {k : Nat}, k ≤ 6 → (∀ j, j < k → (inN I j).length ≤ 12) → (p < 72 * i ∨ 72 * i + 72 ≤ p) → inF g i I k p = g p
  | 0, _, _, _ => rfl
  | k + 1, hk, hl, hp => by
    rw [inF]
    have := hl k (by omega)
    unfold cpF
    rw [if_neg (by omega)]
    exact inF_out (by omega) (fun j hj => hl j (by omega)) hp
theorem inF_in {g : Nat → Int} {i : Nat} {I : List InV} {j p : Nat} : ∀ {k : Nat}, (∀ j, j < k → (inN I j).length ≤ 12) → j < k → p < (inN I j).length → inF g i I k (12 * (6 * i + j) + p) = (((inN I j).getD p 0 : Nat) : Int)
  | 0, _, h, _ => absurd h (Nat.not_lt_zero _)
  | k + 1, hl, h, hp => by
    rw [inF]
    have l1 := hl j h
    have l2 := hl k (by omega)
    by_cases q : j = k
    · subst q
      unfold cpF
      rw [if_pos ⟨by omega, by omega⟩, Nat.add_sub_cancel_left]
    · unfold cpF
      rw [if_neg (by omega)]
      exact inF_in (fun j hj => hl j (by omega)) (by omega) hp
theorem SgC.u {S : Shp} {d f b : Nat} {h : Hp} {g : Nat → Int} {l : List Nat} (U : ArU S h d f g) (hg : ∀ j, j < l.length → g (b + j) = ((l.getD j 0 : Nat) : Int)) (hk : sK S (sT S f d) = 40) (hl : b + l.length ≤ sL S (sT S f d)) (h5 : sL S (sT S f d) ≤ 100000) : SgC S h (sT S f d) b l := ⟨hk, hl, h5, fun i hi => (U (b + i)).trans (hg i hi)⟩
/-- all of a target written -/
theorem tsJ_end {S : Shp} {d i : Nat} {h h' : Hp} {ts tq : List (Bool × TgV)} {D : TgV} (ok : Ok S h') (hd : sK S d = 12) (J : tsJ ts tq D i) (DN : DTn S h' d tq) (DT : DTs S h d ts) (hr : 0 ≤ rix (tgR D)) (hw : (tgW D).length ≤ 8) (hi6 : (tgI D).length ≤ 6) (hin : ∀ k, k < (tgI D).length → (inN (tgI D) k).length ≤ 12) (hc : (tgC D).length ≤ 8) (hk : tgK D ≤ 9999)
    (U20 : ArU S h' d 1420 (fun j => if j = i then 1 else AI h (sT S 1420 d) j)) (U21 : ArU S h' d 1421 (fun j => if j = i then rix (tgR D) else AI h (sT S 1421 d) j)) (U23 : ArU S h' d 1423 (fun j => if j = i then (((tgW D).length : Nat) : Int) else AI h (sT S 1423 d) j)) (U22 : ArU S h' d 1422 (cpF (AI h (sT S 1422 d)) (8 * i) (tgW D).length (tgW D)))
    (U24 : ArU S h' d 1424 (fun j => if j = i then (((tgI D).length : Nat) : Int) else AI h (sT S 1424 d) j)) (U25 : ArU S h' d 1425 (maF (AI h (sT S 1425 d)) (6 * i) (tgI D).length (fun k => b2i (inB (tgI D) k)))) (U27 : ArU S h' d 1427 (maF (AI h (sT S 1427 d)) (6 * i) (tgI D).length (fun k => (((inN (tgI D) k).length : Nat) : Int)))) (U26 : ArU S h' d 1426 (inF (AI h (sT S 1426 d)) i (tgI D) (tgI D).length))
    (U29 : ArU S h' d 1429 (fun j => if j = i then (((tgC D).length : Nat) : Int) else AI h (sT S 1429 d) j)) (U28 : ArU S h' d 1428 (cpF (AI h (sT S 1428 d)) (8 * i) (tgC D).length (tgC D))) (U30 : ArU S h' d 1430 (fun j => if j = i then ((tgK D : Nat) : Int) else AI h (sT S 1430 d) j)) : DTs S h' d (tsPut ts D) := by
  obtain ⟨j1, j2, j3, j4⟩ := J
  have h14 := DN.2.1
  rw [j3]
  refine ⟨by rw [List.length_set]; exact DN.1, by rw [List.length_set]; exact DN.2.1, fun k hk2 => ?_⟩
  rw [List.length_set] at hk2
  obtain ⟨n1, n2, n3⟩ := DN.2.2 k hk2
  rw [(tH_set _ _ _ _ j1).1, (tH_set _ _ _ _ j1).2]
  by_cases q : k = i
  · subst q
    rw [if_pos rfl, if_pos rfl]
    rw [j2] at n1 n2 n3
    refine ⟨n1, n2, n3, (U20 k).trans (if_pos rfl), (U21 k).trans (if_pos rfl), hr, (U23 k).trans (if_pos rfl), hw, SgC.cpF U22 (kT1422 ok hd) (by rw [sLD ok hd]; show 8 * k + (tgW D).length ≤ 112; omega) (by rw [sLD ok hd]; decide), (U24 k).trans (if_pos rfl), hi6, fun z hz => ?_, (U29 k).trans (if_pos rfl), hc, SgC.cpF U28 (kT1428 ok hd) (by rw [sLD ok hd]; show 8 * k + (tgC D).length ≤ 112; omega) (by rw [sLD ok hd]; decide), (U30 k).trans (if_pos rfl), hk⟩
    have hz : z < (tgI D).length := hz
    have hl := hin z hz
    refine ⟨?_, ?_, hl, SgC.u U26 (fun j hj => inF_in hin hz hj) (kT1426 ok hd) (by rw [sLD ok hd]; show 12 * (6 * k + z) + (inN (tgI D) z).length ≤ 1008; omega) (by rw [sLD ok hd]; decide)⟩
    · rw [U25 (6 * k + z)]
      show (if 6 * k ≤ 6 * k + z ∧ 6 * k + z < 6 * k + (tgI D).length then b2i (inB (tgI D) (6 * k + z - 6 * k)) else _) = _
      rw [if_pos ⟨by omega, by omega⟩, Nat.add_sub_cancel_left]
    · rw [U27 (6 * k + z)]
      show (if 6 * k ≤ 6 * k + z ∧ 6 * k + z < 6 * k + (tgI D).length then (((inN (tgI D) (6 * k + z - 6 * k)).length : Nat) : Int) else _) = _
      rw [if_pos ⟨by omega, by omega⟩, Nat.add_sub_cancel_left]
  · obtain ⟨z1, z2, z3⟩ := j4 k hk2 q
    rw [if_neg q, if_neg q, z2, z3]
    rw [z3] at n1 n2 n3
    obtain ⟨a1, a2, a3, a4, a5, a6, a7, a8, a9, a10, a11, a12, a13, a14, a15, a16, a17⟩ := DT.2.2 k z1
    refine ⟨n1, n2, n3, ((U20 k).trans (if_neg q)).trans a4, ((U21 k).trans (if_neg q)).trans a5, a6, ((U23 k).trans (if_neg q)).trans a7, a8, a9.fn (fun j hj => by rw [U22 (8 * k + j)]; exact if_neg (by omega)), ((U24 k).trans (if_neg q)).trans a10, a11, fun z hz => ?_, ((U29 k).trans (if_neg q)).trans a13, a14, a15.fn (fun j hj => by rw [U28 (8 * k + j)]; exact if_neg (by omega)), ((U30 k).trans (if_neg q)).trans a16, a17⟩
    obtain ⟨b1, b2, b3, b4⟩ := a12 z hz
    exact ⟨((U25 (6 * k + z)).trans (if_neg (by omega))).trans b1, ((U27 (6 * k + z)).trans (if_neg (by omega))).trans b2, b3, b4.fn (fun j hj => by rw [U26 (12 * (6 * k + z) + j)]; exact inF_out hi6 hin (by omega))⟩
theorem AxS {S : Shp} {m k x : Nat} {F : List Nat} {h h' : Hp} (fr : Fr S (sT S 1664 m) F h h') (hm : sK S m = 14) (D : AI h (sT S 1754 m) k = ((x : Nat) : Int)) (hF : ltF4 F := by decide) : AI h' (sT S 1754 m) k = ((x : Nat) : Int) := by
  rw [(fr.sub hm hF).ai (by have := kT1754 fr.1 hm; omega) (by decide) (by decide) (by decide)]
  exact D
theorem d241_0 : dc 241 0 = some (.aload_n 0, 1) := by decide +kernel
theorem d241_1 : dc 241 1 = some (.getfield 1743, 4) := by decide +kernel
theorem d241_4 : dc 241 4 = some (.aload_n 0, 5) := by decide +kernel
theorem d241_5 : dc 241 5 = some (.getfield 1742, 8) := by decide +kernel
theorem d241_8 : dc 241 8 = some (.isub, 9) := by decide +kernel
theorem d241_9 : dc 241 9 = some (.istore_n 1, 10) := by decide +kernel
theorem d241_10 : dc 241 10 = some (.aload_n 0, 11) := by decide +kernel
theorem d241_11 : dc 241 11 = some (.aload_n 0, 12) := by decide +kernel
theorem d241_12 : dc 241 12 = some (.getfield 1742, 15) := by decide +kernel
theorem d241_15 : dc 241 15 = some (.aload_n 0, 16) := by decide +kernel
theorem d241_16 : dc 241 16 = some (.getfield 1743, 19) := by decide +kernel
theorem d241_19 : dc 241 19 = some (.invokevirtual 222, 22) := by decide +kernel
theorem d241_22 : dc 241 22 = some (.istore_n 2, 23) := by decide +kernel
theorem d241_23 : dc 241 23 = some (.iload_n 2, 24) := by decide +kernel
theorem d241_24 : dc 241 24 = some (.ifCond .ge ((96 : Nat) : Int), 27) := by decide +kernel
theorem d241_27 : dc 241 27 = some (.aload_n 0, 28) := by decide +kernel
theorem d241_28 : dc 241 28 = some (.dload 1664, 31) := by decide +kernel
theorem d241_31 : dc 241 31 = some (.getfield 1417, 34) := by decide +kernel
theorem d241_34 : dc 241 34 = some (.istore_n 2, 35) := by decide +kernel
theorem d241_35 : dc 241 35 = some (.aload_n 0, 36) := by decide +kernel
theorem d241_36 : dc 241 36 = some (.dload 1664, 39) := by decide +kernel
theorem d241_39 : dc 241 39 = some (.dup, 40) := by decide +kernel
theorem d241_40 : dc 241 40 = some (.getfield 1417, 43) := by decide +kernel
theorem d241_43 : dc 241 43 = some (.iconst 1, 44) := by decide +kernel
theorem d241_44 : dc 241 44 = some (.iadd, 45) := by decide +kernel
theorem d241_45 : dc 241 45 = some (.putfield 1417, 48) := by decide +kernel
theorem d241_48 : dc 241 48 = some (.aload_n 0, 49) := by decide +kernel
theorem d241_49 : dc 241 49 = some (.dload 1664, 52) := by decide +kernel
theorem d241_52 : dc 241 52 = some (.dload 1419, 55) := by decide +kernel
theorem d241_55 : dc 241 55 = some (.iload_n 2, 56) := by decide +kernel
theorem d241_56 : dc 241 56 = some (.iload_n 1, 57) := by decide +kernel
theorem d241_57 : dc 241 57 = some (.iastore, 58) := by decide +kernel
theorem d241_58 : dc 241 58 = some (.iconst 0, 59) := by decide +kernel
theorem d241_59 : dc 241 59 = some (.istore_n 3, 60) := by decide +kernel
theorem d241_60 : dc 241 60 = some (.iload_n 3, 61) := by decide +kernel
theorem d241_61 : dc 241 61 = some (.iload_n 1, 62) := by decide +kernel
theorem d241_62 : dc 241 62 = some (.if_icmp .ge ((96 : Nat) : Int), 65) := by decide +kernel
theorem d241_65 : dc 241 65 = some (.aload_n 0, 66) := by decide +kernel
theorem d241_66 : dc 241 66 = some (.dload 1664, 69) := by decide +kernel
theorem d241_69 : dc 241 69 = some (.dload 1418, 72) := by decide +kernel
theorem d241_72 : dc 241 72 = some (.bipush 8, 74) := by decide +kernel
theorem d241_74 : dc 241 74 = some (.iload_n 2, 75) := by decide +kernel
theorem d241_75 : dc 241 75 = some (.imul, 76) := by decide +kernel
theorem d241_76 : dc 241 76 = some (.iload_n 3, 77) := by decide +kernel
theorem d241_77 : dc 241 77 = some (.iadd, 78) := by decide +kernel
theorem d241_78 : dc 241 78 = some (.aload_n 0, 79) := by decide +kernel
theorem d241_79 : dc 241 79 = some (.dload 1730, 82) := by decide +kernel
theorem d241_82 : dc 241 82 = some (.aload_n 0, 83) := by decide +kernel
theorem d241_83 : dc 241 83 = some (.getfield 1742, 86) := by decide +kernel
theorem d241_86 : dc 241 86 = some (.iload_n 3, 87) := by decide +kernel
theorem d241_87 : dc 241 87 = some (.iadd, 88) := by decide +kernel
theorem d241_88 : dc 241 88 = some (.iaload, 89) := by decide +kernel
theorem d241_89 : dc 241 89 = some (.iastore, 90) := by decide +kernel
theorem d241_90 : dc 241 90 = some (.iinc 3 1, 93) := by decide +kernel
theorem d241_93 : dc 241 93 = some (.goto ((60 : Nat) : Int), 96) := by decide +kernel
theorem d241_96 : dc 241 96 = some (.aload_n 0, 97) := by decide +kernel
theorem d241_97 : dc 241 97 = some (.dload 1664, 100) := by decide +kernel
theorem d241_100 : dc 241 100 = some (.dload 1420, 103) := by decide +kernel
theorem d241_103 : dc 241 103 = some (.iload_n 2, 104) := by decide +kernel
theorem d241_104 : dc 241 104 = some (.iconst 1, 105) := by decide +kernel
theorem d241_105 : dc 241 105 = some (.bastore, 106) := by decide +kernel
theorem d241_106 : dc 241 106 = some (.aload_n 0, 107) := by decide +kernel
theorem d241_107 : dc 241 107 = some (.dload 1664, 110) := by decide +kernel
theorem d241_110 : dc 241 110 = some (.dload 1421, 113) := by decide +kernel
theorem d241_113 : dc 241 113 = some (.iload_n 2, 114) := by decide +kernel
theorem d241_114 : dc 241 114 = some (.aload_n 0, 115) := by decide +kernel
theorem d241_115 : dc 241 115 = some (.invokevirtual 227, 118) := by decide +kernel
theorem d241_118 : dc 241 118 = some (.iastore, 119) := by decide +kernel
theorem d241_119 : dc 241 119 = some (.aload_n 0, 120) := by decide +kernel
theorem d241_120 : dc 241 120 = some (.dload 1664, 123) := by decide +kernel
theorem d241_123 : dc 241 123 = some (.dload 1423, 126) := by decide +kernel
theorem d241_126 : dc 241 126 = some (.iload_n 2, 127) := by decide +kernel
theorem d241_127 : dc 241 127 = some (.aload_n 0, 128) := by decide +kernel
theorem d241_128 : dc 241 128 = some (.getfield 1751, 131) := by decide +kernel
theorem d241_131 : dc 241 131 = some (.aload_n 0, 132) := by decide +kernel
theorem d241_132 : dc 241 132 = some (.getfield 1750, 135) := by decide +kernel
theorem d241_135 : dc 241 135 = some (.isub, 136) := by decide +kernel
theorem d241_136 : dc 241 136 = some (.iastore, 137) := by decide +kernel
theorem d241_137 : dc 241 137 = some (.iconst 0, 138) := by decide +kernel
theorem d241_138 : dc 241 138 = some (.istore_n 3, 139) := by decide +kernel
theorem d241_139 : dc 241 139 = some (.iload_n 3, 140) := by decide +kernel
theorem d241_140 : dc 241 140 = some (.aload_n 0, 141) := by decide +kernel
theorem d241_141 : dc 241 141 = some (.dload 1664, 144) := by decide +kernel
theorem d241_144 : dc 241 144 = some (.dload 1423, 147) := by decide +kernel
theorem d241_147 : dc 241 147 = some (.iload_n 2, 148) := by decide +kernel
theorem d241_148 : dc 241 148 = some (.iaload, 149) := by decide +kernel
theorem d241_149 : dc 241 149 = some (.if_icmp .ge ((183 : Nat) : Int), 152) := by decide +kernel
theorem d241_152 : dc 241 152 = some (.aload_n 0, 153) := by decide +kernel
theorem d241_153 : dc 241 153 = some (.dload 1664, 156) := by decide +kernel
theorem d241_156 : dc 241 156 = some (.dload 1422, 159) := by decide +kernel
theorem d241_159 : dc 241 159 = some (.bipush 8, 161) := by decide +kernel
theorem d241_161 : dc 241 161 = some (.iload_n 2, 162) := by decide +kernel
theorem d241_162 : dc 241 162 = some (.imul, 163) := by decide +kernel
theorem d241_163 : dc 241 163 = some (.iload_n 3, 164) := by decide +kernel
theorem d241_164 : dc 241 164 = some (.iadd, 165) := by decide +kernel
theorem d241_165 : dc 241 165 = some (.aload_n 0, 166) := by decide +kernel
theorem d241_166 : dc 241 166 = some (.dload 1730, 169) := by decide +kernel
theorem d241_169 : dc 241 169 = some (.aload_n 0, 170) := by decide +kernel
theorem d241_170 : dc 241 170 = some (.getfield 1750, 173) := by decide +kernel
theorem d241_173 : dc 241 173 = some (.iload_n 3, 174) := by decide +kernel
theorem d241_174 : dc 241 174 = some (.iadd, 175) := by decide +kernel
theorem d241_175 : dc 241 175 = some (.iaload, 176) := by decide +kernel
theorem d241_176 : dc 241 176 = some (.iastore, 177) := by decide +kernel
theorem d241_177 : dc 241 177 = some (.iinc 3 1, 180) := by decide +kernel
theorem d241_180 : dc 241 180 = some (.goto ((139 : Nat) : Int), 183) := by decide +kernel
theorem d241_183 : dc 241 183 = some (.aload_n 0, 184) := by decide +kernel
theorem d241_184 : dc 241 184 = some (.dload 1664, 187) := by decide +kernel
theorem d241_187 : dc 241 187 = some (.dload 1424, 190) := by decide +kernel
theorem d241_190 : dc 241 190 = some (.iload_n 2, 191) := by decide +kernel
theorem d241_191 : dc 241 191 = some (.aload_n 0, 192) := by decide +kernel
theorem d241_192 : dc 241 192 = some (.getfield 1752, 195) := by decide +kernel
theorem d241_195 : dc 241 195 = some (.iastore, 196) := by decide +kernel
theorem d241_196 : dc 241 196 = some (.iconst 0, 197) := by decide +kernel
theorem d241_197 : dc 241 197 = some (.istore_n 3, 198) := by decide +kernel
theorem d241_198 : dc 241 198 = some (.iload_n 3, 199) := by decide +kernel
theorem d241_199 : dc 241 199 = some (.aload_n 0, 200) := by decide +kernel
theorem d241_200 : dc 241 200 = some (.getfield 1752, 203) := by decide +kernel
theorem d241_203 : dc 241 203 = some (.if_icmp .ge ((313 : Nat) : Int), 206) := by decide +kernel
theorem d241_206 : dc 241 206 = some (.bipush 6, 208) := by decide +kernel
theorem d241_208 : dc 241 208 = some (.iload_n 2, 209) := by decide +kernel
theorem d241_209 : dc 241 209 = some (.imul, 210) := by decide +kernel
theorem d241_210 : dc 241 210 = some (.iload_n 3, 211) := by decide +kernel
theorem d241_211 : dc 241 211 = some (.iadd, 212) := by decide +kernel
theorem d241_212 : dc 241 212 = some (.istore 4, 214) := by decide +kernel
theorem d241_214 : dc 241 214 = some (.aload_n 0, 215) := by decide +kernel
theorem d241_215 : dc 241 215 = some (.dload 1664, 218) := by decide +kernel
theorem d241_218 : dc 241 218 = some (.dload 1425, 221) := by decide +kernel
theorem d241_221 : dc 241 221 = some (.iload 4, 223) := by decide +kernel
theorem d241_223 : dc 241 223 = some (.aload_n 0, 224) := by decide +kernel
theorem d241_224 : dc 241 224 = some (.dload 1753, 227) := by decide +kernel
theorem d241_227 : dc 241 227 = some (.iload_n 3, 228) := by decide +kernel
theorem d241_228 : dc 241 228 = some (.baload, 229) := by decide +kernel
theorem d241_229 : dc 241 229 = some (.bastore, 230) := by decide +kernel
theorem d241_230 : dc 241 230 = some (.aload_n 0, 231) := by decide +kernel
theorem d241_231 : dc 241 231 = some (.dload 1664, 234) := by decide +kernel
theorem d241_234 : dc 241 234 = some (.dload 1427, 237) := by decide +kernel
theorem d241_237 : dc 241 237 = some (.iload 4, 239) := by decide +kernel
theorem d241_239 : dc 241 239 = some (.aload_n 0, 240) := by decide +kernel
theorem d241_240 : dc 241 240 = some (.dload 1755, 243) := by decide +kernel
theorem d241_243 : dc 241 243 = some (.iload_n 3, 244) := by decide +kernel
theorem d241_244 : dc 241 244 = some (.iaload, 245) := by decide +kernel
theorem d241_245 : dc 241 245 = some (.aload_n 0, 246) := by decide +kernel
theorem d241_246 : dc 241 246 = some (.dload 1754, 249) := by decide +kernel
theorem d241_249 : dc 241 249 = some (.iload_n 3, 250) := by decide +kernel
theorem d241_250 : dc 241 250 = some (.iaload, 251) := by decide +kernel
theorem d241_251 : dc 241 251 = some (.isub, 252) := by decide +kernel
theorem d241_252 : dc 241 252 = some (.iastore, 253) := by decide +kernel
theorem d241_253 : dc 241 253 = some (.iconst 0, 254) := by decide +kernel
theorem d241_254 : dc 241 254 = some (.istore 5, 256) := by decide +kernel
theorem d241_256 : dc 241 256 = some (.iload 5, 258) := by decide +kernel
theorem d241_258 : dc 241 258 = some (.aload_n 0, 259) := by decide +kernel
theorem d241_259 : dc 241 259 = some (.dload 1664, 262) := by decide +kernel
theorem d241_262 : dc 241 262 = some (.dload 1427, 265) := by decide +kernel
theorem d241_265 : dc 241 265 = some (.iload 4, 267) := by decide +kernel
theorem d241_267 : dc 241 267 = some (.iaload, 268) := by decide +kernel
theorem d241_268 : dc 241 268 = some (.if_icmp .ge ((307 : Nat) : Int), 271) := by decide +kernel
theorem d241_271 : dc 241 271 = some (.aload_n 0, 272) := by decide +kernel
theorem d241_272 : dc 241 272 = some (.dload 1664, 275) := by decide +kernel
theorem d241_275 : dc 241 275 = some (.dload 1426, 278) := by decide +kernel
theorem d241_278 : dc 241 278 = some (.bipush 12, 280) := by decide +kernel
theorem d241_280 : dc 241 280 = some (.iload 4, 282) := by decide +kernel
theorem d241_282 : dc 241 282 = some (.imul, 283) := by decide +kernel
theorem d241_283 : dc 241 283 = some (.iload 5, 285) := by decide +kernel
theorem d241_285 : dc 241 285 = some (.iadd, 286) := by decide +kernel
theorem d241_286 : dc 241 286 = some (.aload_n 0, 287) := by decide +kernel
theorem d241_287 : dc 241 287 = some (.dload 1730, 290) := by decide +kernel
theorem d241_290 : dc 241 290 = some (.aload_n 0, 291) := by decide +kernel
theorem d241_291 : dc 241 291 = some (.dload 1754, 294) := by decide +kernel
theorem d241_294 : dc 241 294 = some (.iload_n 3, 295) := by decide +kernel
theorem d241_295 : dc 241 295 = some (.iaload, 296) := by decide +kernel
theorem d241_296 : dc 241 296 = some (.iload 5, 298) := by decide +kernel
theorem d241_298 : dc 241 298 = some (.iadd, 299) := by decide +kernel
theorem d241_299 : dc 241 299 = some (.iaload, 300) := by decide +kernel
theorem d241_300 : dc 241 300 = some (.iastore, 301) := by decide +kernel
theorem d241_301 : dc 241 301 = some (.iinc 5 1, 304) := by decide +kernel
theorem d241_304 : dc 241 304 = some (.goto ((256 : Nat) : Int), 307) := by decide +kernel
theorem d241_307 : dc 241 307 = some (.iinc 3 1, 310) := by decide +kernel
theorem d241_310 : dc 241 310 = some (.goto ((198 : Nat) : Int), 313) := by decide +kernel
theorem d241_313 : dc 241 313 = some (.aload_n 0, 314) := by decide +kernel
theorem d241_314 : dc 241 314 = some (.dload 1664, 317) := by decide +kernel
theorem d241_317 : dc 241 317 = some (.dload 1429, 320) := by decide +kernel
theorem d241_320 : dc 241 320 = some (.iload_n 2, 321) := by decide +kernel
theorem d241_321 : dc 241 321 = some (.aload_n 0, 322) := by decide +kernel
theorem d241_322 : dc 241 322 = some (.getfield 1756, 325) := by decide +kernel
theorem d241_325 : dc 241 325 = some (.ifCond .eq ((340 : Nat) : Int), 328) := by decide +kernel
theorem d241_328 : dc 241 328 = some (.aload_n 0, 329) := by decide +kernel
theorem d241_329 : dc 241 329 = some (.getfield 1758, 332) := by decide +kernel
theorem d241_332 : dc 241 332 = some (.aload_n 0, 333) := by decide +kernel
theorem d241_333 : dc 241 333 = some (.getfield 1757, 336) := by decide +kernel
theorem d241_336 : dc 241 336 = some (.isub, 337) := by decide +kernel
theorem d241_337 : dc 241 337 = some (.goto ((341 : Nat) : Int), 340) := by decide +kernel
theorem d241_340 : dc 241 340 = some (.iconst 0, 341) := by decide +kernel
theorem d241_341 : dc 241 341 = some (.iastore, 342) := by decide +kernel
theorem d241_342 : dc 241 342 = some (.iconst 0, 343) := by decide +kernel
theorem d241_343 : dc 241 343 = some (.istore_n 3, 344) := by decide +kernel
theorem d241_344 : dc 241 344 = some (.iload_n 3, 345) := by decide +kernel
theorem d241_345 : dc 241 345 = some (.aload_n 0, 346) := by decide +kernel
theorem d241_346 : dc 241 346 = some (.dload 1664, 349) := by decide +kernel
theorem d241_349 : dc 241 349 = some (.dload 1429, 352) := by decide +kernel
theorem d241_352 : dc 241 352 = some (.iload_n 2, 353) := by decide +kernel
theorem d241_353 : dc 241 353 = some (.iaload, 354) := by decide +kernel
theorem d241_354 : dc 241 354 = some (.if_icmp .ge ((388 : Nat) : Int), 357) := by decide +kernel
theorem d241_357 : dc 241 357 = some (.aload_n 0, 358) := by decide +kernel
theorem d241_358 : dc 241 358 = some (.dload 1664, 361) := by decide +kernel
theorem d241_361 : dc 241 361 = some (.dload 1428, 364) := by decide +kernel
theorem d241_364 : dc 241 364 = some (.bipush 8, 366) := by decide +kernel
theorem d241_366 : dc 241 366 = some (.iload_n 2, 367) := by decide +kernel
theorem d241_367 : dc 241 367 = some (.imul, 368) := by decide +kernel
theorem d241_368 : dc 241 368 = some (.iload_n 3, 369) := by decide +kernel
theorem d241_369 : dc 241 369 = some (.iadd, 370) := by decide +kernel
theorem d241_370 : dc 241 370 = some (.aload_n 0, 371) := by decide +kernel
theorem d241_371 : dc 241 371 = some (.dload 1730, 374) := by decide +kernel
theorem d241_374 : dc 241 374 = some (.aload_n 0, 375) := by decide +kernel
theorem d241_375 : dc 241 375 = some (.getfield 1757, 378) := by decide +kernel
theorem d241_378 : dc 241 378 = some (.iload_n 3, 379) := by decide +kernel
theorem d241_379 : dc 241 379 = some (.iadd, 380) := by decide +kernel
theorem d241_380 : dc 241 380 = some (.iaload, 381) := by decide +kernel
theorem d241_381 : dc 241 381 = some (.iastore, 382) := by decide +kernel
theorem d241_382 : dc 241 382 = some (.iinc 3 1, 385) := by decide +kernel
theorem d241_385 : dc 241 385 = some (.goto ((344 : Nat) : Int), 388) := by decide +kernel
theorem d241_388 : dc 241 388 = some (.aload_n 0, 389) := by decide +kernel
theorem d241_389 : dc 241 389 = some (.dload 1664, 392) := by decide +kernel
theorem d241_392 : dc 241 392 = some (.dload 1430, 395) := by decide +kernel
theorem d241_395 : dc 241 395 = some (.iload_n 2, 396) := by decide +kernel
theorem d241_396 : dc 241 396 = some (.aload_n 0, 397) := by decide +kernel
theorem d241_397 : dc 241 397 = some (.getfield 1756, 400) := by decide +kernel
theorem d241_400 : dc 241 400 = some (.ifCond .eq ((412 : Nat) : Int), 403) := by decide +kernel
theorem d241_403 : dc 241 403 = some (.aload_n 0, 404) := by decide +kernel
theorem d241_404 : dc 241 404 = some (.dload 1741, 407) := by decide +kernel
theorem d241_407 : dc 241 407 = some (.iconst 0, 408) := by decide +kernel
theorem d241_408 : dc 241 408 = some (.iaload, 409) := by decide +kernel
theorem d241_409 : dc 241 409 = some (.goto ((413 : Nat) : Int), 412) := by decide +kernel
theorem d241_412 : dc 241 412 = some (.iconst 0, 413) := by decide +kernel
theorem d241_413 : dc 241 413 = some (.iastore, 414) := by decide +kernel
theorem d241_414 : dc 241 414 = some (.return_, 415) := by decide +kernel
theorem k_M_setTarget {S : Shp} {G : Nat → Option Nat} {d : Nat} {h : Hp} {Q : Option MV → Hp → Prop} {m : Nat} {f e rf rt wf wt ff ft : Nat} {cb : Bool} {l : List Nat} {D : TgV} {N0 : PlV} {ts : List (Bool × TgV)} (ok : Ok S h) (h1 : 9 ≤ d) (hm : sK S m = 14) (NM_ : NmR h m f e) (SG_ : SgC S h (sT S 1730 m) f (tgN D)) (NF : DfC S h (sT S 1664 m) N0) (RQ_ : RqR S h m l) (RU_ : RuR h m rf rt) (SR_ : SgC S h (sT S 1730 m) rf (tgR D)) (WO_ : WoR h m wf wt) (SW_ : SgC S h (sT S 1730 m) wf (tgW D)) (IC_ : FI h 1752 m = (((tgI D).length : Nat) : Int)) (IA_ : InA S h m l (tgI D)) (CN_ : FI h 1756 m = b2i cb) (CC_ : CdS S h m cb ff ft (tgC D) (tgK D)) (tg : Tg S G) (hts : N0.2.2 = ts) (hn : f + (tgN D).length = e) (hrr : rf + (tgR D).length = rt) (hww : wf + (tgW D).length = wt) (hcf : cb = false → tgC D = [] ∧ tgK D = 0) (h8 : (tgN D).length ≤ 8) (hr0 : 0 ≤ rix (tgR D)) (hw8 : (tgW D).length ≤ 8) (hi6 : (tgI D).length ≤ 6) (hin : ∀ k, k < (tgI D).length → (inN (tgI D) k).length ≤ 12) (hc8 : (tgC D).length ≤ 8) (hk9 : tgK D ≤ 9999) (hr : tix ts (tgN D) < 0 → ts.length < 14)
    (kk : ∀ h', Fr S (sT S 1664 m) [1417, 1418, 1419, 1420, 1421, 1422, 1423, 1424, 1425, 1426, 1427, 1428, 1429, 1430] h h' → DTs S h' (sT S 1664 m) (tsPut ts D) → Q none h') : Cl G d 241 [vR (some m)] h Q := by
  show Wp G d 241 0 [some (vR (some m)), none, none, none, none, none] [] h Q
  have NM__0 := NM_
  have SG__0 := SG_
  have NF_0 := NF
  have RQ__0 := RQ_
  have RU__0 := RU_
  have SR__0 := SR_
  have WO__0 := WO_
  have SW__0 := SW_
  have IC__0 := IC_
  have IA__0 := IA_
  have CN__0 := CN_
  have CC__0 := CC_
  have hd0 := kT1664 ok hm
  have rg_ := tix_rg ts (tgN D)
  have sb := SG_.2.1
  have sb2 := SG_.2.2.1
  have g6 : ts.length ≤ 14 := by rw [← hts]; exact NF.2.2.2.1
  have l9 := RQ_.2.1
  have swb := SW_.2.1
  have swb2 := SW_.2.2.1
  have r7 : rix (tgR D) < 8 := by
    obtain ⟨r, hr⟩ : ∃ r : Nat, rix (tgR D) = (r : Int) := ⟨(rix (tgR D)).toNat, by omega⟩
    have := (rixK_nm hr).2
    omega
  refine w_aload_n d241_0 rfl ?_
  refine w_getI (x := ((e : Nat) : Int)) d241_1 (ok.kd hm) NM_.2 ?_
  refine w_aload_n d241_4 rfl ?_
  refine w_getI (x := ((f : Nat) : Int)) d241_5 (ok.kd hm) NM_.1 ?_
  refine w_isub d241_8 (by constructor <;> omega) ?_
  rw [show ((e : Nat) : Int) - ((f : Nat) : Int) = (((tgN D).length : Nat) : Int) by omega]
  refine w_istore1 d241_9 rfl ?_
  refine w_aload_n d241_10 rfl ?_
  refine w_aload_n d241_11 rfl ?_
  refine w_getI (x := ((f : Nat) : Int)) d241_12 (ok.kd hm) NM_.1 ?_
  refine w_aload_n d241_15 rfl ?_
  refine w_getI (x := ((e : Nat) : Int)) d241_16 (ok.kd hm) NM_.2 ?_
  refine w_callv3 d241_19 (by omega) rfl (ok.kd hm) (by simp) (Nat.le_of_ble_eq_true rfl) ?_
  refine k_M_numberOf ok (by omega) hm NF hn SG_ ?_
  rw [hts]
  have DT_ : DTn S h (sT S 1664 m) ts := by rw [← hts]; exact NF.2.2.n
  have U20 : ArU S h (sT S 1664 m) 1420 (AI h (sT S 1420 (sT S 1664 m))) := fun _ => rfl
  have U21 : ArU S h (sT S 1664 m) 1421 (AI h (sT S 1421 (sT S 1664 m))) := fun _ => rfl
  have U22 : ArU S h (sT S 1664 m) 1422 (AI h (sT S 1422 (sT S 1664 m))) := fun _ => rfl
  have U23 : ArU S h (sT S 1664 m) 1423 (AI h (sT S 1423 (sT S 1664 m))) := fun _ => rfl
  have U24 : ArU S h (sT S 1664 m) 1424 (AI h (sT S 1424 (sT S 1664 m))) := fun _ => rfl
  have U25 : ArU S h (sT S 1664 m) 1425 (AI h (sT S 1425 (sT S 1664 m))) := fun _ => rfl
  have U26 : ArU S h (sT S 1664 m) 1426 (AI h (sT S 1426 (sT S 1664 m))) := fun _ => rfl
  have U27 : ArU S h (sT S 1664 m) 1427 (AI h (sT S 1427 (sT S 1664 m))) := fun _ => rfl
  have U28 : ArU S h (sT S 1664 m) 1428 (AI h (sT S 1428 (sT S 1664 m))) := fun _ => rfl
  have U29 : ArU S h (sT S 1664 m) 1429 (AI h (sT S 1429 (sT S 1664 m))) := fun _ => rfl
  have U30 : ArU S h (sT S 1664 m) 1430 (AI h (sT S 1430 (sT S 1664 m))) := fun _ => rfl
  refine w_istore2 d241_22 rfl ?_
  refine w_iload_n d241_23 rfl ?_
  have L96 : ∀ (m96 : Nat) (b_ : Hp) (i : Nat) (tq : List (Bool × TgV)), 0 = m96 → Fr S (sT S 1664 m) [1417, 1418, 1419, 1420, 1421, 1422, 1423, 1424, 1425, 1426, 1427, 1428, 1429, 1430] h b_ → (tsJ ts tq D i) → (DTn S b_ (sT S 1664 m) tq) → (ArU S b_ (sT S 1664 m) 1420 (AI h (sT S 1420 (sT S 1664 m)))) → (ArU S b_ (sT S 1664 m) 1421 (AI h (sT S 1421 (sT S 1664 m)))) → (ArU S b_ (sT S 1664 m) 1422 (AI h (sT S 1422 (sT S 1664 m)))) → (ArU S b_ (sT S 1664 m) 1423 (AI h (sT S 1423 (sT S 1664 m)))) → (ArU S b_ (sT S 1664 m) 1424 (AI h (sT S 1424 (sT S 1664 m)))) → (ArU S b_ (sT S 1664 m) 1425 (AI h (sT S 1425 (sT S 1664 m)))) → (ArU S b_ (sT S 1664 m) 1426 (AI h (sT S 1426 (sT S 1664 m)))) → (ArU S b_ (sT S 1664 m) 1427 (AI h (sT S 1427 (sT S 1664 m)))) → (ArU S b_ (sT S 1664 m) 1428 (AI h (sT S 1428 (sT S 1664 m)))) → (ArU S b_ (sT S 1664 m) 1429 (AI h (sT S 1429 (sT S 1664 m)))) → (ArU S b_ (sT S 1664 m) 1430 (AI h (sT S 1430 (sT S 1664 m)))) → Wp G d 241 96 [some (vR (some m)), some (vI ((tgN D).length : Nat)), some (vI (i : Nat)), none, none, none] [] b_ Q := by
    intro m96
    induction m96 using Nat.strongRecOn with | ind m96 IH96 => ?_
    intro b_ i tq hm96 FRb_ gj DT_ U20 U21 U22 U23 U24 U25 U26 U27 U28 U29 U30
    have okb_ := FRb_.ok
    have NM_ := NmR.s FRb_ hm NM__0
    have SG_ := SgC.s FRb_ hm SG__0
    have RQ_ := RqR.s FRb_ hm RQ__0
    have RU_ := RuS FRb_ hm RU__0
    have SR_ := SgC.s FRb_ hm SR__0
    have WO_ := WoS FRb_ hm WO__0
    have SW_ := SgC.s FRb_ hm SW__0
    have IC_ := (Fr.si FRb_ hm 1752).trans IC__0
    have IA_ := InS FRb_ hm IA__0
    have CN_ := (Fr.si FRb_ hm 1756).trans CN__0
    have CC_ := CdS.s FRb_ hm CC__0
    refine w_aload_n d241_96 rfl ?_
    refine w_dloadS d241_97 (okb_.kd hm) (fr1664 okb_ hm) ?_
    refine w_dloadS d241_100 (okb_.kd (kT1664 okb_ hm)) (fr1420 okb_ (kT1664 okb_ hm)) ?_
    refine w_iload_n d241_103 rfl ?_
    have i14 : i < 14 := by have := gj.1; have := DT_.2.1; omega
    refine w_iconst d241_104 (by decide) ?_
    refine wa1420 d241_105 okb_ (kT1664 okb_ hm) (by omega) (by omega) (fun h105 e105 m105 => ?_)
    have e105 : h105 = sAI b_ (sT S 1420 (sT S 1664 m)) i 1 := e105
    have f105 : Fr S (sT S 1664 m) [1420] _ _ := Fr.wBd okb_ hd0 m105 (fun ζ e => ⟨1420, by decide, by decide, e ▸ U_refl⟩)
    have ok105 := f105.ok
    have FR105 := Fr.tr (F := [1417, 1418, 1419, 1420, 1421, 1422, 1423, 1424, 1425, 1426, 1427, 1428, 1429, 1430]) FRb_ f105 (by decide) (by decide)
    have U21 := ArU.r f105 hd0 U21
    have U22 := ArU.r f105 hd0 U22
    have U23 := ArU.r f105 hd0 U23
    have U24 := ArU.r f105 hd0 U24
    have U25 := ArU.r f105 hd0 U25
    have U26 := ArU.r f105 hd0 U26
    have U27 := ArU.r f105 hd0 U27
    have U28 := ArU.r f105 hd0 U28
    have U29 := ArU.r f105 hd0 U29
    have U30 := ArU.r f105 hd0 U30
    have NM_ := NmR.s f105 hm NM_
    have SG_ := SgC.s f105 hm SG_
    have RQ_ := RqR.s f105 hm RQ_
    have RU_ := RuS f105 hm RU_
    have SR_ := SgC.s f105 hm SR_
    have WO_ := WoS f105 hm WO_
    have SW_ := SgC.s f105 hm SW_
    have IC_ := (Fr.si f105 hm 1752).trans IC_
    have IA_ := InS f105 hm IA_
    have CN_ := (Fr.si f105 hm 1756).trans CN_
    have CC_ := CdS.s f105 hm CC_
    have DT_ := DTn.r f105 hd0 DT_
    have U20 : ArU S h105 (sT S 1664 m) 1420 (fun j => if j = i then 1 else AI h (sT S 1420 (sT S 1664 m)) j) := U20.w e105 (fun _ => rfl)
    refine w_aload_n d241_106 rfl ?_
    refine w_dloadS d241_107 (ok105.kd hm) (fr1664 ok105 hm) ?_
    refine w_dloadS d241_110 (ok105.kd (kT1664 ok105 hm)) (fr1421 ok105 (kT1664 ok105 hm)) ?_
    refine w_iload_n d241_113 rfl ?_
    refine w_aload_n d241_114 rfl ?_
    refine w_callv1 d241_115 (by omega) rfl (ok105.kd hm) (by simp) (Nat.le_of_ble_eq_true rfl) ?_
    refine k_M_ruleOf (n := tgR D) ok105 (by omega) hm RU_ tg SR_ hrr ?_
    refine wa1421 d241_118 ok105 (kT1664 ok105 hm) (by omega) (by omega) (fun h118 e118 m118 => ?_)
    have e118 : h118 = sAI h105 (sT S 1421 (sT S 1664 m)) i (rix (tgR D)) := e118
    have f118 : Fr S (sT S 1664 m) [1421] _ _ := Fr.wBd ok105 hd0 m118 (fun ζ e => ⟨1421, by decide, by decide, e ▸ U_refl⟩)
    have ok118 := f118.ok
    have FR118 := Fr.tr (F := [1417, 1418, 1419, 1420, 1421, 1422, 1423, 1424, 1425, 1426, 1427, 1428, 1429, 1430]) FR105 f118 (by decide) (by decide)
    have U22 := ArU.r f118 hd0 U22
    have U23 := ArU.r f118 hd0 U23
    have U24 := ArU.r f118 hd0 U24
    have U25 := ArU.r f118 hd0 U25
    have U26 := ArU.r f118 hd0 U26
    have U27 := ArU.r f118 hd0 U27
    have U28 := ArU.r f118 hd0 U28
    have U29 := ArU.r f118 hd0 U29
    have U30 := ArU.r f118 hd0 U30
    have NM_ := NmR.s f118 hm NM_
    have SG_ := SgC.s f118 hm SG_
    have RQ_ := RqR.s f118 hm RQ_
    have RU_ := RuS f118 hm RU_
    have SR_ := SgC.s f118 hm SR_
    have WO_ := WoS f118 hm WO_
    have SW_ := SgC.s f118 hm SW_
    have IC_ := (Fr.si f118 hm 1752).trans IC_
    have IA_ := InS f118 hm IA_
    have CN_ := (Fr.si f118 hm 1756).trans CN_
    have CC_ := CdS.s f118 hm CC_
    have DT_ := DTn.r f118 hd0 DT_
    have U20 := ArU.r f118 hd0 U20
    have U21 : ArU S h118 (sT S 1664 m) 1421 (fun j => if j = i then rix (tgR D) else AI h (sT S 1421 (sT S 1664 m)) j) := U21.w e118 (fun _ => rfl)
    refine w_aload_n d241_119 rfl ?_
    refine w_dloadS d241_120 (ok118.kd hm) (fr1664 ok118 hm) ?_
    refine w_dloadS d241_123 (ok118.kd (kT1664 ok118 hm)) (fr1423 ok118 (kT1664 ok118 hm)) ?_
    refine w_iload_n d241_126 rfl ?_
    refine w_aload_n d241_127 rfl ?_
    refine w_getI (x := ((wt : Nat) : Int)) d241_128 (ok118.kd hm) WO_.2 ?_
    refine w_aload_n d241_131 rfl ?_
    refine w_getI (x := ((wf : Nat) : Int)) d241_132 (ok118.kd hm) WO_.1 ?_
    refine w_isub d241_135 (by constructor <;> omega) ?_
    rw [show ((wt : Nat) : Int) - ((wf : Nat) : Int) = (((tgW D).length : Nat) : Int) by omega]
    refine wa1423 d241_136 ok118 (kT1664 ok118 hm) (by omega) (by omega) (fun h136 e136 m136 => ?_)
    have e136 : h136 = sAI h118 (sT S 1423 (sT S 1664 m)) i (((tgW D).length : Nat) : Int) := e136
    have f136 : Fr S (sT S 1664 m) [1423] _ _ := Fr.wBd ok118 hd0 m136 (fun ζ e => ⟨1423, by decide, by decide, e ▸ U_refl⟩)
    have ok136 := f136.ok
    have FR136 := Fr.tr (F := [1417, 1418, 1419, 1420, 1421, 1422, 1423, 1424, 1425, 1426, 1427, 1428, 1429, 1430]) FR118 f136 (by decide) (by decide)
    have U22 := ArU.r f136 hd0 U22
    have U24 := ArU.r f136 hd0 U24
    have U25 := ArU.r f136 hd0 U25
    have U26 := ArU.r f136 hd0 U26
    have U27 := ArU.r f136 hd0 U27
    have U28 := ArU.r f136 hd0 U28
    have U29 := ArU.r f136 hd0 U29
    have U30 := ArU.r f136 hd0 U30
    have NM_ := NmR.s f136 hm NM_
    have SG_ := SgC.s f136 hm SG_
    have RQ_ := RqR.s f136 hm RQ_
    have RU_ := RuS f136 hm RU_
    have SR_ := SgC.s f136 hm SR_
    have WO_ := WoS f136 hm WO_
    have SW_ := SgC.s f136 hm SW_
    have IC_ := (Fr.si f136 hm 1752).trans IC_
    have IA_ := InS f136 hm IA_
    have CN_ := (Fr.si f136 hm 1756).trans CN_
    have CC_ := CdS.s f136 hm CC_
    have DT_ := DTn.r f136 hd0 DT_
    have U20 := ArU.r f136 hd0 U20
    have U21 := ArU.r f136 hd0 U21
    have U23 : ArU S h136 (sT S 1664 m) 1423 (fun j => if j = i then (((tgW D).length : Nat) : Int) else AI h (sT S 1423 (sT S 1664 m)) j) := U23.w e136 (fun _ => rfl)
    have U22 : ArU S h136 (sT S 1664 m) 1422 (cpF (AI h (sT S 1422 (sT S 1664 m))) (8 * i) 0 (tgW D)) := by rw [cpF_0]; exact U22
    refine w_iconst d241_137 (by decide) ?_
    refine w_istore3 d241_138 rfl ?_
    have L139 : ∀ (m139 : Nat) (w_ : Hp) (k : Nat), (tgW D).length - k = m139 → Fr S (sT S 1664 m) [1417, 1418, 1419, 1420, 1421, 1422, 1423, 1424, 1425, 1426, 1427, 1428, 1429, 1430] h w_ → (k ≤ (tgW D).length) → (ArU S w_ (sT S 1664 m) 1422 (cpF (AI h (sT S 1422 (sT S 1664 m))) (8 * i) k (tgW D))) → (DTn S w_ (sT S 1664 m) tq) → (ArU S w_ (sT S 1664 m) 1420 (fun j => if j = i then 1 else AI h (sT S 1420 (sT S 1664 m)) j)) → (ArU S w_ (sT S 1664 m) 1421 (fun j => if j = i then rix (tgR D) else AI h (sT S 1421 (sT S 1664 m)) j)) → (ArU S w_ (sT S 1664 m) 1423 (fun j => if j = i then (((tgW D).length : Nat) : Int) else AI h (sT S 1423 (sT S 1664 m)) j)) → (ArU S w_ (sT S 1664 m) 1424 (AI h (sT S 1424 (sT S 1664 m)))) → (ArU S w_ (sT S 1664 m) 1425 (AI h (sT S 1425 (sT S 1664 m)))) → (ArU S w_ (sT S 1664 m) 1426 (AI h (sT S 1426 (sT S 1664 m)))) → (ArU S w_ (sT S 1664 m) 1427 (AI h (sT S 1427 (sT S 1664 m)))) → (ArU S w_ (sT S 1664 m) 1428 (AI h (sT S 1428 (sT S 1664 m)))) → (ArU S w_ (sT S 1664 m) 1429 (AI h (sT S 1429 (sT S 1664 m)))) → (ArU S w_ (sT S 1664 m) 1430 (AI h (sT S 1430 (sT S 1664 m)))) → Wp G d 241 139 [some (vR (some m)), some (vI ((tgN D).length : Nat)), some (vI (i : Nat)), some (vI (k : Nat)), none, none] [] w_ Q := by
      intro m139
      induction m139 using Nat.strongRecOn with | ind m139 IH139 => ?_
      intro w_ k hm139 FRw_ kl U22 DT_ U20 U21 U23 U24 U25 U26 U27 U28 U29 U30
      have okw_ := FRw_.ok
      have NM_ := NmR.s FRw_ hm NM__0
      have SG_ := SgC.s FRw_ hm SG__0
      have RQ_ := RqR.s FRw_ hm RQ__0
      have RU_ := RuS FRw_ hm RU__0
      have SR_ := SgC.s FRw_ hm SR__0
      have WO_ := WoS FRw_ hm WO__0
      have SW_ := SgC.s FRw_ hm SW__0
      have IC_ := (Fr.si FRw_ hm 1752).trans IC__0
      have IA_ := InS FRw_ hm IA__0
      have CN_ := (Fr.si FRw_ hm 1756).trans CN__0
      have CC_ := CdS.s FRw_ hm CC__0
      refine w_iload_n d241_139 rfl ?_
      refine w_aload_n d241_140 rfl ?_
      refine w_dloadS d241_141 (okw_.kd hm) (fr1664 okw_ hm) ?_
      refine w_dloadS d241_144 (okw_.kd (kT1664 okw_ hm)) (fr1423 okw_ (kT1664 okw_ hm)) ?_
      refine w_iload_n d241_147 rfl ?_
      refine w_ialoadV (x := (((tgW D).length : Nat) : Int)) d241_148 (gi1423 okw_ (kT1664 okw_ hm) (by omega)) ((U23 i).trans (if_pos rfl)) ?_
      refine w_icmpge d241_149 (fun c149 => ?_) (fun c149 => ?_)
      · have ek : k = (tgW D).length := by omega
        rw [ek] at U22
        refine w_aload_n d241_183 rfl ?_
        refine w_dloadS d241_184 (okw_.kd hm) (fr1664 okw_ hm) ?_
        refine w_dloadS d241_187 (okw_.kd (kT1664 okw_ hm)) (fr1424 okw_ (kT1664 okw_ hm)) ?_
        refine w_iload_n d241_190 rfl ?_
        refine w_aload_n d241_191 rfl ?_
        refine w_getI (x := (((tgI D).length : Nat) : Int)) d241_192 (okw_.kd hm) IC_ ?_
        refine wa1424 d241_195 okw_ (kT1664 okw_ hm) (by omega) (by omega) (fun h195 e195 m195 => ?_)
        have e195 : h195 = sAI w_ (sT S 1424 (sT S 1664 m)) i (((tgI D).length : Nat) : Int) := e195
        have f195 : Fr S (sT S 1664 m) [1424] _ _ := Fr.wBd okw_ hd0 m195 (fun ζ e => ⟨1424, by decide, by decide, e ▸ U_refl⟩)
        have ok195 := f195.ok
        have FR195 := Fr.tr (F := [1417, 1418, 1419, 1420, 1421, 1422, 1423, 1424, 1425, 1426, 1427, 1428, 1429, 1430]) FRw_ f195 (by decide) (by decide)
        have DT_ := DTn.r f195 hd0 DT_
        have U20 := ArU.r f195 hd0 U20
        have U21 := ArU.r f195 hd0 U21
        have U23 := ArU.r f195 hd0 U23
        have U25 := ArU.r f195 hd0 U25
        have U26 := ArU.r f195 hd0 U26
        have U27 := ArU.r f195 hd0 U27
        have U28 := ArU.r f195 hd0 U28
        have U29 := ArU.r f195 hd0 U29
        have U30 := ArU.r f195 hd0 U30
        have NM_ := NmR.s f195 hm NM_
        have SG_ := SgC.s f195 hm SG_
        have RQ_ := RqR.s f195 hm RQ_
        have RU_ := RuS f195 hm RU_
        have SR_ := SgC.s f195 hm SR_
        have WO_ := WoS f195 hm WO_
        have SW_ := SgC.s f195 hm SW_
        have IC_ := (Fr.si f195 hm 1752).trans IC_
        have IA_ := InS f195 hm IA_
        have CN_ := (Fr.si f195 hm 1756).trans CN_
        have CC_ := CdS.s f195 hm CC_
        have U22 := ArU.r f195 hd0 U22
        have U24 : ArU S h195 (sT S 1664 m) 1424 (fun j => if j = i then (((tgI D).length : Nat) : Int) else AI h (sT S 1424 (sT S 1664 m)) j) := U24.w e195 (fun _ => rfl)
        have U25 : ArU S h195 (sT S 1664 m) 1425 (maF (AI h (sT S 1425 (sT S 1664 m))) (6 * i) 0 (fun k => b2i (inB (tgI D) k))) := by rw [maF_0]; exact U25
        have U27 : ArU S h195 (sT S 1664 m) 1427 (maF (AI h (sT S 1427 (sT S 1664 m))) (6 * i) 0 (fun k => (((inN (tgI D) k).length : Nat) : Int))) := by rw [maF_0]; exact U27
        have U26 : ArU S h195 (sT S 1664 m) 1426 (inF (AI h (sT S 1426 (sT S 1664 m))) i (tgI D) 0) := U26
        refine w_iconst d241_196 (by decide) ?_
        refine w_istore3 d241_197 rfl ?_
        have L198 : ∀ (m198 : Nat) (v_ : Hp) (k : Nat), (tgI D).length - k = m198 → Fr S (sT S 1664 m) [1417, 1418, 1419, 1420, 1421, 1422, 1423, 1424, 1425, 1426, 1427, 1428, 1429, 1430] h v_ → (k ≤ (tgI D).length) → (ArU S v_ (sT S 1664 m) 1425 (maF (AI h (sT S 1425 (sT S 1664 m))) (6 * i) k (fun k => b2i (inB (tgI D) k)))) → (ArU S v_ (sT S 1664 m) 1426 (inF (AI h (sT S 1426 (sT S 1664 m))) i (tgI D) k)) → (ArU S v_ (sT S 1664 m) 1427 (maF (AI h (sT S 1427 (sT S 1664 m))) (6 * i) k (fun k => (((inN (tgI D) k).length : Nat) : Int)))) → (DTn S v_ (sT S 1664 m) tq) → (ArU S v_ (sT S 1664 m) 1420 (fun j => if j = i then 1 else AI h (sT S 1420 (sT S 1664 m)) j)) → (ArU S v_ (sT S 1664 m) 1421 (fun j => if j = i then rix (tgR D) else AI h (sT S 1421 (sT S 1664 m)) j)) → (ArU S v_ (sT S 1664 m) 1422 (cpF (AI h (sT S 1422 (sT S 1664 m))) (8 * i) (tgW D).length (tgW D))) → (ArU S v_ (sT S 1664 m) 1423 (fun j => if j = i then (((tgW D).length : Nat) : Int) else AI h (sT S 1423 (sT S 1664 m)) j)) → (ArU S v_ (sT S 1664 m) 1424 (fun j => if j = i then (((tgI D).length : Nat) : Int) else AI h (sT S 1424 (sT S 1664 m)) j)) → (ArU S v_ (sT S 1664 m) 1428 (AI h (sT S 1428 (sT S 1664 m)))) → (ArU S v_ (sT S 1664 m) 1429 (AI h (sT S 1429 (sT S 1664 m)))) → (ArU S v_ (sT S 1664 m) 1430 (AI h (sT S 1430 (sT S 1664 m)))) → Wp G d 241 198 [some (vR (some m)), some (vI ((tgN D).length : Nat)), some (vI (i : Nat)), some (vI (k : Nat)), none, none] [] v_ Q := by
          intro m198
          induction m198 using Nat.strongRecOn with | ind m198 IH198 => ?_
          intro v_ k hm198 FRv_ kl U25 U26 U27 DT_ U20 U21 U22 U23 U24 U28 U29 U30
          have okv_ := FRv_.ok
          have NM_ := NmR.s FRv_ hm NM__0
          have SG_ := SgC.s FRv_ hm SG__0
          have RQ_ := RqR.s FRv_ hm RQ__0
          have RU_ := RuS FRv_ hm RU__0
          have SR_ := SgC.s FRv_ hm SR__0
          have WO_ := WoS FRv_ hm WO__0
          have SW_ := SgC.s FRv_ hm SW__0
          have IC_ := (Fr.si FRv_ hm 1752).trans IC__0
          have IA_ := InS FRv_ hm IA__0
          have CN_ := (Fr.si FRv_ hm 1756).trans CN__0
          have CC_ := CdS.s FRv_ hm CC__0
          refine w_iload_n d241_198 rfl ?_
          refine w_aload_n d241_199 rfl ?_
          refine w_getI (x := (((tgI D).length : Nat) : Int)) d241_200 (okv_.kd hm) IC_ ?_
          refine w_icmpge d241_203 (fun c203 => ?_) (fun c203 => ?_)
          · have ek : k = (tgI D).length := by omega
            rw [ek] at U25 U26 U27
            have L344 : ∀ (m344 : Nat) (y_ : Hp) (k : Nat), (tgC D).length - k = m344 → Fr S (sT S 1664 m) [1417, 1418, 1419, 1420, 1421, 1422, 1423, 1424, 1425, 1426, 1427, 1428, 1429, 1430] h y_ → (k ≤ (tgC D).length) → (ArU S y_ (sT S 1664 m) 1428 (cpF (AI h (sT S 1428 (sT S 1664 m))) (8 * i) k (tgC D))) → (ArU S y_ (sT S 1664 m) 1429 (fun j => if j = i then (((tgC D).length : Nat) : Int) else AI h (sT S 1429 (sT S 1664 m)) j)) → (DTn S y_ (sT S 1664 m) tq) → (ArU S y_ (sT S 1664 m) 1420 (fun j => if j = i then 1 else AI h (sT S 1420 (sT S 1664 m)) j)) → (ArU S y_ (sT S 1664 m) 1421 (fun j => if j = i then rix (tgR D) else AI h (sT S 1421 (sT S 1664 m)) j)) → (ArU S y_ (sT S 1664 m) 1422 (cpF (AI h (sT S 1422 (sT S 1664 m))) (8 * i) (tgW D).length (tgW D))) → (ArU S y_ (sT S 1664 m) 1423 (fun j => if j = i then (((tgW D).length : Nat) : Int) else AI h (sT S 1423 (sT S 1664 m)) j)) → (ArU S y_ (sT S 1664 m) 1424 (fun j => if j = i then (((tgI D).length : Nat) : Int) else AI h (sT S 1424 (sT S 1664 m)) j)) → (ArU S y_ (sT S 1664 m) 1425 (maF (AI h (sT S 1425 (sT S 1664 m))) (6 * i) (tgI D).length (fun k => b2i (inB (tgI D) k)))) → (ArU S y_ (sT S 1664 m) 1426 (inF (AI h (sT S 1426 (sT S 1664 m))) i (tgI D) (tgI D).length)) → (ArU S y_ (sT S 1664 m) 1427 (maF (AI h (sT S 1427 (sT S 1664 m))) (6 * i) (tgI D).length (fun k => (((inN (tgI D) k).length : Nat) : Int)))) → (ArU S y_ (sT S 1664 m) 1430 (AI h (sT S 1430 (sT S 1664 m)))) → Wp G d 241 344 [some (vR (some m)), some (vI ((tgN D).length : Nat)), some (vI (i : Nat)), some (vI (k : Nat)), none, none] [] y_ Q := by
              intro m344
              induction m344 using Nat.strongRecOn with | ind m344 IH344 => ?_
              intro y_ k hm344 FRy_ kl U28 U29 DT_ U20 U21 U22 U23 U24 U25 U26 U27 U30
              have oky_ := FRy_.ok
              have NM_ := NmR.s FRy_ hm NM__0
              have SG_ := SgC.s FRy_ hm SG__0
              have RQ_ := RqR.s FRy_ hm RQ__0
              have RU_ := RuS FRy_ hm RU__0
              have SR_ := SgC.s FRy_ hm SR__0
              have WO_ := WoS FRy_ hm WO__0
              have SW_ := SgC.s FRy_ hm SW__0
              have IC_ := (Fr.si FRy_ hm 1752).trans IC__0
              have IA_ := InS FRy_ hm IA__0
              have CN_ := (Fr.si FRy_ hm 1756).trans CN__0
              have CC_ := CdS.s FRy_ hm CC__0
              refine w_iload_n d241_344 rfl ?_
              refine w_aload_n d241_345 rfl ?_
              refine w_dloadS d241_346 (oky_.kd hm) (fr1664 oky_ hm) ?_
              refine w_dloadS d241_349 (oky_.kd (kT1664 oky_ hm)) (fr1429 oky_ (kT1664 oky_ hm)) ?_
              refine w_iload_n d241_352 rfl ?_
              refine w_ialoadV (x := (((tgC D).length : Nat) : Int)) d241_353 (gi1429 oky_ (kT1664 oky_ hm) (by omega)) ((U29 i).trans (if_pos rfl)) ?_
              refine w_icmpge d241_354 (fun c354 => ?_) (fun c354 => ?_)
              · have ek : k = (tgC D).length := by omega
                rw [ek] at U28
                refine w_aload_n d241_388 rfl ?_
                refine w_dloadS d241_389 (oky_.kd hm) (fr1664 oky_ hm) ?_
                refine w_dloadS d241_392 (oky_.kd (kT1664 oky_ hm)) (fr1430 oky_ (kT1664 oky_ hm)) ?_
                refine w_iload_n d241_395 rfl ?_
                refine w_aload_n d241_396 rfl ?_
                refine w_getI (x := (b2i cb)) d241_397 (oky_.kd hm) CN_ ?_
                refine w_ifeq d241_400 (fun c400 => ?_) (fun c400 => ?_)
                · have cf : cb = false := by
                    cases hz : cb with
                    | true => rw [hz] at c400; exact absurd c400 (by decide)
                    | false => rfl
                  obtain ⟨c0, k0⟩ := hcf cf
                  refine w_iconst d241_412 (by decide) ?_
                  rw [show (0 : Int) = ((tgK D : Nat) : Int) by rw [k0]; rfl]
                  refine wa1430 d241_413 oky_ (kT1664 oky_ hm) (by omega) (by omega) (fun h413 e413 m413 => ?_)
                  have e413 : h413 = sAI y_ (sT S 1430 (sT S 1664 m)) i ((tgK D : Nat) : Int) := e413
                  have f413 : Fr S (sT S 1664 m) [1430] _ _ := Fr.wBd oky_ hd0 m413 (fun ζ e => ⟨1430, by decide, by decide, e ▸ U_refl⟩)
                  have ok413 := f413.ok
                  have FR413 := Fr.tr (F := [1417, 1418, 1419, 1420, 1421, 1422, 1423, 1424, 1425, 1426, 1427, 1428, 1429, 1430]) FRy_ f413 (by decide) (by decide)
                  have DT_ := DTn.r f413 hd0 DT_
                  have U20 := ArU.r f413 hd0 U20
                  have U21 := ArU.r f413 hd0 U21
                  have U22 := ArU.r f413 hd0 U22
                  have U23 := ArU.r f413 hd0 U23
                  have U24 := ArU.r f413 hd0 U24
                  have U25 := ArU.r f413 hd0 U25
                  have U26 := ArU.r f413 hd0 U26
                  have U27 := ArU.r f413 hd0 U27
                  have NM_ := NmR.s f413 hm NM_
                  have SG_ := SgC.s f413 hm SG_
                  have RQ_ := RqR.s f413 hm RQ_
                  have RU_ := RuS f413 hm RU_
                  have SR_ := SgC.s f413 hm SR_
                  have WO_ := WoS f413 hm WO_
                  have SW_ := SgC.s f413 hm SW_
                  have IC_ := (Fr.si f413 hm 1752).trans IC_
                  have IA_ := InS f413 hm IA_
                  have CN_ := (Fr.si f413 hm 1756).trans CN_
                  have CC_ := CdS.s f413 hm CC_
                  have U28 := ArU.r f413 hd0 U28
                  have U29 := ArU.r f413 hd0 U29
                  have U30 : ArU S h413 (sT S 1664 m) 1430 (fun j => if j = i then ((tgK D : Nat) : Int) else AI h (sT S 1430 (sT S 1664 m)) j) := U30.w e413 (fun _ => rfl)
                  refine w_return d241_414 ?_
                  exact kk _ FR413 (tsJ_end ok413 hd0 gj DT_ (by rw [← hts]; exact NF_0.2.2) hr0 hw8 hi6 hin hc8 hk9 U20 U21 U23 U22 U24 U25 U27 U26 U29 U28 U30)
                · have ct : cb = true := by
                    cases hz : cb with
                    | true => rfl
                    | false => rw [hz] at c400; exact absurd rfl c400
                  obtain ⟨fg, fg3, fg4, fg5⟩ := CC_ ct
                  refine w_aload_n d241_403 rfl ?_
                  refine w_dloadS d241_404 (oky_.kd hm) (fr1741 oky_ hm) ?_
                  refine w_iconst d241_407 (by decide) ?_
                  refine w_ialoadV (x := ((tgK D : Nat) : Int)) d241_408 (gi1741 oky_ hm (by omega)) fg5 ?_
                  refine w_goto d241_409 ?_
                  refine wa1430 d241_413 oky_ (kT1664 oky_ hm) (by omega) (by omega) (fun h413 e413 m413 => ?_)
                  have e413 : h413 = sAI y_ (sT S 1430 (sT S 1664 m)) i ((tgK D : Nat) : Int) := e413
                  have f413 : Fr S (sT S 1664 m) [1430] _ _ := Fr.wBd oky_ hd0 m413 (fun ζ e => ⟨1430, by decide, by decide, e ▸ U_refl⟩)
                  have ok413 := f413.ok
                  have FR413 := Fr.tr (F := [1417, 1418, 1419, 1420, 1421, 1422, 1423, 1424, 1425, 1426, 1427, 1428, 1429, 1430]) FRy_ f413 (by decide) (by decide)
                  have DT_ := DTn.r f413 hd0 DT_
                  have U20 := ArU.r f413 hd0 U20
                  have U21 := ArU.r f413 hd0 U21
                  have U22 := ArU.r f413 hd0 U22
                  have U23 := ArU.r f413 hd0 U23
                  have U24 := ArU.r f413 hd0 U24
                  have U25 := ArU.r f413 hd0 U25
                  have U26 := ArU.r f413 hd0 U26
                  have U27 := ArU.r f413 hd0 U27
                  have NM_ := NmR.s f413 hm NM_
                  have SG_ := SgC.s f413 hm SG_
                  have RQ_ := RqR.s f413 hm RQ_
                  have RU_ := RuS f413 hm RU_
                  have SR_ := SgC.s f413 hm SR_
                  have WO_ := WoS f413 hm WO_
                  have SW_ := SgC.s f413 hm SW_
                  have IC_ := (Fr.si f413 hm 1752).trans IC_
                  have IA_ := InS f413 hm IA_
                  have CN_ := (Fr.si f413 hm 1756).trans CN_
                  have CC_ := CdS.s f413 hm CC_
                  have U28 := ArU.r f413 hd0 U28
                  have U29 := ArU.r f413 hd0 U29
                  have U30 : ArU S h413 (sT S 1664 m) 1430 (fun j => if j = i then ((tgK D : Nat) : Int) else AI h (sT S 1430 (sT S 1664 m)) j) := U30.w e413 (fun _ => rfl)
                  refine w_return d241_414 ?_
                  exact kk _ FR413 (tsJ_end ok413 hd0 gj DT_ (by rw [← hts]; exact NF_0.2.2) hr0 hw8 hi6 hin hc8 hk9 U20 U21 U23 U22 U24 U25 U27 U26 U29 U28 U30)
              · have hk : k < (tgC D).length := by omega
                have ct : cb = true := by
                  cases hz : cb with
                  | true => rfl
                  | false => rw [(hcf hz).1] at hk; exact absurd hk (Nat.not_lt_zero _)
                obtain ⟨⟨fg1, fg2⟩, fg3, fg4, fg5⟩ := CC_ ct
                have fsb := fg4.2.1
                have fsb2 := fg4.2.2.1
                have rc := ra1730 oky_ hm (ff + k)
                rw [fg4.2.2.2 k hk] at rc
                refine w_aload_n d241_357 rfl ?_
                refine w_dloadS d241_358 (oky_.kd hm) (fr1664 oky_ hm) ?_
                refine w_dloadS d241_361 (oky_.kd (kT1664 oky_ hm)) (fr1428 oky_ (kT1664 oky_ hm)) ?_
                refine w_bipush d241_364 (by decide) ?_
                refine w_iload_n d241_366 rfl ?_
                refine w_imul d241_367 (by constructor <;> omega) ?_
                rw [show (8 : Int) * ((i : Nat) : Int) = ((8 * i : Nat) : Int) by omega]
                refine w_iload_n d241_368 rfl ?_
                refine w_iadd d241_369 (by constructor <;> omega) ?_
                rw [show ((8 * i : Nat) : Int) + ((k : Nat) : Int) = ((8 * i + k : Nat) : Int) by omega]
                refine w_aload_n d241_370 rfl ?_
                refine w_dloadS d241_371 (oky_.kd hm) (fr1730 oky_ hm) ?_
                refine w_aload_n d241_374 rfl ?_
                refine w_getI (x := ((ff : Nat) : Int)) d241_375 (oky_.kd hm) fg1 ?_
                refine w_iload_n d241_378 rfl ?_
                refine w_iadd d241_379 (by constructor <;> omega) ?_
                refine w_ialoadV (x := (((tgC D).getD k 0 : Nat) : Int)) d241_380 (fg4.g oky_ hk) (fg4.at hk) ?_
                refine wa1428 d241_381 oky_ (kT1664 oky_ hm) (by omega) (by omega) (fun h381 e381 m381 => ?_)
                have e381 : h381 = sAI y_ (sT S 1428 (sT S 1664 m)) (8 * i + k) (((tgC D).getD k 0 : Nat) : Int) := e381
                have f381 : Fr S (sT S 1664 m) [1428] _ _ := Fr.wBd oky_ hd0 m381 (fun ζ e => ⟨1428, by decide, by decide, e ▸ U_refl⟩)
                have ok381 := f381.ok
                have FR381 := Fr.tr (F := [1417, 1418, 1419, 1420, 1421, 1422, 1423, 1424, 1425, 1426, 1427, 1428, 1429, 1430]) FRy_ f381 (by decide) (by decide)
                have DT_ := DTn.r f381 hd0 DT_
                have U20 := ArU.r f381 hd0 U20
                have U21 := ArU.r f381 hd0 U21
                have U22 := ArU.r f381 hd0 U22
                have U23 := ArU.r f381 hd0 U23
                have U24 := ArU.r f381 hd0 U24
                have U25 := ArU.r f381 hd0 U25
                have U26 := ArU.r f381 hd0 U26
                have U27 := ArU.r f381 hd0 U27
                have U30 := ArU.r f381 hd0 U30
                have NM_ := NmR.s f381 hm NM_
                have SG_ := SgC.s f381 hm SG_
                have RQ_ := RqR.s f381 hm RQ_
                have RU_ := RuS f381 hm RU_
                have SR_ := SgC.s f381 hm SR_
                have WO_ := WoS f381 hm WO_
                have SW_ := SgC.s f381 hm SW_
                have IC_ := (Fr.si f381 hm 1752).trans IC_
                have IA_ := InS f381 hm IA_
                have CN_ := (Fr.si f381 hm 1756).trans CN_
                have CC_ := CdS.s f381 hm CC_
                have U29 := ArU.r f381 hd0 U29
                have U28 : ArU S h381 (sT S 1664 m) 1428 (cpF (AI h (sT S 1428 (sT S 1664 m))) (8 * i) (k + 1) (tgC D)) := U28.w e381 (fun _ => cpF_s)
                refine w_iinc3 d241_382 rfl (by constructor <;> omega) ?_
                refine w_goto d241_385 ?_
                rw [show ((k : Nat) : Int) + 1 = ((k + 1 : Nat) : Int) by omega]
                refine w_less ?_ (IH344 _ (by omega) h381 (k + 1) rfl FR381 (by omega) U28 U29 DT_ U20 U21 U22 U23 U24 U25 U26 U27 U30)
                exact ⟨Or.inr rfl, Or.inr rfl, Or.inr rfl, Or.inr rfl, Or.inl rfl, Or.inl rfl, trivial⟩
            refine w_aload_n d241_313 rfl ?_
            refine w_dloadS d241_314 (okv_.kd hm) (fr1664 okv_ hm) ?_
            refine w_dloadS d241_317 (okv_.kd (kT1664 okv_ hm)) (fr1429 okv_ (kT1664 okv_ hm)) ?_
            refine w_iload_n d241_320 rfl ?_
            refine w_aload_n d241_321 rfl ?_
            refine w_getI (x := (b2i cb)) d241_322 (okv_.kd hm) CN_ ?_
            refine w_ifeq d241_325 (fun c325 => ?_) (fun c325 => ?_)
            · have cf : cb = false := by
                cases hz : cb with
                | true => rw [hz] at c325; exact absurd c325 (by decide)
                | false => rfl
              obtain ⟨c0, k0⟩ := hcf cf
              refine w_iconst d241_340 (by decide) ?_
              rw [show (0 : Int) = (((tgC D).length : Nat) : Int) by rw [c0]; rfl]
              refine wa1429 d241_341 okv_ (kT1664 okv_ hm) (by omega) (by omega) (fun h341 e341 m341 => ?_)
              have e341 : h341 = sAI v_ (sT S 1429 (sT S 1664 m)) i (((tgC D).length : Nat) : Int) := e341
              have f341 : Fr S (sT S 1664 m) [1429] _ _ := Fr.wBd okv_ hd0 m341 (fun ζ e => ⟨1429, by decide, by decide, e ▸ U_refl⟩)
              have ok341 := f341.ok
              have FR341 := Fr.tr (F := [1417, 1418, 1419, 1420, 1421, 1422, 1423, 1424, 1425, 1426, 1427, 1428, 1429, 1430]) FRv_ f341 (by decide) (by decide)
              have DT_ := DTn.r f341 hd0 DT_
              have U20 := ArU.r f341 hd0 U20
              have U21 := ArU.r f341 hd0 U21
              have U22 := ArU.r f341 hd0 U22
              have U23 := ArU.r f341 hd0 U23
              have U24 := ArU.r f341 hd0 U24
              have U28 := ArU.r f341 hd0 U28
              have U30 := ArU.r f341 hd0 U30
              have NM_ := NmR.s f341 hm NM_
              have SG_ := SgC.s f341 hm SG_
              have RQ_ := RqR.s f341 hm RQ_
              have RU_ := RuS f341 hm RU_
              have SR_ := SgC.s f341 hm SR_
              have WO_ := WoS f341 hm WO_
              have SW_ := SgC.s f341 hm SW_
              have IC_ := (Fr.si f341 hm 1752).trans IC_
              have IA_ := InS f341 hm IA_
              have CN_ := (Fr.si f341 hm 1756).trans CN_
              have CC_ := CdS.s f341 hm CC_
              have U25 := ArU.r f341 hd0 U25
              have U26 := ArU.r f341 hd0 U26
              have U27 := ArU.r f341 hd0 U27
              have U29 : ArU S h341 (sT S 1664 m) 1429 (fun j => if j = i then (((tgC D).length : Nat) : Int) else AI h (sT S 1429 (sT S 1664 m)) j) := U29.w e341 (fun _ => rfl)
              have U28 : ArU S h341 (sT S 1664 m) 1428 (cpF (AI h (sT S 1428 (sT S 1664 m))) (8 * i) 0 (tgC D)) := by rw [cpF_0]; exact U28
              refine w_iconst d241_342 (by decide) ?_
              refine w_istore3 d241_343 rfl ?_
              refine w_less ?_ (L344 _ h341 0 rfl FR341 (Nat.zero_le _) U28 U29 DT_ U20 U21 U22 U23 U24 U25 U26 U27 U30)
              exact ⟨Or.inr rfl, Or.inr rfl, Or.inr rfl, Or.inr rfl, Or.inl rfl, Or.inl rfl, trivial⟩
            · have ct : cb = true := by
                cases hz : cb with
                | true => rfl
                | false => rw [hz] at c325; exact absurd rfl c325
              obtain ⟨⟨fg1, fg2⟩, fg3, fg4, fg5⟩ := CC_ ct
              have fsb := fg4.2.1
              have fsb2 := fg4.2.2.1
              refine w_aload_n d241_328 rfl ?_
              refine w_getI (x := ((ft : Nat) : Int)) d241_329 (okv_.kd hm) fg2 ?_
              refine w_aload_n d241_332 rfl ?_
              refine w_getI (x := ((ff : Nat) : Int)) d241_333 (okv_.kd hm) fg1 ?_
              refine w_isub d241_336 (by constructor <;> omega) ?_
              rw [show ((ft : Nat) : Int) - ((ff : Nat) : Int) = (((tgC D).length : Nat) : Int) by omega]
              refine w_goto d241_337 ?_
              refine wa1429 d241_341 okv_ (kT1664 okv_ hm) (by omega) (by omega) (fun h341 e341 m341 => ?_)
              have e341 : h341 = sAI v_ (sT S 1429 (sT S 1664 m)) i (((tgC D).length : Nat) : Int) := e341
              have f341 : Fr S (sT S 1664 m) [1429] _ _ := Fr.wBd okv_ hd0 m341 (fun ζ e => ⟨1429, by decide, by decide, e ▸ U_refl⟩)
              have ok341 := f341.ok
              have FR341 := Fr.tr (F := [1417, 1418, 1419, 1420, 1421, 1422, 1423, 1424, 1425, 1426, 1427, 1428, 1429, 1430]) FRv_ f341 (by decide) (by decide)
              have DT_ := DTn.r f341 hd0 DT_
              have U20 := ArU.r f341 hd0 U20
              have U21 := ArU.r f341 hd0 U21
              have U22 := ArU.r f341 hd0 U22
              have U23 := ArU.r f341 hd0 U23
              have U24 := ArU.r f341 hd0 U24
              have U28 := ArU.r f341 hd0 U28
              have U30 := ArU.r f341 hd0 U30
              have NM_ := NmR.s f341 hm NM_
              have SG_ := SgC.s f341 hm SG_
              have RQ_ := RqR.s f341 hm RQ_
              have RU_ := RuS f341 hm RU_
              have SR_ := SgC.s f341 hm SR_
              have WO_ := WoS f341 hm WO_
              have SW_ := SgC.s f341 hm SW_
              have IC_ := (Fr.si f341 hm 1752).trans IC_
              have IA_ := InS f341 hm IA_
              have CN_ := (Fr.si f341 hm 1756).trans CN_
              have CC_ := CdS.s f341 hm CC_
              have U25 := ArU.r f341 hd0 U25
              have U26 := ArU.r f341 hd0 U26
              have U27 := ArU.r f341 hd0 U27
              have U29 : ArU S h341 (sT S 1664 m) 1429 (fun j => if j = i then (((tgC D).length : Nat) : Int) else AI h (sT S 1429 (sT S 1664 m)) j) := U29.w e341 (fun _ => rfl)
              have U28 : ArU S h341 (sT S 1664 m) 1428 (cpF (AI h (sT S 1428 (sT S 1664 m))) (8 * i) 0 (tgC D)) := by rw [cpF_0]; exact U28
              refine w_iconst d241_342 (by decide) ?_
              refine w_istore3 d241_343 rfl ?_
              refine w_less ?_ (L344 _ h341 0 rfl FR341 (Nat.zero_le _) U28 U29 DT_ U20 U21 U22 U23 U24 U25 U26 U27 U30)
              exact ⟨Or.inr rfl, Or.inr rfl, Or.inr rfl, Or.inr rfl, Or.inl rfl, Or.inl rfl, trivial⟩
          · have hk : k < (tgI D).length := by omega
            obtain ⟨i1, xf, xe, i2, i3, i4, i5, i6x⟩ := IA_ k hk
            have xl := sl_len ⟨i4, i5⟩
            rw [i6x] at xl
            have l12 := hin k hk
            refine w_bipush d241_206 (by decide) ?_
            refine w_iload_n d241_208 rfl ?_
            refine w_imul d241_209 (by constructor <;> omega) ?_
            rw [show (6 : Int) * ((i : Nat) : Int) = ((6 * i : Nat) : Int) by omega]
            refine w_iload_n d241_210 rfl ?_
            refine w_iadd d241_211 (by constructor <;> omega) ?_
            rw [show ((6 * i : Nat) : Int) + ((k : Nat) : Int) = ((6 * i + k : Nat) : Int) by omega]
            refine w_istore4 d241_212 rfl ?_
            refine w_aload_n d241_214 rfl ?_
            refine w_dloadS d241_215 (okv_.kd hm) (fr1664 okv_ hm) ?_
            refine w_dloadS d241_218 (okv_.kd (kT1664 okv_ hm)) (fr1425 okv_ (kT1664 okv_ hm)) ?_
            refine w_iload d241_221 rfl ?_
            refine w_aload_n d241_223 rfl ?_
            refine w_dloadS d241_224 (okv_.kd hm) (fr1753 okv_ hm) ?_
            refine w_iload_n d241_227 rfl ?_
            refine w_baloadV (x := (b2i (inB (tgI D) k))) d241_228 (gi1753 okv_ hm (by omega)) i1 ?_
            refine wa1425 d241_229 okv_ (kT1664 okv_ hm) (by omega) (by have := b2i_01 (inB (tgI D) k); omega) (fun h229 e229 m229 => ?_)
            have e229 : h229 = sAI v_ (sT S 1425 (sT S 1664 m)) (6 * i + k) (b2i (inB (tgI D) k)) := e229
            have f229 : Fr S (sT S 1664 m) [1425] _ _ := Fr.wBd okv_ hd0 m229 (fun ζ e => ⟨1425, by decide, by decide, e ▸ U_refl⟩)
            have ok229 := f229.ok
            have FR229 := Fr.tr (F := [1417, 1418, 1419, 1420, 1421, 1422, 1423, 1424, 1425, 1426, 1427, 1428, 1429, 1430]) FRv_ f229 (by decide) (by decide)
            have DT_ := DTn.r f229 hd0 DT_
            have U20 := ArU.r f229 hd0 U20
            have U21 := ArU.r f229 hd0 U21
            have U22 := ArU.r f229 hd0 U22
            have U23 := ArU.r f229 hd0 U23
            have U24 := ArU.r f229 hd0 U24
            have U28 := ArU.r f229 hd0 U28
            have U29 := ArU.r f229 hd0 U29
            have U30 := ArU.r f229 hd0 U30
            have NM_ := NmR.s f229 hm NM_
            have SG_ := SgC.s f229 hm SG_
            have RQ_ := RqR.s f229 hm RQ_
            have RU_ := RuS f229 hm RU_
            have SR_ := SgC.s f229 hm SR_
            have WO_ := WoS f229 hm WO_
            have SW_ := SgC.s f229 hm SW_
            have IC_ := (Fr.si f229 hm 1752).trans IC_
            have IA_ := InS f229 hm IA_
            have CN_ := (Fr.si f229 hm 1756).trans CN_
            have CC_ := CdS.s f229 hm CC_
            have U26 := ArU.r f229 hd0 U26
            have U27 := ArU.r f229 hd0 U27
            have U25 : ArU S h229 (sT S 1664 m) 1425 (maF (AI h (sT S 1425 (sT S 1664 m))) (6 * i) (k + 1) (fun k => b2i (inB (tgI D) k))) := U25.w e229 (fun _ => maF_s)
            obtain ⟨i1, xf2, xe2, i2, i3, i4, i5, i6x⟩ : AI h229 (sT S 1753 m) k = b2i (inB (tgI D) k) ∧ ∃ f e : Nat, AI h229 (sT S 1754 m) k = (f : Int) ∧ AI h229 (sT S 1755 m) k = (e : Int) ∧ f ≤ e ∧ e ≤ l.length ∧ sl l f e = inN (tgI D) k := IA_ k hk
            have xl := sl_len ⟨i4, i5⟩
            rw [i6x] at xl
            refine w_aload_n d241_230 rfl ?_
            refine w_dloadS d241_231 (ok229.kd hm) (fr1664 ok229 hm) ?_
            refine w_dloadS d241_234 (ok229.kd (kT1664 ok229 hm)) (fr1427 ok229 (kT1664 ok229 hm)) ?_
            refine w_iload d241_237 rfl ?_
            refine w_aload_n d241_239 rfl ?_
            refine w_dloadS d241_240 (ok229.kd hm) (fr1755 ok229 hm) ?_
            refine w_iload_n d241_243 rfl ?_
            refine w_ialoadV (x := ((xe2 : Nat) : Int)) d241_244 (gi1755 ok229 hm (by omega)) i3 ?_
            refine w_aload_n d241_245 rfl ?_
            refine w_dloadS d241_246 (ok229.kd hm) (fr1754 ok229 hm) ?_
            refine w_iload_n d241_249 rfl ?_
            refine w_ialoadV (x := ((xf2 : Nat) : Int)) d241_250 (gi1754 ok229 hm (by omega)) i2 ?_
            refine w_isub d241_251 (by constructor <;> omega) ?_
            rw [show ((xe2 : Nat) : Int) - ((xf2 : Nat) : Int) = (((inN (tgI D) k).length : Nat) : Int) by omega]
            refine wa1427 d241_252 ok229 (kT1664 ok229 hm) (by omega) (by omega) (fun h252 e252 m252 => ?_)
            have e252 : h252 = sAI h229 (sT S 1427 (sT S 1664 m)) (6 * i + k) (((inN (tgI D) k).length : Nat) : Int) := e252
            have f252 : Fr S (sT S 1664 m) [1427] _ _ := Fr.wBd ok229 hd0 m252 (fun ζ e => ⟨1427, by decide, by decide, e ▸ U_refl⟩)
            have ok252 := f252.ok
            have FR252 := Fr.tr (F := [1417, 1418, 1419, 1420, 1421, 1422, 1423, 1424, 1425, 1426, 1427, 1428, 1429, 1430]) FR229 f252 (by decide) (by decide)
            have DT_ := DTn.r f252 hd0 DT_
            have U20 := ArU.r f252 hd0 U20
            have U21 := ArU.r f252 hd0 U21
            have U22 := ArU.r f252 hd0 U22
            have U23 := ArU.r f252 hd0 U23
            have U24 := ArU.r f252 hd0 U24
            have U28 := ArU.r f252 hd0 U28
            have U29 := ArU.r f252 hd0 U29
            have U30 := ArU.r f252 hd0 U30
            have NM_ := NmR.s f252 hm NM_
            have SG_ := SgC.s f252 hm SG_
            have RQ_ := RqR.s f252 hm RQ_
            have RU_ := RuS f252 hm RU_
            have SR_ := SgC.s f252 hm SR_
            have WO_ := WoS f252 hm WO_
            have SW_ := SgC.s f252 hm SW_
            have IC_ := (Fr.si f252 hm 1752).trans IC_
            have IA_ := InS f252 hm IA_
            have CN_ := (Fr.si f252 hm 1756).trans CN_
            have CC_ := CdS.s f252 hm CC_
            have U26 := ArU.r f252 hd0 U26
            have U25 := ArU.r f252 hd0 U25
            have U27 : ArU S h252 (sT S 1664 m) 1427 (maF (AI h (sT S 1427 (sT S 1664 m))) (6 * i) (k + 1) (fun k => (((inN (tgI D) k).length : Nat) : Int))) := U27.w e252 (fun _ => maF_s)
            have U26 : ArU S h252 (sT S 1664 m) 1426 (cpF (inF (AI h (sT S 1426 (sT S 1664 m))) i (tgI D) k) (12 * (6 * i + k)) 0 (inN (tgI D) k)) := by rw [cpF_0]; exact U26
            obtain ⟨xf, sgx, ax⟩ : ∃ xf : Nat, SgC S h252 (sT S 1730 m) xf (inN (tgI D) k) ∧ AI h252 (sT S 1754 m) k = (xf : Int) := by
              obtain ⟨-, f, e, a2, -, a4, a5, a6⟩ := IA_ k hk
              exact ⟨f, by rw [← a6]; exact RQ_.2.2.sub ⟨a4, a5⟩, a2⟩
            have SX_ := sgx
            have AX_ := ax
            refine w_iconst d241_253 (by decide) ?_
            refine w_istore5 d241_254 rfl ?_
            have L256 : ∀ (m256 : Nat) (c_ : Hp) (x : Nat), (inN (tgI D) k).length - x = m256 → Fr S (sT S 1664 m) [1417, 1418, 1419, 1420, 1421, 1422, 1423, 1424, 1425, 1426, 1427, 1428, 1429, 1430] h c_ → (x ≤ (inN (tgI D) k).length) → (ArU S c_ (sT S 1664 m) 1426 (cpF (inF (AI h (sT S 1426 (sT S 1664 m))) i (tgI D) k) (12 * (6 * i + k)) x (inN (tgI D) k))) → (DTn S c_ (sT S 1664 m) tq) → (SgC S c_ (sT S 1730 m) xf (inN (tgI D) k)) → (AI c_ (sT S 1754 m) k = ((xf : Nat) : Int)) → (ArU S c_ (sT S 1664 m) 1420 (fun j => if j = i then 1 else AI h (sT S 1420 (sT S 1664 m)) j)) → (ArU S c_ (sT S 1664 m) 1421 (fun j => if j = i then rix (tgR D) else AI h (sT S 1421 (sT S 1664 m)) j)) → (ArU S c_ (sT S 1664 m) 1422 (cpF (AI h (sT S 1422 (sT S 1664 m))) (8 * i) (tgW D).length (tgW D))) → (ArU S c_ (sT S 1664 m) 1423 (fun j => if j = i then (((tgW D).length : Nat) : Int) else AI h (sT S 1423 (sT S 1664 m)) j)) → (ArU S c_ (sT S 1664 m) 1424 (fun j => if j = i then (((tgI D).length : Nat) : Int) else AI h (sT S 1424 (sT S 1664 m)) j)) → (ArU S c_ (sT S 1664 m) 1425 (maF (AI h (sT S 1425 (sT S 1664 m))) (6 * i) (k + 1) (fun k => b2i (inB (tgI D) k)))) → (ArU S c_ (sT S 1664 m) 1427 (maF (AI h (sT S 1427 (sT S 1664 m))) (6 * i) (k + 1) (fun k => (((inN (tgI D) k).length : Nat) : Int)))) → (ArU S c_ (sT S 1664 m) 1428 (AI h (sT S 1428 (sT S 1664 m)))) → (ArU S c_ (sT S 1664 m) 1429 (AI h (sT S 1429 (sT S 1664 m)))) → (ArU S c_ (sT S 1664 m) 1430 (AI h (sT S 1430 (sT S 1664 m)))) → Wp G d 241 256 [some (vR (some m)), some (vI ((tgN D).length : Nat)), some (vI (i : Nat)), some (vI (k : Nat)), some (vI (6 * i + k : Nat)), some (vI (x : Nat))] [] c_ Q := by
              intro m256
              induction m256 using Nat.strongRecOn with | ind m256 IH256 => ?_
              intro c_ x hm256 FRc_ xle U26 DT_ SX_ AX_ U20 U21 U22 U23 U24 U25 U27 U28 U29 U30
              have okc_ := FRc_.ok
              have NM_ := NmR.s FRc_ hm NM__0
              have SG_ := SgC.s FRc_ hm SG__0
              have RQ_ := RqR.s FRc_ hm RQ__0
              have RU_ := RuS FRc_ hm RU__0
              have SR_ := SgC.s FRc_ hm SR__0
              have WO_ := WoS FRc_ hm WO__0
              have SW_ := SgC.s FRc_ hm SW__0
              have IC_ := (Fr.si FRc_ hm 1752).trans IC__0
              have IA_ := InS FRc_ hm IA__0
              have CN_ := (Fr.si FRc_ hm 1756).trans CN__0
              have CC_ := CdS.s FRc_ hm CC__0
              refine w_iload d241_256 rfl ?_
              refine w_aload_n d241_258 rfl ?_
              refine w_dloadS d241_259 (okc_.kd hm) (fr1664 okc_ hm) ?_
              refine w_dloadS d241_262 (okc_.kd (kT1664 okc_ hm)) (fr1427 okc_ (kT1664 okc_ hm)) ?_
              refine w_iload d241_265 rfl ?_
              refine w_ialoadV (x := (((inN (tgI D) k).length : Nat) : Int)) d241_267 (gi1427 okc_ (kT1664 okc_ hm) (by omega)) ((U27 (6 * i + k)).trans (by rw [maF_s]; exact if_pos rfl)) ?_
              refine w_icmpge d241_268 (fun c268 => ?_) (fun c268 => ?_)
              · have ex : x = (inN (tgI D) k).length := by omega
                rw [ex] at U26
                have U26 : ArU S c_ (sT S 1664 m) 1426 (inF (AI h (sT S 1426 (sT S 1664 m))) i (tgI D) (k + 1)) := U26
                refine w_iinc3 d241_307 rfl (by constructor <;> omega) ?_
                refine w_goto d241_310 ?_
                rw [show ((k : Nat) : Int) + 1 = ((k + 1 : Nat) : Int) by omega]
                refine w_less ?_ (IH198 _ (by omega) c_ (k + 1) rfl FRc_ (by omega) U25 U26 U27 DT_ U20 U21 U22 U23 U24 U28 U29 U30)
                exact ⟨Or.inr rfl, Or.inr rfl, Or.inr rfl, Or.inr rfl, Or.inl rfl, Or.inl rfl, trivial⟩
              · have hx : x < (inN (tgI D) k).length := by omega
                have xsb := SX_.2.1
                have xsb2 := SX_.2.2.1
                have rc := ra1730 okc_ hm (xf + x)
                rw [SX_.2.2.2 x hx] at rc
                refine w_aload_n d241_271 rfl ?_
                refine w_dloadS d241_272 (okc_.kd hm) (fr1664 okc_ hm) ?_
                refine w_dloadS d241_275 (okc_.kd (kT1664 okc_ hm)) (fr1426 okc_ (kT1664 okc_ hm)) ?_
                refine w_bipush d241_278 (by decide) ?_
                refine w_iload d241_280 rfl ?_
                refine w_imul d241_282 (by constructor <;> omega) ?_
                rw [show (12 : Int) * (((6 * i + k) : Nat) : Int) = ((12 * (6 * i + k) : Nat) : Int) by omega]
                refine w_iload d241_283 rfl ?_
                refine w_iadd d241_285 (by constructor <;> omega) ?_
                rw [show ((12 * (6 * i + k) : Nat) : Int) + ((x : Nat) : Int) = ((12 * (6 * i + k) + x : Nat) : Int) by omega]
                refine w_aload_n d241_286 rfl ?_
                refine w_dloadS d241_287 (okc_.kd hm) (fr1730 okc_ hm) ?_
                refine w_aload_n d241_290 rfl ?_
                refine w_dloadS d241_291 (okc_.kd hm) (fr1754 okc_ hm) ?_
                refine w_iload_n d241_294 rfl ?_
                refine w_ialoadV (x := ((xf : Nat) : Int)) d241_295 (gi1754 okc_ hm (by omega)) AX_ ?_
                refine w_iload d241_296 rfl ?_
                refine w_iadd d241_298 (by constructor <;> omega) ?_
                refine w_ialoadV (x := (((inN (tgI D) k).getD x 0 : Nat) : Int)) d241_299 (SX_.g okc_ hx) (SX_.at hx) ?_
                refine wa1426 d241_300 okc_ (kT1664 okc_ hm) (by omega) (by omega) (fun h300 e300 m300 => ?_)
                have e300 : h300 = sAI c_ (sT S 1426 (sT S 1664 m)) (12 * (6 * i + k) + x) (((inN (tgI D) k).getD x 0 : Nat) : Int) := e300
                have f300 : Fr S (sT S 1664 m) [1426] _ _ := Fr.wBd okc_ hd0 m300 (fun ζ e => ⟨1426, by decide, by decide, e ▸ U_refl⟩)
                have ok300 := f300.ok
                have FR300 := Fr.tr (F := [1417, 1418, 1419, 1420, 1421, 1422, 1423, 1424, 1425, 1426, 1427, 1428, 1429, 1430]) FRc_ f300 (by decide) (by decide)
                have DT_ := DTn.r f300 hd0 DT_
                have SX_ := SgC.s f300 hm SX_
                have AX_ := AxS f300 hm AX_
                have U20 := ArU.r f300 hd0 U20
                have U21 := ArU.r f300 hd0 U21
                have U22 := ArU.r f300 hd0 U22
                have U23 := ArU.r f300 hd0 U23
                have U24 := ArU.r f300 hd0 U24
                have U25 := ArU.r f300 hd0 U25
                have U27 := ArU.r f300 hd0 U27
                have U28 := ArU.r f300 hd0 U28
                have U29 := ArU.r f300 hd0 U29
                have U30 := ArU.r f300 hd0 U30
                have NM_ := NmR.s f300 hm NM_
                have SG_ := SgC.s f300 hm SG_
                have RQ_ := RqR.s f300 hm RQ_
                have RU_ := RuS f300 hm RU_
                have SR_ := SgC.s f300 hm SR_
                have WO_ := WoS f300 hm WO_
                have SW_ := SgC.s f300 hm SW_
                have IC_ := (Fr.si f300 hm 1752).trans IC_
                have IA_ := InS f300 hm IA_
                have CN_ := (Fr.si f300 hm 1756).trans CN_
                have CC_ := CdS.s f300 hm CC_
                have U26 : ArU S h300 (sT S 1664 m) 1426 (cpF (inF (AI h (sT S 1426 (sT S 1664 m))) i (tgI D) k) (12 * (6 * i + k)) (x + 1) (inN (tgI D) k)) := U26.w e300 (fun _ => cpF_s)
                refine w_iinc5 d241_301 rfl (by constructor <;> omega) ?_
                refine w_goto d241_304 ?_
                rw [show ((x : Nat) : Int) + 1 = ((x + 1 : Nat) : Int) by omega]
                refine w_less ?_ (IH256 _ (by omega) h300 (x + 1) rfl FR300 (by omega) U26 DT_ SX_ AX_ U20 U21 U22 U23 U24 U25 U27 U28 U29 U30)
                exact ⟨Or.inr rfl, Or.inr rfl, Or.inr rfl, Or.inr rfl, Or.inr rfl, Or.inr rfl, trivial⟩
            refine w_less ?_ (L256 _ h252 0 rfl FR252 (Nat.zero_le _) U26 DT_ SX_ AX_ U20 U21 U22 U23 U24 U25 U27 U28 U29 U30)
            exact ⟨Or.inr rfl, Or.inr rfl, Or.inr rfl, Or.inr rfl, Or.inr rfl, Or.inr rfl, trivial⟩
        refine w_less ?_ (L198 _ h195 0 rfl FR195 (Nat.zero_le _) U25 U26 U27 DT_ U20 U21 U22 U23 U24 U28 U29 U30)
        exact ⟨Or.inr rfl, Or.inr rfl, Or.inr rfl, Or.inr rfl, Or.inl rfl, Or.inl rfl, trivial⟩
      · have hk : k < (tgW D).length := by omega
        have rc := ra1730 okw_ hm (wf + k)
        rw [SW_.2.2.2 k hk] at rc
        refine w_aload_n d241_152 rfl ?_
        refine w_dloadS d241_153 (okw_.kd hm) (fr1664 okw_ hm) ?_
        refine w_dloadS d241_156 (okw_.kd (kT1664 okw_ hm)) (fr1422 okw_ (kT1664 okw_ hm)) ?_
        refine w_bipush d241_159 (by decide) ?_
        refine w_iload_n d241_161 rfl ?_
        refine w_imul d241_162 (by constructor <;> omega) ?_
        rw [show (8 : Int) * ((i : Nat) : Int) = ((8 * i : Nat) : Int) by omega]
        refine w_iload_n d241_163 rfl ?_
        refine w_iadd d241_164 (by constructor <;> omega) ?_
        rw [show ((8 * i : Nat) : Int) + ((k : Nat) : Int) = ((8 * i + k : Nat) : Int) by omega]
        refine w_aload_n d241_165 rfl ?_
        refine w_dloadS d241_166 (okw_.kd hm) (fr1730 okw_ hm) ?_
        refine w_aload_n d241_169 rfl ?_
        refine w_getI (x := ((wf : Nat) : Int)) d241_170 (okw_.kd hm) WO_.1 ?_
        refine w_iload_n d241_173 rfl ?_
        refine w_iadd d241_174 (by constructor <;> omega) ?_
        refine w_ialoadV (x := (((tgW D).getD k 0 : Nat) : Int)) d241_175 (SW_.g okw_ hk) (SW_.at hk) ?_
        refine wa1422 d241_176 okw_ (kT1664 okw_ hm) (by omega) (by omega) (fun h176 e176 m176 => ?_)
        have e176 : h176 = sAI w_ (sT S 1422 (sT S 1664 m)) (8 * i + k) (((tgW D).getD k 0 : Nat) : Int) := e176
        have f176 : Fr S (sT S 1664 m) [1422] _ _ := Fr.wBd okw_ hd0 m176 (fun ζ e => ⟨1422, by decide, by decide, e ▸ U_refl⟩)
        have ok176 := f176.ok
        have FR176 := Fr.tr (F := [1417, 1418, 1419, 1420, 1421, 1422, 1423, 1424, 1425, 1426, 1427, 1428, 1429, 1430]) FRw_ f176 (by decide) (by decide)
        have DT_ := DTn.r f176 hd0 DT_
        have U20 := ArU.r f176 hd0 U20
        have U21 := ArU.r f176 hd0 U21
        have U23 := ArU.r f176 hd0 U23
        have U24 := ArU.r f176 hd0 U24
        have U25 := ArU.r f176 hd0 U25
        have U26 := ArU.r f176 hd0 U26
        have U27 := ArU.r f176 hd0 U27
        have U28 := ArU.r f176 hd0 U28
        have U29 := ArU.r f176 hd0 U29
        have U30 := ArU.r f176 hd0 U30
        have NM_ := NmR.s f176 hm NM_
        have SG_ := SgC.s f176 hm SG_
        have RQ_ := RqR.s f176 hm RQ_
        have RU_ := RuS f176 hm RU_
        have SR_ := SgC.s f176 hm SR_
        have WO_ := WoS f176 hm WO_
        have SW_ := SgC.s f176 hm SW_
        have IC_ := (Fr.si f176 hm 1752).trans IC_
        have IA_ := InS f176 hm IA_
        have CN_ := (Fr.si f176 hm 1756).trans CN_
        have CC_ := CdS.s f176 hm CC_
        have U22 : ArU S h176 (sT S 1664 m) 1422 (cpF (AI h (sT S 1422 (sT S 1664 m))) (8 * i) (k + 1) (tgW D)) := U22.w e176 (fun _ => cpF_s)
        refine w_iinc3 d241_177 rfl (by constructor <;> omega) ?_
        refine w_goto d241_180 ?_
        rw [show ((k : Nat) : Int) + 1 = ((k + 1 : Nat) : Int) by omega]
        refine w_less ?_ (IH139 _ (by omega) h176 (k + 1) rfl FR176 (by omega) U22 DT_ U20 U21 U23 U24 U25 U26 U27 U28 U29 U30)
        exact ⟨Or.inr rfl, Or.inr rfl, Or.inr rfl, Or.inr rfl, Or.inl rfl, Or.inl rfl, trivial⟩
    refine w_less ?_ (L139 _ h136 0 rfl FR136 (Nat.zero_le _) U22 DT_ U20 U21 U23 U24 U25 U26 U27 U28 U29 U30)
    exact ⟨Or.inr rfl, Or.inr rfl, Or.inr rfl, Or.inr rfl, Or.inl rfl, Or.inl rfl, trivial⟩
  refine w_ifge d241_24 (fun c24 => ?_) (fun c24 => ?_)
  · obtain ⟨j, hj⟩ : ∃ j : Nat, tix ts (tgN D) = (j : Int) := ⟨(tix ts (tgN D)).toNat, by omega⟩
    rw [hj]
    have gj : tsJ ts ts D j := tsJ_old hj
    refine w_less ?_ (L96 _ h _ _ rfl (Fr.refl ok) gj DT_ U20 U21 U22 U23 U24 U25 U26 U27 U28 U29 U30)
    exact ⟨Or.inr rfl, Or.inr rfl, Or.inr rfl, Or.inl rfl, Or.inl rfl, Or.inl rfl, trivial⟩
  · have new : tix ts (tgN D) < 0 := by omega
    have l6 := hr new
    have gj := tsJ_new new
    have DN0 := DT_
    have U19 : ArU S h (sT S 1664 m) 1419 (AI h (sT S 1419 (sT S 1664 m))) := fun _ => rfl
    have U18 : ArU S h (sT S 1664 m) 1418 (cpF (AI h (sT S 1418 (sT S 1664 m))) (8 * ts.length) 0 (tgN D)) := by rw [cpF_0]; exact fun _ => rfl
    refine w_aload_n d241_27 rfl ?_
    refine w_dloadS d241_28 (ok.kd hm) (fr1664 ok hm) ?_
    refine w_getI (x := ((ts.length : Nat) : Int)) d241_31 (ok.kd (kT1664 ok hm)) (by rw [← hts]; exact NF.2.2.1) ?_
    refine w_istore2 d241_34 rfl ?_
    refine w_aload_n d241_35 rfl ?_
    refine w_dloadS d241_36 (ok.kd hm) (fr1664 ok hm) ?_
    refine w_dupR d241_39 ?_
    refine w_getI (x := ((ts.length : Nat) : Int)) d241_40 (ok.kd (kT1664 ok hm)) (by rw [← hts]; exact NF.2.2.1) ?_
    refine w_iconst d241_43 (by decide) ?_
    refine w_iadd d241_44 (by constructor <;> omega) ?_
    refine wf1417 d241_45 ok (kT1664 ok hm) (by omega) (fun h45 e45 m45 => ?_)
    have f45 : Fr S (sT S 1664 m) [1417] _ _ := Fr.wF ok m45 (FK.pI e45)
    have ok45 := f45.ok
    have FR45 := Fr.le (F := [1417, 1418, 1419, 1420, 1421, 1422, 1423, 1424, 1425, 1426, 1427, 1428, 1429, 1430]) f45 (by decide)
    have NM_ := NmR.s f45 hm NM_
    have SG_ := SgC.s f45 hm SG_
    have RQ_ := RqR.s f45 hm RQ_
    have RU_ := RuS f45 hm RU_
    have SR_ := SgC.s f45 hm SR_
    have WO_ := WoS f45 hm WO_
    have SW_ := SgC.s f45 hm SW_
    have IC_ := (Fr.si f45 hm 1752).trans IC_
    have IA_ := InS f45 hm IA_
    have CN_ := (Fr.si f45 hm 1756).trans CN_
    have CC_ := CdS.s f45 hm CC_
    have U20 := ArU.r f45 hd0 U20
    have U21 := ArU.r f45 hd0 U21
    have U22 := ArU.r f45 hd0 U22
    have U23 := ArU.r f45 hd0 U23
    have U24 := ArU.r f45 hd0 U24
    have U25 := ArU.r f45 hd0 U25
    have U26 := ArU.r f45 hd0 U26
    have U27 := ArU.r f45 hd0 U27
    have U28 := ArU.r f45 hd0 U28
    have U29 := ArU.r f45 hd0 U29
    have U30 := ArU.r f45 hd0 U30
    have U19 := ArU.r f45 hd0 U19
    have U18 := ArU.r f45 hd0 U18
    have C17 : FI h45 1417 (sT S 1664 m) = ((ts.length + 1 : Nat) : Int) := by rw [e45, FI_sFI, if_pos ⟨rfl, rfl⟩]; rfl
    refine w_aload_n d241_48 rfl ?_
    refine w_dloadS d241_49 (ok45.kd hm) (fr1664 ok45 hm) ?_
    refine w_dloadS d241_52 (ok45.kd (kT1664 ok45 hm)) (fr1419 ok45 (kT1664 ok45 hm)) ?_
    refine w_iload_n d241_55 rfl ?_
    refine w_iload_n d241_56 rfl ?_
    refine wa1419 d241_57 ok45 (kT1664 ok45 hm) (by omega) (by omega) (fun h57 e57 m57 => ?_)
    have e57 : h57 = sAI h45 (sT S 1419 (sT S 1664 m)) ts.length (((tgN D).length : Nat) : Int) := e57
    have f57 : Fr S (sT S 1664 m) [1419] _ _ := Fr.wBd ok45 hd0 m57 (fun ζ e => ⟨1419, by decide, by decide, e ▸ U_refl⟩)
    have ok57 := f57.ok
    have FR57 := Fr.tr (F := [1417, 1418, 1419, 1420, 1421, 1422, 1423, 1424, 1425, 1426, 1427, 1428, 1429, 1430]) FR45 f57 (by decide) (by decide)
    have NM_ := NmR.s f57 hm NM_
    have SG_ := SgC.s f57 hm SG_
    have RQ_ := RqR.s f57 hm RQ_
    have RU_ := RuS f57 hm RU_
    have SR_ := SgC.s f57 hm SR_
    have WO_ := WoS f57 hm WO_
    have SW_ := SgC.s f57 hm SW_
    have IC_ := (Fr.si f57 hm 1752).trans IC_
    have IA_ := InS f57 hm IA_
    have CN_ := (Fr.si f57 hm 1756).trans CN_
    have CC_ := CdS.s f57 hm CC_
    have U20 := ArU.r f57 hd0 U20
    have U21 := ArU.r f57 hd0 U21
    have U22 := ArU.r f57 hd0 U22
    have U23 := ArU.r f57 hd0 U23
    have U24 := ArU.r f57 hd0 U24
    have U25 := ArU.r f57 hd0 U25
    have U26 := ArU.r f57 hd0 U26
    have U27 := ArU.r f57 hd0 U27
    have U28 := ArU.r f57 hd0 U28
    have U29 := ArU.r f57 hd0 U29
    have U30 := ArU.r f57 hd0 U30
    have U18 := ArU.r f57 hd0 U18
    have C17 := (Fr.i f57 1417).trans C17
    have U19 : ArU S h57 (sT S 1664 m) 1419 (fun j => if j = ts.length then (((tgN D).length : Nat) : Int) else AI h (sT S 1419 (sT S 1664 m)) j) := U19.w e57 (fun _ => rfl)
    refine w_iconst d241_58 (by decide) ?_
    refine w_istore3 d241_59 rfl ?_
    have L60 : ∀ (m60 : Nat) (g_ : Hp) (k : Nat), (tgN D).length - k = m60 → Fr S (sT S 1664 m) [1417, 1418, 1419, 1420, 1421, 1422, 1423, 1424, 1425, 1426, 1427, 1428, 1429, 1430] h g_ → (k ≤ (tgN D).length) → (ArU S g_ (sT S 1664 m) 1418 (cpF (AI h (sT S 1418 (sT S 1664 m))) (8 * ts.length) k (tgN D))) → (FI g_ 1417 (sT S 1664 m) = ((ts.length + 1 : Nat) : Int)) → (ArU S g_ (sT S 1664 m) 1419 (fun j => if j = ts.length then (((tgN D).length : Nat) : Int) else AI h (sT S 1419 (sT S 1664 m)) j)) → (ArU S g_ (sT S 1664 m) 1420 (AI h (sT S 1420 (sT S 1664 m)))) → (ArU S g_ (sT S 1664 m) 1421 (AI h (sT S 1421 (sT S 1664 m)))) → (ArU S g_ (sT S 1664 m) 1422 (AI h (sT S 1422 (sT S 1664 m)))) → (ArU S g_ (sT S 1664 m) 1423 (AI h (sT S 1423 (sT S 1664 m)))) → (ArU S g_ (sT S 1664 m) 1424 (AI h (sT S 1424 (sT S 1664 m)))) → (ArU S g_ (sT S 1664 m) 1425 (AI h (sT S 1425 (sT S 1664 m)))) → (ArU S g_ (sT S 1664 m) 1426 (AI h (sT S 1426 (sT S 1664 m)))) → (ArU S g_ (sT S 1664 m) 1427 (AI h (sT S 1427 (sT S 1664 m)))) → (ArU S g_ (sT S 1664 m) 1428 (AI h (sT S 1428 (sT S 1664 m)))) → (ArU S g_ (sT S 1664 m) 1429 (AI h (sT S 1429 (sT S 1664 m)))) → (ArU S g_ (sT S 1664 m) 1430 (AI h (sT S 1430 (sT S 1664 m)))) → Wp G d 241 60 [some (vR (some m)), some (vI ((tgN D).length : Nat)), some (vI (ts.length : Nat)), some (vI (k : Nat)), none, none] [] g_ Q := by
      intro m60
      induction m60 using Nat.strongRecOn with | ind m60 IH60 => ?_
      intro g_ k hm60 FRg_ kl U18 C17 U19 U20 U21 U22 U23 U24 U25 U26 U27 U28 U29 U30
      have okg_ := FRg_.ok
      have NM_ := NmR.s FRg_ hm NM__0
      have SG_ := SgC.s FRg_ hm SG__0
      have RQ_ := RqR.s FRg_ hm RQ__0
      have RU_ := RuS FRg_ hm RU__0
      have SR_ := SgC.s FRg_ hm SR__0
      have WO_ := WoS FRg_ hm WO__0
      have SW_ := SgC.s FRg_ hm SW__0
      have IC_ := (Fr.si FRg_ hm 1752).trans IC__0
      have IA_ := InS FRg_ hm IA__0
      have CN_ := (Fr.si FRg_ hm 1756).trans CN__0
      have CC_ := CdS.s FRg_ hm CC__0
      refine w_iload_n d241_60 rfl ?_
      refine w_iload_n d241_61 rfl ?_
      refine w_icmpge d241_62 (fun c62 => ?_) (fun c62 => ?_)
      · have ek : k = (tgN D).length := by omega
        rw [ek] at U18
        have DT_ := DTn.add okg_ hd0 DN0 l6 h8 C17 U19 U18
        refine w_less ?_ (L96 _ g_ _ _ rfl FRg_ gj DT_ U20 U21 U22 U23 U24 U25 U26 U27 U28 U29 U30)
        exact ⟨Or.inr rfl, Or.inr rfl, Or.inr rfl, Or.inl rfl, Or.inl rfl, Or.inl rfl, trivial⟩
      · have hk : k < (tgN D).length := by omega
        have rc := ra1730 okg_ hm (f + k)
        rw [SG_.2.2.2 k hk] at rc
        refine w_aload_n d241_65 rfl ?_
        refine w_dloadS d241_66 (okg_.kd hm) (fr1664 okg_ hm) ?_
        refine w_dloadS d241_69 (okg_.kd (kT1664 okg_ hm)) (fr1418 okg_ (kT1664 okg_ hm)) ?_
        refine w_bipush d241_72 (by decide) ?_
        refine w_iload_n d241_74 rfl ?_
        refine w_imul d241_75 (by constructor <;> omega) ?_
        refine w_iload_n d241_76 rfl ?_
        rw [show (8 : Int) * ((ts.length : Nat) : Int) = ((8 * ts.length : Nat) : Int) by omega]
        refine w_iadd d241_77 (by constructor <;> omega) ?_
        rw [show ((8 * ts.length : Nat) : Int) + ((k : Nat) : Int) = ((8 * ts.length + k : Nat) : Int) by omega]
        refine w_aload_n d241_78 rfl ?_
        refine w_dloadS d241_79 (okg_.kd hm) (fr1730 okg_ hm) ?_
        refine w_aload_n d241_82 rfl ?_
        refine w_getI (x := ((f : Nat) : Int)) d241_83 (okg_.kd hm) NM_.1 ?_
        refine w_iload_n d241_86 rfl ?_
        refine w_iadd d241_87 (by constructor <;> omega) ?_
        refine w_ialoadV (x := (((tgN D).getD k 0 : Nat) : Int)) d241_88 (SG_.g okg_ hk) (SG_.at hk) ?_
        refine wa1418 d241_89 okg_ (kT1664 okg_ hm) (by omega) (by omega) (fun h89 e89 m89 => ?_)
        have e89 : h89 = sAI g_ (sT S 1418 (sT S 1664 m)) (8 * ts.length + k) (((tgN D).getD k 0 : Nat) : Int) := e89
        have f89 : Fr S (sT S 1664 m) [1418] _ _ := Fr.wBd okg_ hd0 m89 (fun ζ e => ⟨1418, by decide, by decide, e ▸ U_refl⟩)
        have ok89 := f89.ok
        have FR89 := Fr.tr (F := [1417, 1418, 1419, 1420, 1421, 1422, 1423, 1424, 1425, 1426, 1427, 1428, 1429, 1430]) FRg_ f89 (by decide) (by decide)
        have C17 := (Fr.i f89 1417).trans C17
        have U19 := ArU.r f89 hd0 U19
        have U20 := ArU.r f89 hd0 U20
        have U21 := ArU.r f89 hd0 U21
        have U22 := ArU.r f89 hd0 U22
        have U23 := ArU.r f89 hd0 U23
        have U24 := ArU.r f89 hd0 U24
        have U25 := ArU.r f89 hd0 U25
        have U26 := ArU.r f89 hd0 U26
        have U27 := ArU.r f89 hd0 U27
        have U28 := ArU.r f89 hd0 U28
        have U29 := ArU.r f89 hd0 U29
        have U30 := ArU.r f89 hd0 U30
        have NM_ := NmR.s f89 hm NM_
        have SG_ := SgC.s f89 hm SG_
        have RQ_ := RqR.s f89 hm RQ_
        have RU_ := RuS f89 hm RU_
        have SR_ := SgC.s f89 hm SR_
        have WO_ := WoS f89 hm WO_
        have SW_ := SgC.s f89 hm SW_
        have IC_ := (Fr.si f89 hm 1752).trans IC_
        have IA_ := InS f89 hm IA_
        have CN_ := (Fr.si f89 hm 1756).trans CN_
        have CC_ := CdS.s f89 hm CC_
        have U18 : ArU S h89 (sT S 1664 m) 1418 (cpF (AI h (sT S 1418 (sT S 1664 m))) (8 * ts.length) (k + 1) (tgN D)) := U18.w e89 (fun _ => cpF_s)
        refine w_iinc3 d241_90 rfl (by constructor <;> omega) ?_
        refine w_goto d241_93 ?_
        rw [show ((k : Nat) : Int) + 1 = ((k + 1 : Nat) : Int) by omega]
        refine w_less ?_ (IH60 _ (by omega) h89 (k + 1) rfl FR89 (by omega) U18 C17 U19 U20 U21 U22 U23 U24 U25 U26 U27 U28 U29 U30)
        exact ⟨Or.inr rfl, Or.inr rfl, Or.inr rfl, Or.inr rfl, Or.inl rfl, Or.inl rfl, trivial⟩
    refine w_less ?_ (L60 _ h57 0 rfl FR57 (Nat.zero_le _) U18 C17 U19 U20 U21 U22 U23 U24 U25 U26 U27 U28 U29 U30)
    exact ⟨Or.inr rfl, Or.inr rfl, Or.inr rfl, Or.inr rfl, Or.inl rfl, Or.inl rfl, trivial⟩
