/-! the reference: files and flags are set -/
theorem Fr.wBd {S : Shp} {d : Nat} {F : List Nat} {h h' : Hp} {A : Nat → Prop} (ok : Ok S h) (hd : sK S d = 12) (mo : Mo S A h h') (hA : ∀ y, A y → ∃ g, g < 4096 ∧ g ∈ F ∧ U S (sT S g d) y) : Fr S d F h h' := ⟨ok, mo.mono (fun y q => by obtain ⟨g, -, a, b⟩ := hA y q; exact Or.inr ⟨g, a, b⟩), by
  have hn : ¬ A d := fun q => by
    obtain ⟨g, g4, a, b⟩ := hA d q
    have := ok.so.uLe b
    have := ok.so.ltT (f := g) (a := d) g4
    omega
  exact fun f h0 _ => ⟨mo.fi ok (by omega) hn f (by omega), mo.fl ok (by omega) hn f⟩⟩
section NOWF
variable {S : Shp} {m d : Nat} {F : List Nat} {h h' : Hp}
/-- what changes below `now` alone -/
theorem Fr.sub (fr : Fr S (sT S 1664 m) F h h') (hm : sK S m = 14) (hF : ltF4 F := by decide) : Fr S m [1664] h h' := ⟨fr.1, fr.mo.mono (fun y q => by
    rcases q with q | ⟨g, g1, g2⟩
    · exact Or.inr ⟨1664, by decide, q ▸ U_refl⟩
    · exact Or.inr ⟨1664, by decide, U_trans (fr.1.so.uT (hF g g1) U_refl) g2⟩), by
  have hn : ¬ MA S (sT S 1664 m) F m := fun q => by
    have l := fr.1.so.ltT (f := 1664) (a := m) (by decide)
    rcases q with q | ⟨g, g1, g2⟩
    · omega
    · have := fr.1.so.uLe g2
      have := fr.1.so.ltT (f := g) (a := sT S 1664 m) (hF g g1)
      omega
  exact fun f h0 _ => ⟨fr.mo.fi fr.1 (by omega) hn f (by omega), fr.mo.fl fr.1 (by omega) hn f⟩⟩
theorem Fr.si (fr : Fr S (sT S 1664 m) F h h') (hm : sK S m = 14) (g : Nat) (hF : ltF4 F := by decide) (hg : g ∉ [1664] := by decide) (h0 : 1408 ≤ g := by decide) : FI h' g m = FI h g m := (fr.sub hm hF).i g hg h0
theorem NmR.s {f e : Nat} (fr : Fr S (sT S 1664 m) F h h') (hm : sK S m = 14) (D : NmR h m f e) (hF : ltF4 F := by decide) : NmR h' m f e := D.r (fr.sub hm hF) hm
theorem RqR.s {l : List Nat} (fr : Fr S (sT S 1664 m) F h h') (hm : sK S m = 14) (D : RqR S h m l) (hF : ltF4 F := by decide) : RqR S h' m l := D.r (fr.sub hm hF) hm
theorem SgC.s {f : Nat} {l : List Nat} (fr : Fr S (sT S 1664 m) F h h') (hm : sK S m = 14) (D : SgC S h (sT S 1730 m) f l) (hF : ltF4 F := by decide) : SgC S h' (sT S 1730 m) f l := (fr.sub hm hF).sg (by decide) (by decide) (by decide) D
theorem ArI.nw {f n : Nat} {g : Nat → Int} (fr : Fr S (sT S 1664 m) F h h') (hm : sK S m = 14) (D : ArI S h m f g n) (hF : ltF4 F := by decide) (h1 : f ∉ [1664] ∧ ltF4 [1664] ∧ (fk f = 40 ∨ fk f = 42) ∧ kFld f = 14 ∧ f < 4096 := by decide) : ArI S h' m f g n := D.r (fr.sub hm hF) hm h1
/-- an array of an object, as a function -/
def ArU (S : Shp) (h : Hp) (d f : Nat) (g : Nat → Int) : Prop := ∀ j, AI h (sT S f d) j = g j
theorem ArU.r {f : Nat} {g : Nat → Int} (fr : Fr S d F h h') (hd : sK S d = 12) (D : ArU S h d f g) (h1 : f ∉ F ∧ ltF4 F ∧ (fk f = 40 ∨ fk f = 42) ∧ kFld f = 12 ∧ f < 4096 := by decide) : ArU S h' d f g := fun i => by
  have k := (fr.1.so.2.2.1 f d (by omega) (by omega)).1
  rw [fr.ai (by omega) h1.2.2.2.2 h1.1 h1.2.1]
  exact D i
theorem ArU.w {f j : Nat} {g g' : Nat → Int} {x : Int} (D : ArU S h d f g) (e : h' = sAI h (sT S f d) j x) (hg : ∀ i, g' i = if i = j then x else g i) : ArU S h' d f g' := fun i => by
  rw [e, sArr, hg i]
  by_cases q : i = j
  · rw [if_pos q, if_pos q]
  · rw [if_neg q, if_neg q]; exact D i
theorem DGs.r {gs : List (List Nat × Nat)} (fr : Fr S d F h h') (hd : sK S d = 12) (D : DGs S h d gs) (h1 : 1413 ∉ F ∧ 1414 ∉ F ∧ 1415 ∉ F ∧ 1416 ∉ F ∧ ltF4 F := by decide) : DGs S h' d gs := by
  obtain ⟨q1, q2, q3, q4, q5⟩ := h1
  refine ⟨(fr.i 1413 q1).trans D.1, D.2.1, fun i hi => ?_⟩
  obtain ⟨a1, a2, a3, a4, a5⟩ := D.2.2 i hi
  exact ⟨by rw [fr.ai (by have := kT1415 fr.1 hd; omega) (by decide) q3 q5]; exact a1, a2, fr.sg (by decide) q2 q5 a3, by rw [fr.ai (by have := kT1416 fr.1 hd; omega) (by decide) q4 q5]; exact a4, a5⟩
theorem DFi.r {fs : List (List Nat × List Nat)} (fr : Fr S d F h h') (hd : sK S d = 12) (D : DFi S h d fs) (h1 : 1408 ∉ F ∧ 1409 ∉ F ∧ 1410 ∉ F ∧ 1411 ∉ F ∧ 1412 ∉ F ∧ ltF4 F := by decide) : DFi S h' d fs := by
  obtain ⟨q0, q1, q2, q3, q4, q5⟩ := h1
  refine ⟨(fr.i 1408 q0).trans D.1, D.2.1, fun i hi => ?_⟩
  obtain ⟨a1, a2, a3, a4, a5, a6⟩ := D.2.2 i hi
  exact ⟨by rw [fr.ai (by have := kT1410 fr.1 hd; omega) (by decide) q2 q5]; exact a1, a2, fr.sg (by decide) q1 q5 a3, by rw [fr.ai (by have := kT1412 fr.1 hd; omega) (by decide) q4 q5]; exact a4, a5, fr.sg (by decide) q3 q5 a6⟩
theorem DTs.r {ts : List (Bool × TgV)} (fr : Fr S d F h h') (hd : sK S d = 12) (D : DTs S h d ts) (h1 : (∀ f ∈ [1417, 1418, 1419, 1420, 1421, 1422, 1423, 1424, 1425, 1426, 1427, 1428, 1429, 1430], f ∉ F) ∧ ltF4 F := by decide) : DTs S h' d ts := by
  obtain ⟨q, q5⟩ := h1
  refine ⟨(fr.i 1417 (q _ (by decide))).trans D.1, D.2.1, fun t ht => ?_⟩
  obtain ⟨a1, a2, a3, a4, a5, a6, a7, a8, a9, a10, a11, a12, a13, a14, a15, a16, a17⟩ := D.2.2 t ht
  have e : ∀ f, f ∈ [1419, 1420, 1421, 1423, 1424, 1425, 1427, 1429, 1430] → AI h' (sT S f d) = AI h (sT S f d) := fun f hf => by
    have hf2 : (fk f = 40 ∨ fk f = 42) ∧ kFld f = 12 ∧ f < 4096 ∧ f ∈ [1417, 1418, 1419, 1420, 1421, 1422, 1423, 1424, 1425, 1426, 1427, 1428, 1429, 1430] := by
      revert f; decide
    have k := (fr.1.so.2.2.1 f d (by omega) (by omega)).1
    exact fr.ai (by omega) hf2.2.2.1 (q _ hf2.2.2.2) q5
  refine ⟨by rw [e 1419 (by decide)]; exact a1, a2, fr.sg (by decide) (q _ (by decide)) q5 a3, by rw [e 1420 (by decide)]; exact a4, by rw [e 1421 (by decide)]; exact a5, a6, by rw [e 1423 (by decide)]; exact a7, a8, fr.sg (by decide) (q _ (by decide)) q5 a9, by rw [e 1424 (by decide)]; exact a10, a11, fun k hk => ?_, by rw [e 1429 (by decide)]; exact a13, a14, fr.sg (by decide) (q _ (by decide)) q5 a15, by rw [e 1430 (by decide)]; exact a16, a17⟩
  obtain ⟨b1, b2, b3, b4⟩ := a12 k hk
  exact ⟨by rw [e 1425 (by decide)]; exact b1, by rw [e 1427 (by decide)]; exact b2, b3, fr.sg (by decide) (q _ (by decide)) q5 b4⟩
/-- k signs of l written from b on -/
def cpF (g : Nat → Int) (b k : Nat) (l : List Nat) : Nat → Int := fun j => if b ≤ j ∧ j < b + k then ((l.getD (j - b) 0 : Nat) : Int) else g j
theorem cpF_0 {g : Nat → Int} {b : Nat} {l : List Nat} : cpF g b 0 l = g := by
  funext j
  unfold cpF
  rw [if_neg (by omega)]
theorem cpF_s {g : Nat → Int} {b k i : Nat} {l : List Nat} : cpF g b (k + 1) l i = if i = b + k then ((l.getD k 0 : Nat) : Int) else cpF g b k l i := by
  unfold cpF
  by_cases q : i = b + k
  · rw [if_pos q, if_pos (by omega), show i - b = k by omega]
  · rw [if_neg q]
    by_cases z : b ≤ i ∧ i < b + k
    · rw [if_pos z, if_pos (by omega)]
    · rw [if_neg z, if_neg (by omega)]
theorem SgC.fn {b f : Nat} {l : List Nat} (D : SgC S h b f l) (e : ∀ j, j < l.length → AI h' b (f + j) = AI h b (f + j)) : SgC S h' b f l := ⟨D.1, D.2.1, D.2.2.1, fun i hi => (e i hi).trans (D.2.2.2 i hi)⟩
theorem SgC.cpF {f b : Nat} {g : Nat → Int} {l : List Nat} (U : ArU S h d f (cpF g b l.length l)) (hk : sK S (sT S f d) = 40) (hl : b + l.length ≤ sL S (sT S f d)) (h5 : sL S (sT S f d) ≤ 100000) : SgC S h (sT S f d) b l := ⟨hk, hl, h5, fun i hi => by
  rw [U (b + i)]
  show (if b ≤ b + i ∧ b + i < b + l.length then ((l.getD (b + i - b) 0 : Nat) : Int) else g (b + i)) = _
  rw [if_pos ⟨by omega, by omega⟩, Nat.add_sub_cancel_left]⟩
end NOWF
theorem sLD {S : Shp} {h : Hp} {d f : Nat} (ok : Ok S h) (hd : sK S d = 12) (hf : kFld f = 12 ∧ fk f ≠ 0 ∧ fl f ≠ 0 := by decide) : sL S (sT S f d) = fl f := sLT ok (hd.trans hf.1.symm) hf.2.1 rfl hf.2.2
theorem gix_rg (gs : List (List Nat × Nat)) (n : List Nat) : -1 ≤ gix gs n ∧ gix gs n < gs.length := by
  rcases srF_rg (p := fun i => gN gs i == n) (n := gs.length) (i := 0) with z | ⟨j, -, j2, j3, -⟩
  · have z : gix gs n = -1 := z
    omega
  · have j3 : gix gs n = (j : Int) := j3
    omega
/-- flags, but their numbers -/
def DGn (S : Shp) (h : Hp) (d : Nat) (gs : List (List Nat × Nat)) : Prop := FI h 1413 d = gs.length ∧ gs.length ≤ 6 ∧ ∀ i, i < gs.length → AI h (sT S 1415 d) i = (gN gs i).length ∧ (gN gs i).length ≤ 8 ∧ SgC S h (sT S 1414 d) (8 * i) (gN gs i)
theorem DGn.r {S : Shp} {d : Nat} {F : List Nat} {h h' : Hp} {gs : List (List Nat × Nat)} (fr : Fr S d F h h') (hd : sK S d = 12) (D : DGn S h d gs) (h1 : 1413 ∉ F ∧ 1414 ∉ F ∧ 1415 ∉ F ∧ ltF4 F := by decide) : DGn S h' d gs := by
  obtain ⟨q1, q2, q3, q5⟩ := h1
  refine ⟨(fr.i 1413 q1).trans D.1, D.2.1, fun i hi => ?_⟩
  obtain ⟨a1, a2, a3⟩ := D.2.2 i hi
  exact ⟨by rw [fr.ai (by have := kT1415 fr.1 hd; omega) (by decide) q3 q5]; exact a1, a2, fr.sg (by decide) q2 q5 a3⟩
theorem DGs.n {S : Shp} {d : Nat} {h : Hp} {gs : List (List Nat × Nat)} (D : DGs S h d gs) : DGn S h d gs := ⟨D.1, D.2.1, fun i hi => by obtain ⟨a1, a2, a3, a4, a5⟩ := D.2.2 i hi; exact ⟨a1, a2, a3⟩⟩
/-- where the flag's number goes -/
def gsJ (gs gq : List (List Nat × Nat)) (n : List Nat) (v i : Nat) : Prop := i < gq.length ∧ gN gq i = n ∧ gsPut gs n v = gq.set i (n, v) ∧ ∀ j, j < gq.length → j ≠ i → j < gs.length ∧ gK gq j = gK gs j
theorem gsJ_old {gs : List (List Nat × Nat)} {n : List Nat} {v j : Nat} (h : gix gs n = (j : Int)) : gsJ gs gs n v j := by
  have r := gix_rg gs n
  have f := srF_first (p := fun i => gN gs i == n) h
  refine ⟨by omega, eq_of_beq f.2.1, ?_, fun k h1 _ => ⟨h1, rfl⟩⟩
  unfold gsPut
  rw [if_neg (by omega), h, Int.toNat_natCast]
theorem gsJ_new {gs : List (List Nat × Nat)} {n : List Nat} {v : Nat} (h : gix gs n < 0) : gsJ gs (gs ++ [(n, 0)]) n v gs.length := by
  have l : (gs ++ [(n, 0)]).length = gs.length + 1 := by rw [List.length_append]; rfl
  refine ⟨by omega, by rw [(gN_snoc _ _ _).1, if_pos rfl], ?_, fun k h1 h2 => ⟨by omega, by rw [(gN_snoc _ _ _).2, if_neg h2]⟩⟩
  unfold gsPut
  rw [if_pos h]
  simp
theorem gsJ_end {S : Shp} {d i v : Nat} {h : Hp} {gs gq : List (List Nat × Nat)} {n : List Nat} {g : Nat → Int} (J : gsJ gs gq n v i) (DN : DGn S h d gq) (U : ArU S h d 1416 g) (hg : ∀ j, g j = if j = i then ((v : Nat) : Int) else if j < gs.length then ((gK gs j : Nat) : Int) else g j) (hv : v ≤ 9999) (hk : ∀ j, j < gs.length → gK gs j ≤ 9999) : DGs S h d (gsPut gs n v) := by
  obtain ⟨j1, j2, j3, j4⟩ := J
  rw [j3]
  refine ⟨by rw [List.length_set]; exact DN.1, by rw [List.length_set]; exact DN.2.1, fun k hk2 => ?_⟩
  rw [List.length_set] at hk2
  obtain ⟨a1, a2, a3⟩ := DN.2.2 k hk2
  have e : gN (gq.set i (n, v)) k = gN gq k := by
    rw [(gN_set _ _ _ _ j1).1]
    by_cases q : k = i
    · rw [if_pos q, q, j2]
    · rw [if_neg q]
  rw [e]
  refine ⟨a1, a2, a3, ?_, ?_⟩
  · rw [U k, hg k, (gN_set _ _ _ _ j1).2]
    by_cases q : k = i
    · rw [if_pos q, if_pos q]
    · obtain ⟨z1, z2⟩ := j4 k hk2 q
      rw [if_neg q, if_neg q, if_pos z1, z2]
  · rw [(gN_set _ _ _ _ j1).2]
    by_cases q : k = i
    · rw [if_pos q]; exact hv
    · obtain ⟨z1, z2⟩ := j4 k hk2 q
      rw [if_neg q, z2]; exact hk k z1
/-- a flag that came -/
theorem DGn.add {S : Shp} {d : Nat} {h h' : Hp} {gs : List (List Nat × Nat)} {n : List Nat} (ok : Ok S h') (hd : sK S d = 12) (D : DGn S h d gs) (h6 : gs.length < 6) (h8 : n.length ≤ 8) (C : FI h' 1413 d = ((gs.length + 1 : Nat) : Int)) (U15 : ArU S h' d 1415 (fun j => if j = gs.length then ((n.length : Nat) : Int) else AI h (sT S 1415 d) j)) (U14 : ArU S h' d 1414 (cpF (AI h (sT S 1414 d)) (8 * gs.length) n.length n)) : DGn S h' d (gs ++ [(n, 0)]) := by
  have l : (gs ++ [(n, 0)]).length = gs.length + 1 := by rw [List.length_append]; rfl
  refine ⟨by rw [l]; exact C, by omega, fun i hi => ?_⟩
  rw [l] at hi
  rw [(gN_snoc _ _ _).1]
  by_cases q : i = gs.length
  · rw [if_pos q, U15 i]
    dsimp only
    rw [if_pos q, q]
    exact ⟨rfl, h8, SgC.cpF U14 (kT1414 ok hd) (by rw [sLD ok hd]; show 8 * gs.length + n.length ≤ 48; omega) (by rw [sLD ok hd]; decide)⟩
  · rw [if_neg q, U15 i]
    dsimp only
    rw [if_neg q]
    obtain ⟨a1, a2, a3⟩ := D.2.2 i (by omega)
    refine ⟨a1, a2, a3.fn (fun j hj => ?_)⟩
    rw [U14 (8 * i + j)]
    exact if_neg (by omega)
theorem d240_0 : dc 240 0 = some (.aload_n 0, 1) := by decide +kernel
theorem d240_1 : dc 240 1 = some (.getfield 1743, 4) := by decide +kernel
theorem d240_4 : dc 240 4 = some (.aload_n 0, 5) := by decide +kernel
theorem d240_5 : dc 240 5 = some (.getfield 1742, 8) := by decide +kernel
theorem d240_8 : dc 240 8 = some (.isub, 9) := by decide +kernel
theorem d240_9 : dc 240 9 = some (.istore_n 1, 10) := by decide +kernel
theorem d240_10 : dc 240 10 = some (.aload_n 0, 11) := by decide +kernel
theorem d240_11 : dc 240 11 = some (.dload 1664, 14) := by decide +kernel
theorem d240_14 : dc 240 14 = some (.aload_n 0, 15) := by decide +kernel
theorem d240_15 : dc 240 15 = some (.dload 1730, 18) := by decide +kernel
theorem d240_18 : dc 240 18 = some (.aload_n 0, 19) := by decide +kernel
theorem d240_19 : dc 240 19 = some (.getfield 1742, 22) := by decide +kernel
theorem d240_22 : dc 240 22 = some (.iload_n 1, 23) := by decide +kernel
theorem d240_23 : dc 240 23 = some (.invokevirtual 226, 26) := by decide +kernel
theorem d240_26 : dc 240 26 = some (.istore_n 2, 27) := by decide +kernel
theorem d240_27 : dc 240 27 = some (.iload_n 2, 28) := by decide +kernel
theorem d240_28 : dc 240 28 = some (.ifCond .ge ((100 : Nat) : Int), 31) := by decide +kernel
theorem d240_31 : dc 240 31 = some (.aload_n 0, 32) := by decide +kernel
theorem d240_32 : dc 240 32 = some (.dload 1664, 35) := by decide +kernel
theorem d240_35 : dc 240 35 = some (.getfield 1413, 38) := by decide +kernel
theorem d240_38 : dc 240 38 = some (.istore_n 2, 39) := by decide +kernel
theorem d240_39 : dc 240 39 = some (.aload_n 0, 40) := by decide +kernel
theorem d240_40 : dc 240 40 = some (.dload 1664, 43) := by decide +kernel
theorem d240_43 : dc 240 43 = some (.dup, 44) := by decide +kernel
theorem d240_44 : dc 240 44 = some (.getfield 1413, 47) := by decide +kernel
theorem d240_47 : dc 240 47 = some (.iconst 1, 48) := by decide +kernel
theorem d240_48 : dc 240 48 = some (.iadd, 49) := by decide +kernel
theorem d240_49 : dc 240 49 = some (.putfield 1413, 52) := by decide +kernel
theorem d240_52 : dc 240 52 = some (.aload_n 0, 53) := by decide +kernel
theorem d240_53 : dc 240 53 = some (.dload 1664, 56) := by decide +kernel
theorem d240_56 : dc 240 56 = some (.dload 1415, 59) := by decide +kernel
theorem d240_59 : dc 240 59 = some (.iload_n 2, 60) := by decide +kernel
theorem d240_60 : dc 240 60 = some (.iload_n 1, 61) := by decide +kernel
theorem d240_61 : dc 240 61 = some (.iastore, 62) := by decide +kernel
theorem d240_62 : dc 240 62 = some (.iconst 0, 63) := by decide +kernel
theorem d240_63 : dc 240 63 = some (.istore_n 3, 64) := by decide +kernel
theorem d240_64 : dc 240 64 = some (.iload_n 3, 65) := by decide +kernel
theorem d240_65 : dc 240 65 = some (.iload_n 1, 66) := by decide +kernel
theorem d240_66 : dc 240 66 = some (.if_icmp .ge ((100 : Nat) : Int), 69) := by decide +kernel
theorem d240_69 : dc 240 69 = some (.aload_n 0, 70) := by decide +kernel
theorem d240_70 : dc 240 70 = some (.dload 1664, 73) := by decide +kernel
theorem d240_73 : dc 240 73 = some (.dload 1414, 76) := by decide +kernel
theorem d240_76 : dc 240 76 = some (.bipush 8, 78) := by decide +kernel
theorem d240_78 : dc 240 78 = some (.iload_n 2, 79) := by decide +kernel
theorem d240_79 : dc 240 79 = some (.imul, 80) := by decide +kernel
theorem d240_80 : dc 240 80 = some (.iload_n 3, 81) := by decide +kernel
theorem d240_81 : dc 240 81 = some (.iadd, 82) := by decide +kernel
theorem d240_82 : dc 240 82 = some (.aload_n 0, 83) := by decide +kernel
theorem d240_83 : dc 240 83 = some (.dload 1730, 86) := by decide +kernel
theorem d240_86 : dc 240 86 = some (.aload_n 0, 87) := by decide +kernel
theorem d240_87 : dc 240 87 = some (.getfield 1742, 90) := by decide +kernel
theorem d240_90 : dc 240 90 = some (.iload_n 3, 91) := by decide +kernel
theorem d240_91 : dc 240 91 = some (.iadd, 92) := by decide +kernel
theorem d240_92 : dc 240 92 = some (.iaload, 93) := by decide +kernel
theorem d240_93 : dc 240 93 = some (.iastore, 94) := by decide +kernel
theorem d240_94 : dc 240 94 = some (.iinc 3 1, 97) := by decide +kernel
theorem d240_97 : dc 240 97 = some (.goto ((64 : Nat) : Int), 100) := by decide +kernel
theorem d240_100 : dc 240 100 = some (.aload_n 0, 101) := by decide +kernel
theorem d240_101 : dc 240 101 = some (.dload 1664, 104) := by decide +kernel
theorem d240_104 : dc 240 104 = some (.dload 1416, 107) := by decide +kernel
theorem d240_107 : dc 240 107 = some (.iload_n 2, 108) := by decide +kernel
theorem d240_108 : dc 240 108 = some (.aload_n 0, 109) := by decide +kernel
theorem d240_109 : dc 240 109 = some (.dload 1741, 112) := by decide +kernel
theorem d240_112 : dc 240 112 = some (.iconst 0, 113) := by decide +kernel
theorem d240_113 : dc 240 113 = some (.iaload, 114) := by decide +kernel
theorem d240_114 : dc 240 114 = some (.iastore, 115) := by decide +kernel
theorem d240_115 : dc 240 115 = some (.return_, 116) := by decide +kernel
theorem k_M_setFlag {S : Shp} {G : Nat → Option Nat} {d : Nat} {h : Hp} {Q : Option MV → Hp → Prop} {m : Nat} {f e v : Nat} {n : List Nat} {gs : List (List Nat × Nat)} (ok : Ok S h) (h1 : 2 ≤ d) (hm : sK S m = 14) (NM_ : NmR h m f e) (SG_ : SgC S h (sT S 1730 m) f n) (GD : DGs S h (sT S 1664 m) gs) (A0_ : ArI S h m 1741 (fun _ => ((v : Nat) : Int)) 1) (hn : f + n.length = e) (h8 : n.length ≤ 8) (hv : v ≤ 9999) (hr : gix gs n < 0 → gs.length < 6)
    (kk : ∀ h', Fr S (sT S 1664 m) [1413, 1414, 1415, 1416] h h' → DGs S h' (sT S 1664 m) (gsPut gs n v) → Q none h') : Cl G d 240 [vR (some m)] h Q := by
  show Wp G d 240 0 [some (vR (some m)), none, none, none] [] h Q
  have NM__0 := NM_
  have SG__0 := SG_
  have GD_0 := GD
  have A0__0 := A0_
  have hd0 := kT1664 ok hm
  have rg_ := gix_rg gs n
  have sb := SG_.2.1
  have sb2 := SG_.2.2.1
  have g6 := GD.2.1
  refine w_aload_n d240_0 rfl ?_
  refine w_getI (x := ((e : Nat) : Int)) d240_1 (ok.kd hm) NM_.2 ?_
  refine w_aload_n d240_4 rfl ?_
  refine w_getI (x := ((f : Nat) : Int)) d240_5 (ok.kd hm) NM_.1 ?_
  refine w_isub d240_8 (by constructor <;> omega) ?_
  rw [show ((e : Nat) : Int) - ((f : Nat) : Int) = ((n.length : Nat) : Int) by omega]
  refine w_istore1 d240_9 rfl ?_
  refine w_aload_n d240_10 rfl ?_
  refine w_dloadS d240_11 (ok.kd hm) (fr1664 ok hm) ?_
  refine w_aload_n d240_14 rfl ?_
  refine w_dloadS d240_15 (ok.kd hm) (fr1730 ok hm) ?_
  refine w_aload_n d240_18 rfl ?_
  refine w_getI (x := ((f : Nat) : Int)) d240_19 (ok.kd hm) NM_.1 ?_
  refine w_iload_n d240_22 rfl ?_
  refine w_callv4 d240_23 (by omega) rfl (ok.kd (kT1664 ok hm)) (by simp) (Nat.le_of_ble_eq_true rfl) ?_
  refine k_D_flagOf ok (by omega) (kT1664 ok hm) GD rfl SG_ ?_
  refine w_istore2 d240_26 rfl ?_
  have DN := GD.n
  have U16 : ArU S h (sT S 1664 m) 1416 (AI h (sT S 1416 (sT S 1664 m))) := fun _ => rfl
  refine w_iload_n d240_27 rfl ?_
  have L100 : ∀ (m100 : Nat) (b_ : Hp) (i : Nat) (gq : List (List Nat × Nat)), 0 = m100 → Fr S (sT S 1664 m) [1413, 1414, 1415, 1416] h b_ → (gsJ gs gq n v i) → (DGn S b_ (sT S 1664 m) gq) → (ArU S b_ (sT S 1664 m) 1416 (AI h (sT S 1416 (sT S 1664 m)))) → Wp G d 240 100 [some (vR (some m)), some (vI (n.length : Nat)), some (vI (i : Nat)), none] [] b_ Q := by
    intro m100
    induction m100 using Nat.strongRecOn with | ind m100 IH100 => ?_
    intro b_ i gq hm100 FRb_ gj DN U16
    have okb_ := FRb_.ok
    have NM_ := NmR.s FRb_ hm NM__0
    have SG_ := SgC.s FRb_ hm SG__0
    have A0_ := ArI.nw FRb_ hm A0__0
    refine w_aload_n d240_100 rfl ?_
    refine w_dloadS d240_101 (okb_.kd hm) (fr1664 okb_ hm) ?_
    refine w_dloadS d240_104 (okb_.kd (kT1664 okb_ hm)) (fr1416 okb_ (kT1664 okb_ hm)) ?_
    refine w_iload_n d240_107 rfl ?_
    refine w_aload_n d240_108 rfl ?_
    refine w_dloadS d240_109 (okb_.kd hm) (fr1741 okb_ hm) ?_
    refine w_iconst d240_112 (by decide) ?_
    refine w_ialoadV (x := ((v : Nat) : Int)) d240_113 (gi1741 okb_ hm (by omega)) (A0_ 0 (by decide)) ?_
    have i6 : i < 6 := by have := gj.1; have := DN.2.1; omega
    refine wa1416 d240_114 okb_ (kT1664 okb_ hm) (by omega) (by omega) (fun h114 e114 m114 => ?_)
    have e114 : h114 = sAI b_ (sT S 1416 (sT S 1664 m)) i ((v : Nat) : Int) := e114
    have f114 : Fr S (sT S 1664 m) [1416] _ _ := Fr.wBd okb_ hd0 m114 (fun ζ e => ⟨1416, by decide, by decide, e ▸ U_refl⟩)
    have ok114 := f114.ok
    have FR114 := Fr.tr (F := [1413, 1414, 1415, 1416]) FRb_ f114 (by decide) (by decide)
    have NM_ := NmR.s f114 hm NM_
    have SG_ := SgC.s f114 hm SG_
    have A0_ := ArI.nw f114 hm A0_
    have DN := DGn.r f114 hd0 DN
    have U16 : ArU S h114 (sT S 1664 m) 1416 (fun j => if j = i then ((v : Nat) : Int) else AI h (sT S 1416 (sT S 1664 m)) j) := U16.w e114 (fun _ => rfl)
    refine w_return d240_115 ?_
    exact kk h114 FR114 (gsJ_end gj DN U16 (fun j => by
      by_cases q : j = i
      · rw [if_pos q, if_pos q]
      · rw [if_neg q, if_neg q]
        by_cases z : j < gs.length
        · rw [if_pos z]; exact (GD_0.2.2 j z).2.2.2.1
        · rw [if_neg z]) hv (fun j hj => (GD_0.2.2 j hj).2.2.2.2))
  refine w_ifge d240_28 (fun c28 => ?_) (fun c28 => ?_)
  · obtain ⟨j, hj⟩ : ∃ j : Nat, gix gs n = (j : Int) := ⟨(gix gs n).toNat, by omega⟩
    rw [hj]
    have gj : gsJ gs gs n v j := gsJ_old hj
    refine w_less ?_ (L100 _ h _ _ rfl (Fr.refl ok) gj DN U16)
    exact ⟨Or.inr rfl, Or.inr rfl, Or.inr rfl, Or.inl rfl, trivial⟩
  · have new : gix gs n < 0 := by omega
    have l6 := hr new
    have gj : gsJ gs (gs ++ [(n, 0)]) n v gs.length := gsJ_new new
    have DN0 := DN
    have U15 : ArU S h (sT S 1664 m) 1415 (AI h (sT S 1415 (sT S 1664 m))) := fun _ => rfl
    have U14 : ArU S h (sT S 1664 m) 1414 (cpF (AI h (sT S 1414 (sT S 1664 m))) (8 * gs.length) 0 n) := by rw [cpF_0]; exact fun _ => rfl
    refine w_aload_n d240_31 rfl ?_
    refine w_dloadS d240_32 (ok.kd hm) (fr1664 ok hm) ?_
    refine w_getI (x := ((gs.length : Nat) : Int)) d240_35 (ok.kd (kT1664 ok hm)) GD.1 ?_
    refine w_istore2 d240_38 rfl ?_
    refine w_aload_n d240_39 rfl ?_
    refine w_dloadS d240_40 (ok.kd hm) (fr1664 ok hm) ?_
    refine w_dupR d240_43 ?_
    refine w_getI (x := ((gs.length : Nat) : Int)) d240_44 (ok.kd (kT1664 ok hm)) GD.1 ?_
    refine w_iconst d240_47 (by decide) ?_
    refine w_iadd d240_48 (by constructor <;> omega) ?_
    refine wf1413 d240_49 ok (kT1664 ok hm) (by omega) (fun h49 e49 m49 => ?_)
    have f49 : Fr S (sT S 1664 m) [1413] _ _ := Fr.wF ok m49 (FK.pI e49)
    have ok49 := f49.ok
    have FR49 := Fr.le (F := [1413, 1414, 1415, 1416]) f49 (by decide)
    have NM_ := NmR.s f49 hm NM_
    have SG_ := SgC.s f49 hm SG_
    have A0_ := ArI.nw f49 hm A0_
    have U16 := ArU.r f49 hd0 U16
    have U15 := ArU.r f49 hd0 U15
    have U14 := ArU.r f49 hd0 U14
    have C13 : FI h49 1413 (sT S 1664 m) = ((gs.length + 1 : Nat) : Int) := by rw [e49, FI_sFI, if_pos ⟨rfl, rfl⟩]; rfl
    refine w_aload_n d240_52 rfl ?_
    refine w_dloadS d240_53 (ok49.kd hm) (fr1664 ok49 hm) ?_
    refine w_dloadS d240_56 (ok49.kd (kT1664 ok49 hm)) (fr1415 ok49 (kT1664 ok49 hm)) ?_
    refine w_iload_n d240_59 rfl ?_
    refine w_iload_n d240_60 rfl ?_
    refine wa1415 d240_61 ok49 (kT1664 ok49 hm) (by omega) (by omega) (fun h61 e61 m61 => ?_)
    have e61 : h61 = sAI h49 (sT S 1415 (sT S 1664 m)) gs.length ((n.length : Nat) : Int) := e61
    have f61 : Fr S (sT S 1664 m) [1415] _ _ := Fr.wBd ok49 hd0 m61 (fun ζ e => ⟨1415, by decide, by decide, e ▸ U_refl⟩)
    have ok61 := f61.ok
    have FR61 := Fr.tr (F := [1413, 1414, 1415, 1416]) FR49 f61 (by decide) (by decide)
    have NM_ := NmR.s f61 hm NM_
    have SG_ := SgC.s f61 hm SG_
    have A0_ := ArI.nw f61 hm A0_
    have U16 := ArU.r f61 hd0 U16
    have U14 := ArU.r f61 hd0 U14
    have C13 := (Fr.i f61 1413).trans C13
    have U15 : ArU S h61 (sT S 1664 m) 1415 (fun j => if j = gs.length then ((n.length : Nat) : Int) else AI h (sT S 1415 (sT S 1664 m)) j) := U15.w e61 (fun _ => rfl)
    refine w_iconst d240_62 (by decide) ?_
    refine w_istore3 d240_63 rfl ?_
    have L64 : ∀ (m64 : Nat) (g_ : Hp) (k : Nat), n.length - k = m64 → Fr S (sT S 1664 m) [1413, 1414, 1415, 1416] h g_ → (k ≤ n.length) → (ArU S g_ (sT S 1664 m) 1414 (cpF (AI h (sT S 1414 (sT S 1664 m))) (8 * gs.length) k n)) → (FI g_ 1413 (sT S 1664 m) = ((gs.length + 1 : Nat) : Int)) → (ArU S g_ (sT S 1664 m) 1415 (fun j => if j = gs.length then ((n.length : Nat) : Int) else AI h (sT S 1415 (sT S 1664 m)) j)) → (ArU S g_ (sT S 1664 m) 1416 (AI h (sT S 1416 (sT S 1664 m)))) → Wp G d 240 64 [some (vR (some m)), some (vI (n.length : Nat)), some (vI (gs.length : Nat)), some (vI (k : Nat))] [] g_ Q := by
      intro m64
      induction m64 using Nat.strongRecOn with | ind m64 IH64 => ?_
      intro g_ k hm64 FRg_ kl U14 C13 U15 U16
      have okg_ := FRg_.ok
      have NM_ := NmR.s FRg_ hm NM__0
      have SG_ := SgC.s FRg_ hm SG__0
      have A0_ := ArI.nw FRg_ hm A0__0
      refine w_iload_n d240_64 rfl ?_
      refine w_iload_n d240_65 rfl ?_
      refine w_icmpge d240_66 (fun c66 => ?_) (fun c66 => ?_)
      · have ek : k = n.length := by omega
        rw [ek] at U14
        have DN := DGn.add okg_ hd0 DN0 l6 h8 C13 U15 U14
        refine w_less ?_ (L100 _ g_ _ _ rfl FRg_ gj DN U16)
        exact ⟨Or.inr rfl, Or.inr rfl, Or.inr rfl, Or.inl rfl, trivial⟩
      · have hk : k < n.length := by omega
        have rc := ra1730 okg_ hm (f + k)
        rw [SG_.2.2.2 k hk] at rc
        refine w_aload_n d240_69 rfl ?_
        refine w_dloadS d240_70 (okg_.kd hm) (fr1664 okg_ hm) ?_
        refine w_dloadS d240_73 (okg_.kd (kT1664 okg_ hm)) (fr1414 okg_ (kT1664 okg_ hm)) ?_
        refine w_bipush d240_76 (by decide) ?_
        refine w_iload_n d240_78 rfl ?_
        refine w_imul d240_79 (by constructor <;> omega) ?_
        refine w_iload_n d240_80 rfl ?_
        rw [show (8 : Int) * ((gs.length : Nat) : Int) = ((8 * gs.length : Nat) : Int) by omega]
        refine w_iadd d240_81 (by constructor <;> omega) ?_
        rw [show ((8 * gs.length : Nat) : Int) + ((k : Nat) : Int) = ((8 * gs.length + k : Nat) : Int) by omega]
        refine w_aload_n d240_82 rfl ?_
        refine w_dloadS d240_83 (okg_.kd hm) (fr1730 okg_ hm) ?_
        refine w_aload_n d240_86 rfl ?_
        refine w_getI (x := ((f : Nat) : Int)) d240_87 (okg_.kd hm) NM_.1 ?_
        refine w_iload_n d240_90 rfl ?_
        refine w_iadd d240_91 (by constructor <;> omega) ?_
        refine w_ialoadV (x := ((n.getD k 0 : Nat) : Int)) d240_92 (SG_.g okg_ hk) (SG_.at hk) ?_
        refine wa1414 d240_93 okg_ (kT1664 okg_ hm) (by omega) (by omega) (fun h93 e93 m93 => ?_)
        have e93 : h93 = sAI g_ (sT S 1414 (sT S 1664 m)) (8 * gs.length + k) ((n.getD k 0 : Nat) : Int) := e93
        have f93 : Fr S (sT S 1664 m) [1414] _ _ := Fr.wBd okg_ hd0 m93 (fun ζ e => ⟨1414, by decide, by decide, e ▸ U_refl⟩)
        have ok93 := f93.ok
        have FR93 := Fr.tr (F := [1413, 1414, 1415, 1416]) FRg_ f93 (by decide) (by decide)
        have C13 := (Fr.i f93 1413).trans C13
        have U15 := ArU.r f93 hd0 U15
        have U16 := ArU.r f93 hd0 U16
        have NM_ := NmR.s f93 hm NM_
        have SG_ := SgC.s f93 hm SG_
        have A0_ := ArI.nw f93 hm A0_
        have U14 : ArU S h93 (sT S 1664 m) 1414 (cpF (AI h (sT S 1414 (sT S 1664 m))) (8 * gs.length) (k + 1) n) := U14.w e93 (fun _ => cpF_s)
        refine w_iinc3 d240_94 rfl (by constructor <;> omega) ?_
        refine w_goto d240_97 ?_
        rw [show ((k : Nat) : Int) + 1 = ((k + 1 : Nat) : Int) by omega]
        refine w_less ?_ (IH64 _ (by omega) h93 (k + 1) rfl FR93 (by omega) U14 C13 U15 U16)
        exact ⟨Or.inr rfl, Or.inr rfl, Or.inr rfl, Or.inr rfl, trivial⟩
    refine w_less ?_ (L64 _ h61 0 rfl FR61 (Nat.zero_le _) U14 C13 U15 U16)
    exact ⟨Or.inr rfl, Or.inr rfl, Or.inr rfl, Or.inr rfl, trivial⟩
