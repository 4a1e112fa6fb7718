/-! the reference: what is made, lines -/
/-- what is made: T, cut at its room; the face F -/
def MkR (S : Shp) (h : Hp) (m : Nat) (T F : List Nat) : Prop := OmC S h (sT S 1683 m) (T.take 600, F, []) ∧ FI h 1685 m = b2i (decide (600 < T.length))
theorem MkR.r {S : Shp} {m : Nat} {F : List Nat} {h h' : Hp} {T X : List Nat} (D : MkR S h m T X) (fr : Fr S m F h h') (hm : sK S m = 14) (h1 : 1683 ∉ F ∧ 1685 ∉ F ∧ ltF4 F := by decide) : MkR S h' m T X := ⟨D.1.u fr.1 fr.mo (kT1683 fr.1 hm) (fun _ u => fr.no (by decide) h1.1 h1.2.2 u), (fr.i 1685 h1.2.1).trans D.2⟩
theorem take_lt {T : List Nat} {c n : Nat} (h : T.length < n) : (T ++ [c]).take n = T.take n ++ [c] := by
  rw [List.take_of_length_le (by simp; omega), List.take_of_length_le (by omega)]
theorem take_ge {T : List Nat} {c n : Nat} (h : n ≤ T.length) : (T ++ [c]).take n = T.take n := List.take_append_of_le_length h
theorem sl_td {l : List Nat} {f e : Nat} : sl l f e = (l.take e).drop f := by unfold sl; rw [List.drop_take]
theorem getD_take {l : List Nat} {i e : Nat} (h : i < e) : (l.take e).getD i 0 = l.getD i 0 := by
  rw [List.getD_eq_getElem?_getD, List.getD_eq_getElem?_getD, List.getElem?_take, if_pos h]
theorem lineE_take {l : List Nat} {e : Nat} (he : e ≤ l.length) : ∀ (n i : Nat), e - i = n → i ≤ e → lineE (l.take e) i = min (lineE l i) e
  | 0, i, hn, hi => by
    rw [lineE_stop (Or.inl (by rw [List.length_take]; omega))]
    have := lineE_ge l i
    omega
  | n + 1, i, hn, hi => by
    have lt : i < (l.take e).length := by rw [List.length_take]; omega
    by_cases q : l.getD i 0 = 10
    · rw [lineE_stop (l := l) (Or.inr q), lineE_stop (l := l.take e) (Or.inr (by rw [getD_take (by omega)]; exact q))]
      omega
    · rw [lineE_go (l := l) (by omega) q, lineE_go (l := l.take e) lt (by rw [getD_take (by omega)]; exact q)]
      exact lineE_take he n (i + 1) (by omega) (by omega)
theorem sl_take {l : List Nat} {f k e : Nat} (h : k ≤ e) : sl (l.take e) f k = sl l f k := by
  rw [sl_td, sl_td, List.take_take, Nat.min_eq_left h]
theorem lns_sl {l : List Nat} {i e : Nat} (he : e ≤ l.length) (hi : i < e) : lns (sl l i e) = sl l i (min (lineE l i) e) :: lns (sl l (min (lineE l i) e + 1) e) := by
  have a := lns_at (l := l.take e) (i := i) (by rw [List.length_take]; omega)
  rw [lineE_take he _ i rfl (by omega)] at a
  rw [sl_td, a, sl_take (Nat.min_le_right _ _), sl_td (f := min (lineE l i) e + 1)]
theorem sl_gt {l : List Nat} {f e : Nat} (h : e ≤ f) : sl l f e = [] := by
  unfold sl
  rw [show e - f = 0 by omega]; rfl
/-- the lines that are found -/
def LnR (S : Shp) (h : Hp) (m : Nat) (l : List Nat) (ls : List (List Nat)) : Prop := FI h 1688 m = ls.length ∧ ls.length ≤ 3601 ∧ SoA l (AI h (sT S 1686 m)) (AI h (sT S 1687 m)) ls
theorem LnR.r {S : Shp} {m : Nat} {F : List Nat} {h h' : Hp} {l : List Nat} {ls : List (List Nat)} (D : LnR S h m l ls) (fr : Fr S m F h h') (hm : sK S m = 14) (h1 : 1686 ∉ F ∧ 1687 ∉ F ∧ 1688 ∉ F ∧ ltF4 F := by decide) : LnR S h' m l ls := ⟨(fr.i 1688 h1.2.2.1).trans D.1, D.2.1, by rw [fr.ai (by have := kT1686 fr.1 hm; omega) (by decide) h1.1 h1.2.2.2, fr.ai (by have := kT1687 fr.1 hm; omega) (by decide) h1.2.1 h1.2.2.2]; exact D.2.2⟩
/-- where a line stands -/
theorem LnR.at {S : Shp} {h : Hp} {m k : Nat} {l : List Nat} {ls : List (List Nat)} (D : LnR S h m l ls) (ok : Ok S h) (hm : sK S m = 14) (hk : k < ls.length) : ∃ f e : Nat, AI h (sT S 1686 m) k = (f : Nat) ∧ AI h (sT S 1687 m) k = (e : Nat) ∧ (f ≤ e ∧ e ≤ l.length) ∧ sl l f e = ls.getD k [] := by
  obtain ⟨s1, s2, s3⟩ := D.2.2 k hk
  have r1 := ra1686 ok hm k
  have r2 := ra1687 ok hm k
  exact ⟨(AI h (sT S 1686 m) k).toNat, (AI h (sT S 1687 m) k).toNat, by omega, by omega, by omega, s3⟩
theorem d282_0 : dc 282 0 = some (.aload_n 0, 1) := by decide +kernel
theorem d282_1 : dc 282 1 = some (.dload 1683, 4) := by decide +kernel
theorem d282_4 : dc 282 4 = some (.getfield 1537, 7) := by decide +kernel
theorem d282_7 : dc 282 7 = some (.sipush 600, 10) := by decide +kernel
theorem d282_10 : dc 282 10 = some (.if_icmp .ne ((19 : Nat) : Int), 13) := by decide +kernel
theorem d282_13 : dc 282 13 = some (.aload_n 0, 14) := by decide +kernel
theorem d282_14 : dc 282 14 = some (.iconst 1, 15) := by decide +kernel
theorem d282_15 : dc 282 15 = some (.putstatic 1685, 18) := by decide +kernel
theorem d282_18 : dc 282 18 = some (.return_, 19) := by decide +kernel
theorem d282_19 : dc 282 19 = some (.aload_n 0, 20) := by decide +kernel
theorem d282_20 : dc 282 20 = some (.dload 1683, 23) := by decide +kernel
theorem d282_23 : dc 282 23 = some (.dload 1536, 26) := by decide +kernel
theorem d282_26 : dc 282 26 = some (.aload_n 0, 27) := by decide +kernel
theorem d282_27 : dc 282 27 = some (.dload 1683, 30) := by decide +kernel
theorem d282_30 : dc 282 30 = some (.getfield 1537, 33) := by decide +kernel
theorem d282_33 : dc 282 33 = some (.iload_n 1, 34) := by decide +kernel
theorem d282_34 : dc 282 34 = some (.iastore, 35) := by decide +kernel
theorem d282_35 : dc 282 35 = some (.aload_n 0, 36) := by decide +kernel
theorem d282_36 : dc 282 36 = some (.dload 1683, 39) := by decide +kernel
theorem d282_39 : dc 282 39 = some (.dup, 40) := by decide +kernel
theorem d282_40 : dc 282 40 = some (.getfield 1537, 43) := by decide +kernel
theorem d282_43 : dc 282 43 = some (.iconst 1, 44) := by decide +kernel
theorem d282_44 : dc 282 44 = some (.iadd, 45) := by decide +kernel
theorem d282_45 : dc 282 45 = some (.putfield 1537, 48) := by decide +kernel
theorem d282_48 : dc 282 48 = some (.return_, 49) := by decide +kernel
theorem k_M_out {S : Shp} {G : Nat → Option Nat} {d : Nat} {h : Hp} {Q : Option MV → Hp → Prop} {m : Nat} {c : Nat} {T X : List Nat} (ok : Ok S h) (h1 : 0 ≤ d) (hm : sK S m = 14) (MK : MkR S h m T X) (hc : c ≤ 255)
    (kk : ∀ h', Fr S m [1683, 1685] h h' → MkR S h' m (T ++ [c]) X → Q none h') : Cl G d 282 [vR (some m), vI (c : Nat)] h Q := by
  show Wp G d 282 0 [some (vR (some m)), some (vI (c : Nat))] [] h Q
  have MK_0 := MK
  have ko := kT1683 ok hm
  have s1 := sLT ok (f := 1536) (n := 600) ko (by decide) rfl (by decide)
  obtain ⟨o1, o2, o3, o4, o5, o6⟩ := MK.1
  have lT : (T.take 600).length = min 600 T.length := List.length_take
  refine w_aload_n d282_0 rfl ?_
  refine w_dloadS d282_1 (ok.kd hm) (fr1683 ok hm) ?_
  refine w_getI (x := (((T.take 600).length : Nat) : Int)) d282_4 (ok.kd (kT1683 ok hm)) o1 ?_
  refine w_sipush d282_7 (by decide) ?_
  refine w_icmpne d282_10 (fun c10 => ?_) (fun c10 => ?_)
  · have hl : T.length < 600 := by omega
    have e1 := take_lt (c := c) hl
    refine w_aload_n d282_19 rfl ?_
    refine w_dloadS d282_20 (ok.kd hm) (fr1683 ok hm) ?_
    refine w_dloadS d282_23 (ok.kd (kT1683 ok hm)) (fr1536 ok (kT1683 ok hm)) ?_
    refine w_aload_n d282_26 rfl ?_
    refine w_dloadS d282_27 (ok.kd hm) (fr1683 ok hm) ?_
    refine w_getI (x := (((T.take 600).length : Nat) : Int)) d282_30 (ok.kd (kT1683 ok hm)) o1 ?_
    refine w_iload_n d282_33 rfl ?_
    refine wa1536 d282_34 ok (kT1683 ok hm) (by omega) (by omega) (fun h34 e34 m34 => ?_)
    have e34 : h34 = sAI h (sT S 1536 (sT S 1683 m)) (T.take 600).length ((c : Nat) : Int) := e34
    have f34 : Fr S m [1683] _ _ := Fr.wB ok hm m34 (fun ζ e => ⟨1683, by decide, by decide, e ▸ (ok.so.uT (by decide) U_refl)⟩)
    have ok34 := f34.ok
    have FR34 := Fr.le (F := [1683, 1685]) f34 (by decide)
    refine w_aload_n d282_35 rfl ?_
    refine w_dloadS d282_36 (ok34.kd hm) (fr1683 ok34 hm) ?_
    refine w_dupR d282_39 ?_
    refine w_getI (x := (((T.take 600).length : Nat) : Int)) d282_40 (ok34.kd (kT1683 ok34 hm)) ((m34.fi ok (by omega) (fun z => ok.so.pT (f := 1536) (by decide) z.symm) 1537).trans o1) ?_
    refine w_iconst d282_43 (by decide) ?_
    refine w_iadd d282_44 (by constructor <;> omega) ?_
    refine wf1537 d282_45 ok34 (kT1683 ok34 hm) (by omega) (fun h45 e45 m45 => ?_)
    have f45 : Fr S m [1683] _ _ := Fr.wB ok34 hm m45 (fun ζ e => ⟨1683, by decide, by decide, e ▸ U_refl⟩)
    have ok45 := f45.ok
    have FR45 := Fr.tr (F := [1683, 1685]) FR34 f45 (by decide) (by decide)
    refine w_return d282_48 ?_
    have o4 : SgC S h (sT S 1536 (sT S 1683 m)) 0 (T.take 600) := o4
    have w9 : SgC S h34 (sT S 1536 (sT S 1683 m)) 0 (T.take 600 ++ [c]) := o4.snoc (by rw [e34, Nat.zero_add]) (by omega)
    have n1 : ∀ f, f < 4096 → ¬ sT S f (sT S 1683 m) = (sT S 1683 m) := fun f hf z => ok.so.pT (f := f) hf z
    have mv : ∀ f, f < 4096 → f ≠ 1536 → ∀ z, SgC S h (sT S f (sT S 1683 m)) 0 z → SgC S h45 (sT S f (sT S 1683 m)) 0 z := fun f hf nf z D => (D.mo ok m34 (fun y => nf ((ok.so.inj hf (by decide)).mp y).1)).mo ok34 m45 (n1 f hf)
    have fi : ∀ f, f ≠ 641 → f ≠ 1537 → FI h45 f (sT S 1683 m) = FI h f (sT S 1683 m) := fun f hf nf => by rw [e45, FI_sFI, if_neg (fun z => nf z.1)]; exact m34.fi ok (by omega) (fun z => ok.so.pT (f := 1536) (by decide) z.symm) f hf
    refine kk h45 FR45 ⟨⟨?_, (fi 1539 (by decide) (by decide)).trans o2, (fi 1541 (by decide) (by decide)).trans o3, ?_, mv 1538 (by decide) (by decide) _ o5, mv 1540 (by decide) (by decide) _ o6⟩, ?_⟩
    · rw [e45, FI_sFI, if_pos ⟨rfl, rfl⟩]; show _ = (((T ++ [c]).take 600).length : Int); rw [e1, List.length_append, List.length_singleton]; omega
    · show SgC S h45 _ 0 ((T ++ [c]).take 600); rw [e1]; exact w9.mo ok34 m45 (n1 1536 (by decide))
    · rw [(f45.i 1685).trans (f34.i 1685)]; exact MK_0.2.trans (by rw [decide_eq_false (show ¬ 600 < T.length by omega), decide_eq_false (show ¬ 600 < (T ++ [c]).length by simp; omega)])
  · have hl : 600 ≤ T.length := by omega
    have e1 := take_ge (c := c) hl
    refine w_aload_n d282_13 rfl ?_
    refine w_iconst d282_14 (by decide) ?_
    refine wf1685 d282_15 ok hm (by omega) (fun h15 e15 m15 => ?_)
    have f15 : Fr S m [1685] _ _ := Fr.wF ok m15 (FK.pI e15)
    have ok15 := f15.ok
    have FR15 := Fr.le (F := [1683, 1685]) f15 (by decide)
    refine w_return d282_18 ?_
    refine kk h15 FR15 ⟨?_, ?_⟩
    · rw [e1]; exact MK_0.1.u ok f15.mo ko (fun _ u => f15.no (by decide) (by decide) (by decide) u)
    · rw [e15, FI_sFI, if_pos ⟨rfl, rfl⟩, decide_eq_true (show 600 < (T ++ [c]).length by simp; omega)]; rfl
theorem d270_0 : dc 270 0 = some (.iload_n 1, 1) := by decide +kernel
theorem d270_1 : dc 270 1 = some (.istore_n 3, 2) := by decide +kernel
theorem d270_2 : dc 270 2 = some (.iload_n 3, 3) := by decide +kernel
theorem d270_3 : dc 270 3 = some (.iload_n 2, 4) := by decide +kernel
theorem d270_4 : dc 270 4 = some (.if_icmp .ge ((24 : Nat) : Int), 7) := by decide +kernel
theorem d270_7 : dc 270 7 = some (.aload_n 0, 8) := by decide +kernel
theorem d270_8 : dc 270 8 = some (.dload 1681, 11) := by decide +kernel
theorem d270_11 : dc 270 11 = some (.iload_n 3, 12) := by decide +kernel
theorem d270_12 : dc 270 12 = some (.iaload, 13) := by decide +kernel
theorem d270_13 : dc 270 13 = some (.bipush 10, 15) := by decide +kernel
theorem d270_15 : dc 270 15 = some (.if_icmp .eq ((24 : Nat) : Int), 18) := by decide +kernel
theorem d270_18 : dc 270 18 = some (.iinc 3 1, 21) := by decide +kernel
theorem d270_21 : dc 270 21 = some (.goto ((2 : Nat) : Int), 24) := by decide +kernel
theorem d270_24 : dc 270 24 = some (.iload_n 3, 25) := by decide +kernel
theorem d270_25 : dc 270 25 = some (.ireturn, 26) := by decide +kernel
theorem k_M_lineEnd {S : Shp} {G : Nat → Option Nat} {d : Nat} {h : Hp} {Q : Option MV → Hp → Prop} {m : Nat} {f : Nat} {e : Nat} {l : List Nat} (ok : Ok S h) (h1 : 0 ≤ d) (hm : sK S m = 14) (AL : AlR S h m l) (he : f ≤ e ∧ e ≤ l.length)
    (kk : Q (some (vI (min (lineE l f) e : Nat))) h) : Cl G d 270 [vR (some m), vI (f : Nat), vI (e : Nat)] h Q := by
  show Wp G d 270 0 [some (vR (some m)), some (vI (f : Nat)), some (vI (e : Nat)), none] [] h Q
  have AL_0 := AL
  have l3 : l.length ≤ 100000 := by have := AL.2.2.1; have := AL.2.2.2.1; omega
  refine w_iload_n d270_0 rfl ?_
  refine w_istore3 d270_1 rfl ?_
  have L2 : ∀ (m2 : Nat) (i : Nat), e - i = m2 → (f ≤ i ∧ i ≤ e) → (lineE l i = lineE l f) → Wp G d 270 2 [some (vR (some m)), some (vI (f : Nat)), some (vI (e : Nat)), some (vI (i : Nat))] [] h Q := by
    intro m2
    induction m2 using Nat.strongRecOn with | ind m2 IH2 => ?_
    intro i hm2 il el
    refine w_iload_n d270_2 rfl ?_
    refine w_iload_n d270_3 rfl ?_
    refine w_icmpge d270_4 (fun c4 => ?_) (fun c4 => ?_)
    · have ie : i = e := by omega
      have r : min (lineE l f) e = i := by have := lineE_ge l i; omega
      rw [r] at kk
      refine w_iload_n d270_24 rfl ?_
      refine w_ireturn d270_25 ?_
      exact kk
    · refine w_aload_n d270_7 rfl ?_
      refine w_dloadS d270_8 (ok.kd hm) (fr1681 ok hm) ?_
      refine w_iload_n d270_11 rfl ?_
      refine w_ialoadV (x := ((l.getD i 0 : Nat) : Int)) d270_12 (by have := AL.2.g ok (k := i) (by omega); rwa [show (((0 : Nat) : Int) + ((i : Nat) : Int)) = ((i : Nat) : Int) by omega] at this) (AL.2.at0 (by omega)) ?_
      refine w_bipush d270_13 (by decide) ?_
      refine w_icmpeq d270_15 (fun c15 => ?_) (fun c15 => ?_)
      · have ei := lineE_stop (l := l) (i := i) (Or.inr (by omega))
        have r : min (lineE l f) e = i := by omega
        rw [r] at kk
        refine w_iload_n d270_24 rfl ?_
        refine w_ireturn d270_25 ?_
        exact kk
      · have eg := lineE_go (l := l) (i := i) (by omega) (by omega)
        refine w_iinc3 d270_18 rfl (by constructor <;> omega) ?_
        refine w_goto d270_21 ?_
        rw [show ((i : Nat) : Int) + 1 = ((i + 1 : Nat) : Int) by omega]
        refine w_less ?_ (IH2 _ (by omega) (i + 1) rfl (by omega) (by omega))
        exact ⟨Or.inr rfl, Or.inr rfl, Or.inr rfl, Or.inr rfl, trivial⟩
  refine w_less ?_ (L2 _ f rfl (by omega) rfl)
  exact ⟨Or.inr rfl, Or.inr rfl, Or.inr rfl, Or.inr rfl, trivial⟩
theorem d287_0 : dc 287 0 = some (.iload_n 1, 1) := by decide +kernel
theorem d287_1 : dc 287 1 = some (.istore_n 3, 2) := by decide +kernel
theorem d287_2 : dc 287 2 = some (.iload_n 3, 3) := by decide +kernel
theorem d287_3 : dc 287 3 = some (.iload_n 2, 4) := by decide +kernel
theorem d287_4 : dc 287 4 = some (.if_icmp .ge ((23 : Nat) : Int), 7) := by decide +kernel
theorem d287_7 : dc 287 7 = some (.aload_n 0, 8) := by decide +kernel
theorem d287_8 : dc 287 8 = some (.aload_n 0, 9) := by decide +kernel
theorem d287_9 : dc 287 9 = some (.dload 1681, 12) := by decide +kernel
theorem d287_12 : dc 287 12 = some (.iload_n 3, 13) := by decide +kernel
theorem d287_13 : dc 287 13 = some (.iaload, 14) := by decide +kernel
theorem d287_14 : dc 287 14 = some (.invokevirtual 282, 17) := by decide +kernel
theorem d287_17 : dc 287 17 = some (.iinc 3 1, 20) := by decide +kernel
theorem d287_20 : dc 287 20 = some (.goto ((2 : Nat) : Int), 23) := by decide +kernel
theorem d287_23 : dc 287 23 = some (.aload_n 0, 24) := by decide +kernel
theorem d287_24 : dc 287 24 = some (.bipush 10, 26) := by decide +kernel
theorem d287_26 : dc 287 26 = some (.invokevirtual 282, 29) := by decide +kernel
theorem d287_29 : dc 287 29 = some (.return_, 30) := by decide +kernel
theorem k_M_outLine {S : Shp} {G : Nat → Option Nat} {d : Nat} {h : Hp} {Q : Option MV → Hp → Prop} {m : Nat} {f : Nat} {e : Nat} {T X l : List Nat} (ok : Ok S h) (h1 : 1 ≤ d) (hm : sK S m = 14) (MK : MkR S h m T X) (AL : AlR S h m l) (he : f ≤ e ∧ e ≤ l.length)
    (kk : ∀ h', Fr S m [1683, 1685] h h' → MkR S h' m (T ++ (sl l f e ++ [10])) X → Q none h') : Cl G d 287 [vR (some m), vI (f : Nat), vI (e : Nat)] h Q := by
  show Wp G d 287 0 [some (vR (some m)), some (vI (f : Nat)), some (vI (e : Nat)), none] [] h Q
  have MK_0 := MK
  have AL_0 := AL
  have l3 : l.length ≤ 100000 := by have := AL.2.2.1; have := AL.2.2.2.1; omega
  refine w_iload_n d287_0 rfl ?_
  refine w_istore3 d287_1 rfl ?_
  have L2 : ∀ (m2 : Nat) (g : Hp) (i : Nat), e - i = m2 → Fr S m [1683, 1685] h g → (f ≤ i ∧ i ≤ e) → (MkR S g m (T ++ sl l f i) X) → Wp G d 287 2 [some (vR (some m)), some (vI (f : Nat)), some (vI (e : Nat)), some (vI (i : Nat))] [] g Q := by
    intro m2
    induction m2 using Nat.strongRecOn with | ind m2 IH2 => ?_
    intro g i hm2 FRg il MK
    have okg := FRg.ok
    have AL := AL_0.r FRg hm
    refine w_iload_n d287_2 rfl ?_
    refine w_iload_n d287_3 rfl ?_
    refine w_icmpge d287_4 (fun c4 => ?_) (fun c4 => ?_)
    · have ie : i = e := by omega
      rw [ie] at MK
      refine w_aload_n d287_23 rfl ?_
      refine w_bipush d287_24 (by decide) ?_
      refine w_callv2 d287_26 (by omega) rfl (okg.kd hm) (by simp) (Nat.le_of_ble_eq_true rfl) ?_
      refine k_M_out (c := 10) okg (by omega) hm MK (by decide) (fun h26 f26 MK => ?_)
      have ok26 := f26.ok
      have FR26 := Fr.tr (F := [1683, 1685]) FRg f26 (by decide) (by decide)
      have AL := AL.r f26 hm
      refine w_return d287_29 ?_
      rw [List.append_assoc] at MK
      exact kk h26 FR26 MK
    · have rb := ra1681 okg hm i
      rw [AL.2.at0 (by omega)] at rb
      refine w_aload_n d287_7 rfl ?_
      refine w_aload_n d287_8 rfl ?_
      refine w_dloadS d287_9 (okg.kd hm) (fr1681 okg hm) ?_
      refine w_iload_n d287_12 rfl ?_
      refine w_ialoadV (x := ((l.getD (i) 0 : Nat) : Int)) d287_13 (by have := AL.2.g okg (k := i) (by omega); rwa [show (((0 : Nat) : Int) + ((i : Nat) : Int)) = ((i : Nat) : Int) by omega] at this) (AL.2.at0 (by omega)) ?_
      refine w_callv2 d287_14 (by omega) rfl (okg.kd hm) (by simp) (Nat.le_of_ble_eq_true rfl) ?_
      refine k_M_out (c := l.getD i 0) okg (by omega) hm MK (by omega) (fun h14 f14 MK => ?_)
      have ok14 := f14.ok
      have FR14 := Fr.tr (F := [1683, 1685]) FRg f14 (by decide) (by decide)
      have AL := AL.r f14 hm
      refine w_iinc3 d287_17 rfl (by constructor <;> omega) ?_
      refine w_goto d287_20 ?_
      rw [show ((i : Nat) : Int) + 1 = ((i + 1 : Nat) : Int) by omega]
      rw [List.append_assoc, ← sl_snoc (by omega) (by omega)] at MK
      refine w_less ?_ (IH2 _ (by omega) h14 (i + 1) rfl FR14 (by omega) MK)
      exact ⟨Or.inr rfl, Or.inr rfl, Or.inr rfl, Or.inr rfl, trivial⟩
  refine w_less ?_ (L2 _ h f rfl (Fr.refl ok) (by omega) (by rw [sl_nil, List.append_nil]; exact MK))
  exact ⟨Or.inr rfl, Or.inr rfl, Or.inr rfl, Or.inr rfl, trivial⟩
theorem d286_0 : dc 286 0 = some (.iconst 0, 1) := by decide +kernel
theorem d286_1 : dc 286 1 = some (.istore 5, 3) := by decide +kernel
theorem d286_3 : dc 286 3 = some (.iload_n 1, 4) := by decide +kernel
theorem d286_4 : dc 286 4 = some (.iload 5, 6) := by decide +kernel
theorem d286_6 : dc 286 6 = some (.iadd, 7) := by decide +kernel
theorem d286_7 : dc 286 7 = some (.iload_n 2, 8) := by decide +kernel
theorem d286_8 : dc 286 8 = some (.if_icmp .ge ((67 : Nat) : Int), 11) := by decide +kernel
theorem d286_11 : dc 286 11 = some (.iload_n 3, 12) := by decide +kernel
theorem d286_12 : dc 286 12 = some (.iload 5, 14) := by decide +kernel
theorem d286_14 : dc 286 14 = some (.iadd, 15) := by decide +kernel
theorem d286_15 : dc 286 15 = some (.iload 4, 17) := by decide +kernel
theorem d286_17 : dc 286 17 = some (.if_icmp .ge ((67 : Nat) : Int), 20) := by decide +kernel
theorem d286_20 : dc 286 20 = some (.aload_n 0, 21) := by decide +kernel
theorem d286_21 : dc 286 21 = some (.dload 1681, 24) := by decide +kernel
theorem d286_24 : dc 286 24 = some (.iload_n 1, 25) := by decide +kernel
theorem d286_25 : dc 286 25 = some (.iload 5, 27) := by decide +kernel
theorem d286_27 : dc 286 27 = some (.iadd, 28) := by decide +kernel
theorem d286_28 : dc 286 28 = some (.iaload, 29) := by decide +kernel
theorem d286_29 : dc 286 29 = some (.aload_n 0, 30) := by decide +kernel
theorem d286_30 : dc 286 30 = some (.dload 1681, 33) := by decide +kernel
theorem d286_33 : dc 286 33 = some (.iload_n 3, 34) := by decide +kernel
theorem d286_34 : dc 286 34 = some (.iload 5, 36) := by decide +kernel
theorem d286_36 : dc 286 36 = some (.iadd, 37) := by decide +kernel
theorem d286_37 : dc 286 37 = some (.iaload, 38) := by decide +kernel
theorem d286_38 : dc 286 38 = some (.if_icmp .eq ((61 : Nat) : Int), 41) := by decide +kernel
theorem d286_41 : dc 286 41 = some (.aload_n 0, 42) := by decide +kernel
theorem d286_42 : dc 286 42 = some (.dload 1681, 45) := by decide +kernel
theorem d286_45 : dc 286 45 = some (.iload_n 1, 46) := by decide +kernel
theorem d286_46 : dc 286 46 = some (.iload 5, 48) := by decide +kernel
theorem d286_48 : dc 286 48 = some (.iadd, 49) := by decide +kernel
theorem d286_49 : dc 286 49 = some (.iaload, 50) := by decide +kernel
theorem d286_50 : dc 286 50 = some (.aload_n 0, 51) := by decide +kernel
theorem d286_51 : dc 286 51 = some (.dload 1681, 54) := by decide +kernel
theorem d286_54 : dc 286 54 = some (.iload_n 3, 55) := by decide +kernel
theorem d286_55 : dc 286 55 = some (.iload 5, 57) := by decide +kernel
theorem d286_57 : dc 286 57 = some (.iadd, 58) := by decide +kernel
theorem d286_58 : dc 286 58 = some (.iaload, 59) := by decide +kernel
theorem d286_59 : dc 286 59 = some (.isub, 60) := by decide +kernel
theorem d286_60 : dc 286 60 = some (.ireturn, 61) := by decide +kernel
theorem d286_61 : dc 286 61 = some (.iinc 5 1, 64) := by decide +kernel
theorem d286_64 : dc 286 64 = some (.goto ((3 : Nat) : Int), 67) := by decide +kernel
theorem d286_67 : dc 286 67 = some (.iload_n 2, 68) := by decide +kernel
theorem d286_68 : dc 286 68 = some (.iload_n 1, 69) := by decide +kernel
theorem d286_69 : dc 286 69 = some (.isub, 70) := by decide +kernel
theorem d286_70 : dc 286 70 = some (.iload 4, 72) := by decide +kernel
theorem d286_72 : dc 286 72 = some (.iload_n 3, 73) := by decide +kernel
theorem d286_73 : dc 286 73 = some (.isub, 74) := by decide +kernel
theorem d286_74 : dc 286 74 = some (.isub, 75) := by decide +kernel
theorem d286_75 : dc 286 75 = some (.ireturn, 76) := by decide +kernel
theorem k_M_compareLines {S : Shp} {G : Nat → Option Nat} {d : Nat} {h : Hp} {Q : Option MV → Hp → Prop} {m : Nat} {a : Nat} {b : Nat} {c : Nat} {e : Nat} {l : List Nat} (ok : Ok S h) (h1 : 0 ≤ d) (hm : sK S m = 14) (AL : AlR S h m l) (hb : a ≤ b ∧ b ≤ l.length) (he : c ≤ e ∧ e ≤ l.length)
    (kk : Q (some (vI (cmpL (sl l a b) (sl l c e)))) h) : Cl G d 286 [vR (some m), vI (a : Nat), vI (b : Nat), vI (c : Nat), vI (e : Nat)] h Q := by
  show Wp G d 286 0 [some (vR (some m)), some (vI (a : Nat)), some (vI (b : Nat)), some (vI (c : Nat)), some (vI (e : Nat)), none] [] h Q
  have AL_0 := AL
  have l3 : l.length ≤ 100000 := by have := AL.2.2.1; have := AL.2.2.2.1; omega
  have la := sl_len hb
  have lc := sl_len he
  refine w_iconst d286_0 (by decide) ?_
  refine w_istore5 d286_1 rfl ?_
  have L3 : ∀ (m3 : Nat) (i : Nat), b - a - i = m3 → (i ≤ b - a ∧ i ≤ e - c) → (cmpL ((sl l a b).drop i) ((sl l c e).drop i) = cmpL (sl l a b) (sl l c e)) → Wp G d 286 3 [some (vR (some m)), some (vI (a : Nat)), some (vI (b : Nat)), some (vI (c : Nat)), some (vI (e : Nat)), some (vI (i : Nat))] [] h Q := by
    intro m3
    induction m3 using Nat.strongRecOn with | ind m3 IH3 => ?_
    intro i hm3 il hp
    refine w_iload_n d286_3 rfl ?_
    refine w_iload d286_4 rfl ?_
    refine w_iadd d286_6 (by constructor <;> omega) ?_
    rw [show ((a : Nat) : Int) + ((i : Nat) : Int) = ((a + i : Nat) : Int) by omega]
    refine w_iload_n d286_7 rfl ?_
    refine w_icmpge d286_8 (fun c8 => ?_) (fun c8 => ?_)
    · rw [cmpL_end (Or.inl (by omega)) (by omega) (by omega), la, lc] at hp
      rw [← hp, show ((b - a : Nat) : Int) - ((e - c : Nat) : Int) = ((b : Nat) : Int) - ((a : Nat) : Int) - (((e : Nat) : Int) - ((c : Nat) : Int)) by omega] at kk
      refine w_iload_n d286_67 rfl ?_
      refine w_iload_n d286_68 rfl ?_
      refine w_isub d286_69 (by constructor <;> omega) ?_
      refine w_iload d286_70 rfl ?_
      refine w_iload_n d286_72 rfl ?_
      refine w_isub d286_73 (by constructor <;> omega) ?_
      refine w_isub d286_74 (by constructor <;> omega) ?_
      refine w_ireturn d286_75 ?_
      exact kk
    · refine w_iload_n d286_11 rfl ?_
      refine w_iload d286_12 rfl ?_
      refine w_iadd d286_14 (by constructor <;> omega) ?_
      rw [show ((c : Nat) : Int) + ((i : Nat) : Int) = ((c + i : Nat) : Int) by omega]
      refine w_iload d286_15 rfl ?_
      refine w_icmpge d286_17 (fun c17 => ?_) (fun c17 => ?_)
      · rw [cmpL_end (Or.inr (by omega)) (by omega) (by omega), la, lc] at hp
        rw [← hp, show ((b - a : Nat) : Int) - ((e - c : Nat) : Int) = ((b : Nat) : Int) - ((a : Nat) : Int) - (((e : Nat) : Int) - ((c : Nat) : Int)) by omega] at kk
        refine w_iload_n d286_67 rfl ?_
        refine w_iload_n d286_68 rfl ?_
        refine w_isub d286_69 (by constructor <;> omega) ?_
        refine w_iload d286_70 rfl ?_
        refine w_iload_n d286_72 rfl ?_
        refine w_isub d286_73 (by constructor <;> omega) ?_
        refine w_isub d286_74 (by constructor <;> omega) ?_
        refine w_ireturn d286_75 ?_
        exact kk
      · have g1 := sl_gd (l := l) (f := a) (e := b) (i := i) (by omega)
        have g2 := sl_gd (l := l) (f := c) (e := e) (i := i) (by omega)
        rw [cmpL_drop (by omega) (by omega), g1, g2] at hp
        have rb := ra1681 ok hm (a + i)
        rw [AL.2.at0 (by omega)] at rb
        have rc := ra1681 ok hm (c + i)
        rw [AL.2.at0 (by omega)] at rc
        refine w_aload_n d286_20 rfl ?_
        refine w_dloadS d286_21 (ok.kd hm) (fr1681 ok hm) ?_
        refine w_iload_n d286_24 rfl ?_
        refine w_iload d286_25 rfl ?_
        refine w_iadd d286_27 (by constructor <;> omega) ?_
        rw [show ((a : Nat) : Int) + ((i : Nat) : Int) = ((a + i : Nat) : Int) by omega]
        refine w_ialoadV (x := ((l.getD (a + i) 0 : Nat) : Int)) d286_28 (by have := AL.2.g ok (k := a + i) (by omega); rwa [show (((0 : Nat) : Int) + ((a + i : Nat) : Int)) = ((a + i : Nat) : Int) by omega] at this) (AL.2.at0 (by omega)) ?_
        refine w_aload_n d286_29 rfl ?_
        refine w_dloadS d286_30 (ok.kd hm) (fr1681 ok hm) ?_
        refine w_iload_n d286_33 rfl ?_
        refine w_iload d286_34 rfl ?_
        refine w_iadd d286_36 (by constructor <;> omega) ?_
        rw [show ((c : Nat) : Int) + ((i : Nat) : Int) = ((c + i : Nat) : Int) by omega]
        refine w_ialoadV (x := ((l.getD (c + i) 0 : Nat) : Int)) d286_37 (by have := AL.2.g ok (k := c + i) (by omega); rwa [show (((0 : Nat) : Int) + ((c + i : Nat) : Int)) = ((c + i : Nat) : Int) by omega] at this) (AL.2.at0 (by omega)) ?_
        refine w_icmpeq d286_38 (fun c38 => ?_) (fun c38 => ?_)
        · rw [if_pos (by omega)] at hp
          refine w_iinc5 d286_61 rfl (by constructor <;> omega) ?_
          refine w_goto d286_64 ?_
          rw [show ((i : Nat) : Int) + 1 = ((i + 1 : Nat) : Int) by omega]
          refine w_less ?_ (IH3 _ (by omega) (i + 1) rfl (by omega) hp)
          exact ⟨Or.inr rfl, Or.inr rfl, Or.inr rfl, Or.inr rfl, Or.inr rfl, Or.inr rfl, trivial⟩
        · rw [if_neg (by omega)] at hp
          rw [← hp] at kk
          refine w_aload_n d286_41 rfl ?_
          refine w_dloadS d286_42 (ok.kd hm) (fr1681 ok hm) ?_
          refine w_iload_n d286_45 rfl ?_
          refine w_iload d286_46 rfl ?_
          refine w_iadd d286_48 (by constructor <;> omega) ?_
          rw [show ((a : Nat) : Int) + ((i : Nat) : Int) = ((a + i : Nat) : Int) by omega]
          refine w_ialoadV (x := ((l.getD (a + i) 0 : Nat) : Int)) d286_49 (by have := AL.2.g ok (k := a + i) (by omega); rwa [show (((0 : Nat) : Int) + ((a + i : Nat) : Int)) = ((a + i : Nat) : Int) by omega] at this) (AL.2.at0 (by omega)) ?_
          refine w_aload_n d286_50 rfl ?_
          refine w_dloadS d286_51 (ok.kd hm) (fr1681 ok hm) ?_
          refine w_iload_n d286_54 rfl ?_
          refine w_iload d286_55 rfl ?_
          refine w_iadd d286_57 (by constructor <;> omega) ?_
          rw [show ((c : Nat) : Int) + ((i : Nat) : Int) = ((c + i : Nat) : Int) by omega]
          refine w_ialoadV (x := ((l.getD (c + i) 0 : Nat) : Int)) d286_58 (by have := AL.2.g ok (k := c + i) (by omega); rwa [show (((0 : Nat) : Int) + ((c + i : Nat) : Int)) = ((c + i : Nat) : Int) by omega] at this) (AL.2.at0 (by omega)) ?_
          refine w_isub d286_59 (by constructor <;> omega) ?_
          refine w_ireturn d286_60 ?_
          exact kk
  refine w_less ?_ (L3 _ 0 rfl (by omega) rfl)
  exact ⟨Or.inr rfl, Or.inr rfl, Or.inr rfl, Or.inr rfl, Or.inr rfl, Or.inr rfl, trivial⟩
theorem d289_0 : dc 289 0 = some (.iload_n 0, 1) := by decide +kernel
theorem d289_1 : dc 289 1 = some (.bipush 10, 3) := by decide +kernel
theorem d289_3 : dc 289 3 = some (.if_icmp .ge ((13 : Nat) : Int), 6) := by decide +kernel
theorem d289_6 : dc 289 6 = some (.bipush 48, 8) := by decide +kernel
theorem d289_8 : dc 289 8 = some (.iload_n 0, 9) := by decide +kernel
theorem d289_9 : dc 289 9 = some (.iadd, 10) := by decide +kernel
theorem d289_10 : dc 289 10 = some (.goto ((20 : Nat) : Int), 13) := by decide +kernel
theorem d289_13 : dc 289 13 = some (.bipush 97, 15) := by decide +kernel
theorem d289_15 : dc 289 15 = some (.iload_n 0, 16) := by decide +kernel
theorem d289_16 : dc 289 16 = some (.iadd, 17) := by decide +kernel
theorem d289_17 : dc 289 17 = some (.bipush 10, 19) := by decide +kernel
theorem d289_19 : dc 289 19 = some (.isub, 20) := by decide +kernel
theorem d289_20 : dc 289 20 = some (.ireturn, 21) := by decide +kernel
theorem k_M_sign {G : Nat → Option Nat} {d : Nat} {h : Hp} {Q : Option MV → Hp → Prop} {v : Nat} (h1 : 0 ≤ d) (hv : v < 16) (kk : Q (some (vI (hexd v : Nat))) h) : Cl G d 289 [vI (v : Nat)] h Q := by
  show Wp G d 289 0 [some (vI (v : Nat))] [] h Q
  refine w_iload_n d289_0 rfl ?_
  refine w_bipush d289_1 (by decide) ?_
  refine w_icmpge d289_3 (fun c3 => ?_) (fun c3 => ?_)
  · have e : hexd v = 87 + v := if_neg (by omega)
    rw [e] at kk
    refine w_bipush d289_13 (by decide) ?_
    refine w_iload_n d289_15 rfl ?_
    refine w_iadd d289_16 (by constructor <;> omega) ?_
    refine w_bipush d289_17 (by decide) ?_
    refine w_isub d289_19 (by constructor <;> omega) ?_
    rw [show (97 : Int) + ((v : Nat) : Int) - 10 = ((87 + v : Nat) : Int) by omega]
    refine w_ireturn d289_20 ?_
    exact kk
  · have e : hexd v = 48 + v := if_pos (by omega)
    rw [e] at kk
    refine w_bipush d289_6 (by decide) ?_
    refine w_iload_n d289_8 rfl ?_
    refine w_iadd d289_9 (by constructor <;> omega) ?_
    rw [show (48 : Int) + ((v : Nat) : Int) = ((48 + v : Nat) : Int) by omega]
    refine w_goto d289_10 ?_
    refine w_ireturn d289_20 ?_
    exact kk
theorem d283_0 : dc 283 0 = some (.iload_n 1, 1) := by decide +kernel
theorem d283_1 : dc 283 1 = some (.bipush 9, 3) := by decide +kernel
theorem d283_3 : dc 283 3 = some (.if_icmp .le ((14 : Nat) : Int), 6) := by decide +kernel
theorem d283_6 : dc 283 6 = some (.aload_n 0, 7) := by decide +kernel
theorem d283_7 : dc 283 7 = some (.iload_n 1, 8) := by decide +kernel
theorem d283_8 : dc 283 8 = some (.bipush 10, 10) := by decide +kernel
theorem d283_10 : dc 283 10 = some (.idiv, 11) := by decide +kernel
theorem d283_11 : dc 283 11 = some (.invokevirtual 283, 14) := by decide +kernel
theorem d283_14 : dc 283 14 = some (.aload_n 0, 15) := by decide +kernel
theorem d283_15 : dc 283 15 = some (.bipush 48, 17) := by decide +kernel
theorem d283_17 : dc 283 17 = some (.iload_n 1, 18) := by decide +kernel
theorem d283_18 : dc 283 18 = some (.bipush 10, 20) := by decide +kernel
theorem d283_20 : dc 283 20 = some (.irem, 21) := by decide +kernel
theorem d283_21 : dc 283 21 = some (.iadd, 22) := by decide +kernel
theorem d283_22 : dc 283 22 = some (.invokevirtual 282, 25) := by decide +kernel
theorem d283_25 : dc 283 25 = some (.return_, 26) := by decide +kernel
theorem k_M_outNumber {S : Shp} {G : Nat → Option Nat} {d : Nat} {h : Hp} {Q : Option MV → Hp → Prop} {m : Nat} {v : Nat} {n : Nat} {T X : List Nat} (ok : Ok S h) (h1 : 1 ≤ d) (hm : sK S m = 14) (MK : MkR S h m T X) (hd : n + 1 ≤ d) (hv : v < 10 ^ (n + 1)) (hn : n ≤ 9)
    (kk : ∀ h', Fr S m [1683, 1685] h h' → MkR S h' m (T ++ dec v) X → Q none h') : Cl G d 283 [vR (some m), vI (v : Nat)] h Q := by
  show Wp G d 283 0 [some (vR (some m)), some (vI (v : Nat))] [] h Q
  have MK_0 := MK
  have h10 : (10 : Nat) ^ 10 = 10000000000 := by decide
  have hle : 10 ^ (n + 1) ≤ 10 ^ 10 := Nat.pow_le_pow_right (by decide) (by omega)
  refine w_iload_n d283_0 rfl ?_
  refine w_bipush d283_1 (by decide) ?_
  refine w_icmple d283_3 (fun c3 => ?_) (fun c3 => ?_)
  · have ed : dec v = [48 + v % 10] := by rw [dec_lt (by omega), Nat.mod_eq_of_lt (by omega)]
    refine w_aload_n d283_14 rfl ?_
    refine w_bipush d283_15 (by decide) ?_
    refine w_iload_n d283_17 rfl ?_
    refine w_bipush d283_18 (by decide) ?_
    refine w_irem d283_20 (by decide) ?_
    rw [show ((v : Nat) : Int).tmod 10 = ((v % 10 : Nat) : Int) from rfl]
    refine w_iadd d283_21 (by constructor <;> omega) ?_
    rw [show (48 : Int) + ((v % 10 : Nat) : Int) = ((48 + v % 10 : Nat) : Int) by omega]
    refine w_callv2 d283_22 (by omega) rfl (ok.kd hm) (by simp) (Nat.le_of_ble_eq_true rfl) ?_
    refine k_M_out (c := (48 + v % 10)) ok (by omega) hm MK (by omega) (fun h22 f22 MK => ?_)
    have ok22 := f22.ok
    have FR22 := Fr.le (F := [1683, 1685]) f22 (by decide)
    refine w_return d283_25 ?_
    rw [ed] at kk
    first | exact kk h22 FR22 MK | (rw [List.append_assoc] at MK; exact kk h22 FR22 MK)
  · have n0 : n ≠ 0 := fun z => by rw [z] at hv; omega
    have ed : dec v = dec (v / 10) ++ [48 + v % 10] := dec_rec (by omega) (by omega)
    refine w_aload_n d283_6 rfl ?_
    refine w_iload_n d283_7 rfl ?_
    refine w_bipush d283_8 (by decide) ?_
    refine w_idiv d283_10 (by decide) ?_
    rw [show ((v : Nat) : Int).tdiv 10 = ((v / 10 : Nat) : Int) from rfl]
    refine w_callv2 d283_11 (by omega) rfl (ok.kd hm) (by simp) (Nat.le_of_ble_eq_true rfl) ?_
    refine k_M_outNumber (n := n - 1) ok (by omega) hm MK (by omega) (by rw [show n - 1 + 1 = n by omega]; rw [Nat.pow_succ] at hv; omega) (by omega) (fun h11 f11 MK => ?_)
    have ok11 := f11.ok
    have FR11 := Fr.le (F := [1683, 1685]) f11 (by decide)
    refine w_aload_n d283_14 rfl ?_
    refine w_bipush d283_15 (by decide) ?_
    refine w_iload_n d283_17 rfl ?_
    refine w_bipush d283_18 (by decide) ?_
    refine w_irem d283_20 (by decide) ?_
    rw [show ((v : Nat) : Int).tmod 10 = ((v % 10 : Nat) : Int) from rfl]
    refine w_iadd d283_21 (by constructor <;> omega) ?_
    rw [show (48 : Int) + ((v % 10 : Nat) : Int) = ((48 + v % 10 : Nat) : Int) by omega]
    refine w_callv2 d283_22 (by omega) rfl (ok11.kd hm) (by simp) (Nat.le_of_ble_eq_true rfl) ?_
    refine k_M_out (c := (48 + v % 10)) ok11 (by omega) hm MK (by omega) (fun h22 f22 MK => ?_)
    have ok22 := f22.ok
    have FR22 := Fr.tr (F := [1683, 1685]) FR11 f22 (by decide) (by decide)
    refine w_return d283_25 ?_
    rw [ed] at kk
    first | exact kk h22 FR22 MK | (rw [List.append_assoc] at MK; exact kk h22 FR22 MK)
termination_by n
decreasing_by omega
