/-! the reference: lines added, words found, lines in order -/
theorem SoA.snoc {l : List Nat} {a b a' b' : Nat → Int} {ls : List (List Nat)} {f e : Nat} (D : SoA l a b ls) (h : f ≤ e ∧ e ≤ l.length) (ha : ∀ i, a' i = if i = ls.length then (f : Int) else a i) (hb : ∀ i, b' i = if i = ls.length then (e : Int) else b i) : SoA l a' b' (ls ++ [sl l f e]) := fun k hk => by
  rw [List.length_append, List.length_singleton] at hk
  rw [ha, hb]
  by_cases q : k = ls.length
  · rw [if_pos q, if_pos q, q]
    refine ⟨by omega, by omega, ?_⟩
    rw [List.getD_eq_getElem?_getD, List.getElem?_append_right (Nat.le_refl _), Nat.sub_self]
    rfl
  · rw [if_neg q, if_neg q]
    have := D k (by omega)
    rw [List.getD_eq_getElem?_getD, List.getElem?_append_left (by omega), ← List.getD_eq_getElem?_getD]
    exact this
/-- a word stands in a line, sign by sign -/
def wdL (w y : List Nat) : Bool := decide (0 ≤ srF (fun i => sl y i (i + w.length) == w) (y.length + 1 - w.length) 0)
theorem up2_at {f : Nat → Nat → Int} {a b i : Nat} {x : Int} : up2 f a b x a i = if i = b then x else f a i := by
  unfold up2
  by_cases q : i = b
  · rw [if_pos ⟨rfl, q⟩, if_pos q]
  · rw [if_neg (fun z => q z.2), if_neg q]
theorem up2_nb {f : Nat → Nat → Int} {a b c i : Nat} {x : Int} (h : a ≠ b) : up2 f b c x a i = f a i := by unfold up2; rw [if_neg (fun z => h z.1)]
theorem sl_sl {l : List Nat} {f e i j : Nat} (h : f + j ≤ e) : sl (sl l f e) i j = sl l (f + i) (f + j) := by
  unfold sl
  rw [List.drop_take, List.take_take, List.drop_drop, Nat.min_eq_left (by omega), show f + j - (f + i) = j - i by omega]
theorem d269_0 : dc 269 0 = some (.iload_n 1, 1) := by decide +kernel
theorem d269_1 : dc 269 1 = some (.istore_n 3, 2) := by decide +kernel
theorem d269_2 : dc 269 2 = some (.iload_n 3, 3) := by decide +kernel
theorem d269_3 : dc 269 3 = some (.iload_n 2, 4) := by decide +kernel
theorem d269_4 : dc 269 4 = some (.if_icmp .ge ((57 : Nat) : Int), 7) := by decide +kernel
theorem d269_7 : dc 269 7 = some (.aload_n 0, 8) := by decide +kernel
theorem d269_8 : dc 269 8 = some (.dload 1686, 11) := by decide +kernel
theorem d269_11 : dc 269 11 = some (.aload_n 0, 12) := by decide +kernel
theorem d269_12 : dc 269 12 = some (.getfield 1688, 15) := by decide +kernel
theorem d269_15 : dc 269 15 = some (.iload_n 3, 16) := by decide +kernel
theorem d269_16 : dc 269 16 = some (.iastore, 17) := by decide +kernel
theorem d269_17 : dc 269 17 = some (.aload_n 0, 18) := by decide +kernel
theorem d269_18 : dc 269 18 = some (.dload 1687, 21) := by decide +kernel
theorem d269_21 : dc 269 21 = some (.aload_n 0, 22) := by decide +kernel
theorem d269_22 : dc 269 22 = some (.getfield 1688, 25) := by decide +kernel
theorem d269_25 : dc 269 25 = some (.aload_n 0, 26) := by decide +kernel
theorem d269_26 : dc 269 26 = some (.iload_n 3, 27) := by decide +kernel
theorem d269_27 : dc 269 27 = some (.iload_n 2, 28) := by decide +kernel
theorem d269_28 : dc 269 28 = some (.invokevirtual 270, 31) := by decide +kernel
theorem d269_31 : dc 269 31 = some (.iastore, 32) := by decide +kernel
theorem d269_32 : dc 269 32 = some (.aload_n 0, 33) := by decide +kernel
theorem d269_33 : dc 269 33 = some (.dload 1687, 36) := by decide +kernel
theorem d269_36 : dc 269 36 = some (.aload_n 0, 37) := by decide +kernel
theorem d269_37 : dc 269 37 = some (.getfield 1688, 40) := by decide +kernel
theorem d269_40 : dc 269 40 = some (.iaload, 41) := by decide +kernel
theorem d269_41 : dc 269 41 = some (.iconst 1, 42) := by decide +kernel
theorem d269_42 : dc 269 42 = some (.iadd, 43) := by decide +kernel
theorem d269_43 : dc 269 43 = some (.istore_n 3, 44) := by decide +kernel
theorem d269_44 : dc 269 44 = some (.aload_n 0, 45) := by decide +kernel
theorem d269_45 : dc 269 45 = some (.dup, 46) := by decide +kernel
theorem d269_46 : dc 269 46 = some (.getfield 1688, 49) := by decide +kernel
theorem d269_49 : dc 269 49 = some (.iconst 1, 50) := by decide +kernel
theorem d269_50 : dc 269 50 = some (.iadd, 51) := by decide +kernel
theorem d269_51 : dc 269 51 = some (.putfield 1688, 54) := by decide +kernel
theorem d269_54 : dc 269 54 = some (.goto ((2 : Nat) : Int), 57) := by decide +kernel
theorem d269_57 : dc 269 57 = some (.return_, 58) := by decide +kernel
theorem k_M_addLines {S : Shp} {G : Nat → Option Nat} {d : Nat} {h : Hp} {Q : Option MV → Hp → Prop} {m : Nat} {f : Nat} {e : Nat} {l : List Nat} {ls : List (List Nat)} (ok : Ok S h) (h1 : 1 ≤ d) (hm : sK S m = 14) (LN : LnR S h m l ls) (AL : AlR S h m l) (he : f ≤ e ∧ e ≤ l.length) (hn : ls.length ≤ f)
    (kk : ∀ h', Fr S m [1686, 1687, 1688] h h' → LnR S h' m l (ls ++ lns (sl l f e)) → Q none h') : Cl G d 269 [vR (some m), vI (f : Nat), vI (e : Nat)] h Q := by
  show Wp G d 269 0 [some (vR (some m)), some (vI (f : Nat)), some (vI (e : Nat)), none] [] h Q
  have LN_0 := LN
  have AL_0 := AL
  have l3 : l.length ≤ 3600 := by have sl := sLT ok (f := 1681) (n := 3600) hm (by decide) rfl (by decide); have := AL.2.2.1; omega
  have n67 : sT S 1686 m ≠ sT S 1687 m := fun z => absurd ((ok.so.inj (by decide) (by decide)).mp z).1 (by decide)
  refine w_iload_n d269_0 rfl ?_
  refine w_istore3 d269_1 rfl ?_
  have L2 : ∀ (m2 : Nat) (g : Hp) (i : Nat) (ks : List (List Nat)), e + 1 - i = m2 → Fr S m [1686, 1687, 1688] h g → (f ≤ i ∧ i ≤ e + 1 ∧ ks.length ≤ i ∧ ks.length ≤ e) → (LnR S g m l ks) → (ks ++ lns (sl l i e) = ls ++ lns (sl l f e)) → Wp G d 269 2 [some (vR (some m)), some (vI (f : Nat)), some (vI (e : Nat)), some (vI (i : Nat))] [] g Q := by
    intro m2
    induction m2 using Nat.strongRecOn with | ind m2 IH2 => ?_
    intro g i ks hm2 FRg il LN hp
    have okg := FRg.ok
    have AL := AL_0.r FRg hm
    refine w_iload_n d269_2 rfl ?_
    refine w_iload_n d269_3 rfl ?_
    refine w_icmpge d269_4 (fun c4 => ?_) (fun c4 => ?_)
    · rw [sl_gt (f := i) (e := e) (by omega), show lns [] = [] from rfl, List.append_nil] at hp
      refine w_return d269_57 ?_
      rw [← hp] at kk
      exact kk g FRg LN
    · have ns := lns_sl (i := i) (e := e) he.2 (by omega)
      have lg := lineE_ge l i
      rw [ns] at hp
      obtain ⟨n1, n2, n3⟩ := id LN
      refine w_aload_n d269_7 rfl ?_
      refine w_dloadS d269_8 (okg.kd hm) (fr1686 okg hm) ?_
      refine w_aload_n d269_11 rfl ?_
      refine w_getI (x := ((ks.length : Nat) : Int)) d269_12 (okg.kd hm) n1 ?_
      refine w_iload_n d269_15 rfl ?_
      refine wa1686 d269_16 okg hm (by omega) (by omega) (fun h16 e16 m16 => ?_)
      have e16 : h16 = sAI g (sT S 1686 m) ks.length ((i : Nat) : Int) := e16
      have f16 : Fr S m [1686] _ _ := Fr.wB okg hm m16 (fun ζ e => ⟨1686, by decide, by decide, e ▸ U_refl⟩)
      have ok16 := f16.ok
      have FR16 := Fr.tr (F := [1686, 1687, 1688]) FRg f16 (by decide) (by decide)
      have AL := AL.r f16 hm
      refine w_aload_n d269_17 rfl ?_
      refine w_dloadS d269_18 (ok16.kd hm) (fr1687 ok16 hm) ?_
      refine w_aload_n d269_21 rfl ?_
      refine w_getI (x := ((ks.length : Nat) : Int)) d269_22 (ok16.kd hm) ((f16.i 1688).trans n1) ?_
      refine w_aload_n d269_25 rfl ?_
      refine w_iload_n d269_26 rfl ?_
      refine w_iload_n d269_27 rfl ?_
      refine w_callv3 d269_28 (by omega) rfl (ok16.kd hm) (by simp) (Nat.le_of_ble_eq_true rfl) ?_
      refine k_M_lineEnd ok16 (by omega) hm AL ⟨by omega, he.2⟩ ?_
      refine wa1687 d269_31 ok16 hm (by omega) (by omega) (fun h31 e31 m31 => ?_)
      have e31 : h31 = sAI h16 (sT S 1687 m) ks.length ((min (lineE l i) e : Nat) : Int) := e31
      have f31 : Fr S m [1687] _ _ := Fr.wB ok16 hm m31 (fun ζ e => ⟨1687, by decide, by decide, e ▸ U_refl⟩)
      have ok31 := f31.ok
      have FR31 := Fr.tr (F := [1686, 1687, 1688]) FR16 f31 (by decide) (by decide)
      have AL := AL.r f31 hm
      refine w_aload_n d269_32 rfl ?_
      refine w_dloadS d269_33 (ok31.kd hm) (fr1687 ok31 hm) ?_
      refine w_aload_n d269_36 rfl ?_
      refine w_getI (x := ((ks.length : Nat) : Int)) d269_37 (ok31.kd hm) ((f31.i 1688).trans ((f16.i 1688).trans n1)) ?_
      refine w_ialoadV (x := ((min (lineE l i) e : Nat) : Int)) d269_40 (gi1687 ok31 hm (by omega)) (by rw [e31]; show up2 _ _ _ _ _ _ = _; exact up2_at.trans (if_pos (by omega))) ?_
      refine w_iconst d269_41 (by decide) ?_
      refine w_iadd d269_42 (by constructor <;> omega) ?_
      refine w_istore3 d269_43 rfl ?_
      refine w_aload_n d269_44 rfl ?_
      refine w_dupR d269_45 ?_
      refine w_getI (x := ((ks.length : Nat) : Int)) d269_46 (ok31.kd hm) ((f31.i 1688).trans ((f16.i 1688).trans n1)) ?_
      refine w_iconst d269_49 (by decide) ?_
      refine w_iadd d269_50 (by constructor <;> omega) ?_
      refine wf1688 d269_51 ok31 hm (by omega) (fun h51 e51 m51 => ?_)
      have f51 : Fr S m [1688] _ _ := Fr.wF ok31 m51 (FK.pI e51)
      have ok51 := f51.ok
      have FR51 := Fr.tr (F := [1686, 1687, 1688]) FR31 f51 (by decide) (by decide)
      have AL := AL.r f51 hm
      have LN : LnR S h51 m l (ks ++ [sl l i (min (lineE l i) e)]) := by
        refine ⟨by rw [e51, FI_sFI, if_pos ⟨rfl, rfl⟩]; simp, by simp; omega, ?_⟩
        refine n3.snoc ⟨by omega, by omega⟩ (fun j => ?_) (fun j => ?_)
        · rw [f51.ai (by have := kT1686 ok hm; omega) (by decide) (by decide) (by decide), f31.ai (by have := kT1686 ok hm; omega) (by decide) (by decide) (by decide), e16]; show up2 _ _ _ _ _ _ = _; rw [up2_at]
        · rw [f51.ai (by have := kT1687 ok hm; omega) (by decide) (by decide) (by decide), e31]; show up2 _ _ _ _ _ _ = _; rw [up2_at, e16]; show (if _ then _ else up2 _ _ _ _ _ _) = _; rw [up2_nb n67.symm]
      refine w_goto d269_54 ?_
      rw [show ((min (lineE l i) e : Nat) : Int) + 1 = ((min (lineE l i) e + 1 : Nat) : Int) by omega]
      rw [List.append_cons] at hp
      refine w_less ?_ (IH2 _ (by omega) h51 (min (lineE l i) e + 1) (ks ++ [sl l i (min (lineE l i) e)]) rfl FR51 (by simp; omega) LN hp)
      exact ⟨Or.inr rfl, Or.inr rfl, Or.inr rfl, Or.inr rfl, trivial⟩
  refine w_less ?_ (L2 _ h f ls rfl (Fr.refl ok) (by omega) LN rfl)
  exact ⟨Or.inr rfl, Or.inr rfl, Or.inr rfl, Or.inr rfl, trivial⟩
theorem d288_0 : dc 288 0 = some (.iload_n 3, 1) := by decide +kernel
theorem d288_1 : dc 288 1 = some (.istore 5, 3) := by decide +kernel
theorem d288_3 : dc 288 3 = some (.iload 5, 5) := by decide +kernel
theorem d288_5 : dc 288 5 = some (.aload_n 1, 6) := by decide +kernel
theorem d288_6 : dc 288 6 = some (.dload 1423, 9) := by decide +kernel
theorem d288_9 : dc 288 9 = some (.iload_n 2, 10) := by decide +kernel
theorem d288_10 : dc 288 10 = some (.iaload, 11) := by decide +kernel
theorem d288_11 : dc 288 11 = some (.iadd, 12) := by decide +kernel
theorem d288_12 : dc 288 12 = some (.iload 4, 14) := by decide +kernel
theorem d288_14 : dc 288 14 = some (.if_icmp .gt ((90 : Nat) : Int), 17) := by decide +kernel
theorem d288_17 : dc 288 17 = some (.iconst 1, 18) := by decide +kernel
theorem d288_18 : dc 288 18 = some (.istore 6, 20) := by decide +kernel
theorem d288_20 : dc 288 20 = some (.iconst 0, 21) := by decide +kernel
theorem d288_21 : dc 288 21 = some (.istore 7, 23) := by decide +kernel
theorem d288_23 : dc 288 23 = some (.iload 7, 25) := by decide +kernel
theorem d288_25 : dc 288 25 = some (.aload_n 1, 26) := by decide +kernel
theorem d288_26 : dc 288 26 = some (.dload 1423, 29) := by decide +kernel
theorem d288_29 : dc 288 29 = some (.iload_n 2, 30) := by decide +kernel
theorem d288_30 : dc 288 30 = some (.iaload, 31) := by decide +kernel
theorem d288_31 : dc 288 31 = some (.if_icmp .ge ((77 : Nat) : Int), 34) := by decide +kernel
theorem d288_34 : dc 288 34 = some (.iload 6, 36) := by decide +kernel
theorem d288_36 : dc 288 36 = some (.ifCond .eq ((77 : Nat) : Int), 39) := by decide +kernel
theorem d288_39 : dc 288 39 = some (.aload_n 0, 40) := by decide +kernel
theorem d288_40 : dc 288 40 = some (.dload 1681, 43) := by decide +kernel
theorem d288_43 : dc 288 43 = some (.iload 5, 45) := by decide +kernel
theorem d288_45 : dc 288 45 = some (.iload 7, 47) := by decide +kernel
theorem d288_47 : dc 288 47 = some (.iadd, 48) := by decide +kernel
theorem d288_48 : dc 288 48 = some (.iaload, 49) := by decide +kernel
theorem d288_49 : dc 288 49 = some (.aload_n 1, 50) := by decide +kernel
theorem d288_50 : dc 288 50 = some (.dload 1422, 53) := by decide +kernel
theorem d288_53 : dc 288 53 = some (.bipush 8, 55) := by decide +kernel
theorem d288_55 : dc 288 55 = some (.iload_n 2, 56) := by decide +kernel
theorem d288_56 : dc 288 56 = some (.imul, 57) := by decide +kernel
theorem d288_57 : dc 288 57 = some (.iload 7, 59) := by decide +kernel
theorem d288_59 : dc 288 59 = some (.iadd, 60) := by decide +kernel
theorem d288_60 : dc 288 60 = some (.iaload, 61) := by decide +kernel
theorem d288_61 : dc 288 61 = some (.if_icmp .ne ((68 : Nat) : Int), 64) := by decide +kernel
theorem d288_64 : dc 288 64 = some (.iconst 1, 65) := by decide +kernel
theorem d288_65 : dc 288 65 = some (.goto ((69 : Nat) : Int), 68) := by decide +kernel
theorem d288_68 : dc 288 68 = some (.iconst 0, 69) := by decide +kernel
theorem d288_69 : dc 288 69 = some (.istore 6, 71) := by decide +kernel
theorem d288_71 : dc 288 71 = some (.iinc 7 1, 74) := by decide +kernel
theorem d288_74 : dc 288 74 = some (.goto ((23 : Nat) : Int), 77) := by decide +kernel
theorem d288_77 : dc 288 77 = some (.iload 6, 79) := by decide +kernel
theorem d288_79 : dc 288 79 = some (.ifCond .eq ((84 : Nat) : Int), 82) := by decide +kernel
theorem d288_82 : dc 288 82 = some (.iconst 1, 83) := by decide +kernel
theorem d288_83 : dc 288 83 = some (.freturn, 84) := by decide +kernel
theorem d288_84 : dc 288 84 = some (.iinc 5 1, 87) := by decide +kernel
theorem d288_87 : dc 288 87 = some (.goto ((3 : Nat) : Int), 90) := by decide +kernel
theorem d288_90 : dc 288 90 = some (.iconst 0, 91) := by decide +kernel
theorem d288_91 : dc 288 91 = some (.freturn, 92) := by decide +kernel
theorem k_M_stands {S : Shp} {G : Nat → Option Nat} {d : Nat} {h : Hp} {Q : Option MV → Hp → Prop} {m : Nat} {t : Nat} {f : Nat} {e : Nat} {fd : Nat} {P0 : PlV} {l : List Nat} (ok : Ok S h) (h1 : 0 ≤ d) (hm : sK S m = 14) (DP : DfC S h (sT S fd m) P0) (AL : AlR S h m l) (ht : t < P0.2.2.length) (he : f ≤ e ∧ e ≤ l.length)
    (hfd : fd = 1664 ∨ fd = 1665) (kk : Q (some (vI (b2i (wdL (tgW (tD P0.2.2 t)) (sl l f e))))) h) : Cl G d 288 [vR (some m), vR (some (sT S fd m)), vI (t : Nat), vI (f : Nat), vI (e : Nat)] h Q := by
  show Wp G d 288 0 [some (vR (some m)), some (vR (some (sT S fd m))), some (vI (t : Nat)), some (vI (f : Nat)), some (vI (e : Nat)), none, none, none] [] h Q
  have DP_0 := DP
  have AL_0 := AL
  have l3 : l.length ≤ 3600 := by have sl := sLT ok (f := 1681) (n := 3600) hm (by decide) rfl (by decide); have := AL.2.2.1; omega
  have ht14 : t < 14 := by have := DP.2.2.2.1; omega
  have lf := sl_len he
  have w8 := (DP.2.2.2.2 t ht).2.2.2.2.2.2.2.1
  have wl := (DP.2.2.2.2 t ht).2.2.2.2.2.2.1
  have ws := (DP.2.2.2.2 t ht).2.2.2.2.2.2.2.2.1
  have hd0 := hdK ok hm hfd
  refine w_iload_n d288_0 rfl ?_
  refine w_istore5 d288_1 rfl ?_
  have L3 : ∀ (m3 : Nat) (i : Nat), e + 1 - f - i = m3 → (i ≤ e + 1 - f) → (srF (fun i => sl (sl l f e) i (i + (tgW (tD P0.2.2 t)).length) == (tgW (tD P0.2.2 t))) (e - f + 1 - (tgW (tD P0.2.2 t)).length) i = srF (fun i => sl (sl l f e) i (i + (tgW (tD P0.2.2 t)).length) == (tgW (tD P0.2.2 t))) (e - f + 1 - (tgW (tD P0.2.2 t)).length) 0) → Wp G d 288 3 [some (vR (some m)), some (vR (some (sT S fd m))), some (vI (t : Nat)), some (vI (f : Nat)), some (vI (e : Nat)), some (vI (f + i : Nat)), none, none] [] h Q := by
    intro m3
    induction m3 using Nat.strongRecOn with | ind m3 IH3 => ?_
    intro i hm3 il hp
    refine w_iload d288_3 rfl ?_
    refine w_aload_n d288_5 rfl ?_
    refine w_dloadS d288_6 (ok.kd (hdK ok hm hfd)) (fr1423 ok (hdK ok hm hfd)) ?_
    refine w_iload_n d288_9 rfl ?_
    refine w_ialoadV (x := ((tgW (tD P0.2.2 t)).length : Int)) d288_10 (gi1423 ok (hdK ok hm hfd) (by omega)) wl ?_
    refine w_iadd d288_11 (by constructor <;> omega) ?_
    rw [show ((f + i : Nat) : Int) + (((tgW (tD P0.2.2 t)).length : Nat) : Int) = ((f + i + (tgW (tD P0.2.2 t)).length : Nat) : Int) by omega]
    refine w_iload d288_12 rfl ?_
    refine w_icmpgt d288_14 (fun c14 => ?_) (fun c14 => ?_)
    · have eb : wdL (tgW (tD P0.2.2 t)) (sl l f e) = false := by unfold wdL; rw [lf, ← hp, srF_end (by omega)]; rfl
      rw [eb] at kk
      refine w_iconst d288_90 (by decide) ?_
      refine w_zreturn d288_91 (by decide) ?_
      exact kk
    · have es : sl (sl l f e) i (i + (tgW (tD P0.2.2 t)).length) = sl l (f + i) (f + i + (tgW (tD P0.2.2 t)).length) := by rw [sl_sl (by omega), Nat.add_assoc]
      have ls2 := sl_len (l := l) (f := f + i) (e := f + i + (tgW (tD P0.2.2 t)).length) ⟨by omega, by omega⟩
      refine w_iconst d288_17 (by decide) ?_
      refine w_istore6 d288_18 rfl ?_
      refine w_iconst d288_20 (by decide) ?_
      refine w_istore7 d288_21 rfl ?_
      have L23 : ∀ (m23 : Nat) (k : Nat) (b : Bool), (tgW (tD P0.2.2 t)).length - k = m23 → (k ≤ (tgW (tD P0.2.2 t)).length) → ((b = true → ∀ j, j < k → l.getD (f + i + j) 0 = (tgW (tD P0.2.2 t)).getD j 0) ∧ (b = false → ∃ j, j < (tgW (tD P0.2.2 t)).length ∧ ¬ l.getD (f + i + j) 0 = (tgW (tD P0.2.2 t)).getD j 0) ∧ True) → Wp G d 288 23 [some (vR (some m)), some (vR (some (sT S fd m))), some (vI (t : Nat)), some (vI (f : Nat)), some (vI (e : Nat)), some (vI (f + i : Nat)), some (vI (b2i b)), some (vI (k : Nat))] [] h Q := by
        intro m23
        induction m23 using Nat.strongRecOn with | ind m23 IH23 => ?_
        intro k b hm23 kl hb
        refine w_iload d288_23 rfl ?_
        refine w_aload_n d288_25 rfl ?_
        refine w_dloadS d288_26 (ok.kd (hdK ok hm hfd)) (fr1423 ok (hdK ok hm hfd)) ?_
        refine w_iload_n d288_29 rfl ?_
        refine w_ialoadV (x := ((tgW (tD P0.2.2 t)).length : Int)) d288_30 (gi1423 ok (hdK ok hm hfd) (by omega)) wl ?_
        refine w_icmpge d288_31 (fun c31 => ?_) (fun c31 => ?_)
        · have ek : k = (tgW (tD P0.2.2 t)).length := by omega
          refine w_iload d288_77 rfl ?_
          refine w_ifeq d288_79 (fun c79 => ?_) (fun c79 => ?_)
          · have ze2 : ¬ b = true := fun z => by rw [z] at c79; exact absurd c79 (by decide)
            have ff : (fun i => sl (sl l f e) i (i + (tgW (tD P0.2.2 t)).length) == (tgW (tD P0.2.2 t))) i = false := beq_eq_false_iff_ne.mpr (fun z => by
              rw [es] at z
              rcases Nat.lt_or_ge k (tgW (tD P0.2.2 t)).length with y | y
              · have := hb.2.1 (by
                  cases b with
                  | true => exact absurd rfl ze2
                  | false => rfl)
                obtain ⟨j, j1, j2⟩ := this
                exact j2 (by rw [← z, sl_gd (by omega)])
              · have := hb.2.1 (by
                  cases b with
                  | true => exact absurd rfl ze2
                  | false => rfl)
                obtain ⟨j, j1, j2⟩ := this
                exact j2 (by rw [← z, sl_gd (by omega)]))
            rw [srF_no (by omega) ff] at hp
            refine w_iinc5 d288_84 rfl (by constructor <;> omega) ?_
            refine w_goto d288_87 ?_
            rw [show ((f + i : Nat) : Int) + 1 = ((f + (i + 1) : Nat) : Int) by omega]
            refine w_less ?_ (IH3 _ (by omega) (i + 1) rfl (by omega) hp)
            exact ⟨Or.inr rfl, Or.inr rfl, Or.inr rfl, Or.inr rfl, Or.inr rfl, Or.inr rfl, Or.inl rfl, Or.inl rfl, trivial⟩
          · have ze2 : b = true := by
              cases b with
              | true => rfl
              | false => exact absurd rfl c79
            have ff : (fun i => sl (sl l f e) i (i + (tgW (tD P0.2.2 t)).length) == (tgW (tD P0.2.2 t))) i = true := beq_iff_eq.mpr (by
              rw [es]
              exact list_ext (by omega) (fun j hj => by rw [sl_gd (by omega)]; exact hb.1 ze2 j (by omega)))
            rw [srF_yes (by omega) ff] at hp
            have eb : wdL (tgW (tD P0.2.2 t)) (sl l f e) = true := by unfold wdL; rw [lf, ← hp]; exact decide_eq_true (by omega)
            rw [eb] at kk
            refine w_iconst d288_82 (by decide) ?_
            refine w_zreturn d288_83 (by decide) ?_
            exact kk
        · have hk : k < (tgW (tD P0.2.2 t)).length := by omega
          refine w_iload d288_34 rfl ?_
          refine w_ifeq d288_36 (fun c36 => ?_) (fun c36 => ?_)
          · have ze : b = false := by
              cases b with
              | true => exact absurd c36 (by decide)
              | false => rfl
            refine w_iload d288_77 rfl ?_
            refine w_ifeq d288_79 (fun c79 => ?_) (fun c79 => ?_)
            · have ze2 : ¬ b = true := fun z => by rw [z] at c79; exact absurd c79 (by decide)
              have ff : (fun i => sl (sl l f e) i (i + (tgW (tD P0.2.2 t)).length) == (tgW (tD P0.2.2 t))) i = false := beq_eq_false_iff_ne.mpr (fun z => by
                rw [es] at z
                rcases Nat.lt_or_ge k (tgW (tD P0.2.2 t)).length with y | y
                · have := hb.2.1 (by
                    cases b with
                    | true => exact absurd rfl ze2
                    | false => rfl)
                  obtain ⟨j, j1, j2⟩ := this
                  exact j2 (by rw [← z, sl_gd (by omega)])
                · have := hb.2.1 (by
                    cases b with
                    | true => exact absurd rfl ze2
                    | false => rfl)
                  obtain ⟨j, j1, j2⟩ := this
                  exact j2 (by rw [← z, sl_gd (by omega)]))
              rw [srF_no (by omega) ff] at hp
              refine w_iinc5 d288_84 rfl (by constructor <;> omega) ?_
              refine w_goto d288_87 ?_
              rw [show ((f + i : Nat) : Int) + 1 = ((f + (i + 1) : Nat) : Int) by omega]
              refine w_less ?_ (IH3 _ (by omega) (i + 1) rfl (by omega) hp)
              exact ⟨Or.inr rfl, Or.inr rfl, Or.inr rfl, Or.inr rfl, Or.inr rfl, Or.inr rfl, Or.inl rfl, Or.inl rfl, trivial⟩
            · rw [ze] at c79; exact absurd rfl c79
          · have ze : b = true := by
              cases b with
              | true => rfl
              | false => exact absurd rfl c36
            have hk2 := hb.1 ze
            refine w_aload_n d288_39 rfl ?_
            refine w_dloadS d288_40 (ok.kd hm) (fr1681 ok hm) ?_
            refine w_iload d288_43 rfl ?_
            refine w_iload d288_45 rfl ?_
            refine w_iadd d288_47 (by constructor <;> omega) ?_
            rw [show ((f + i : Nat) : Int) + ((k : Nat) : Int) = ((f + i + k : Nat) : Int) by omega]
            refine w_ialoadV (x := ((l.getD (f + i + k) 0 : Nat) : Int)) d288_48 (by have := AL.2.g ok (k := f + i + k) (by omega); rwa [show (((0 : Nat) : Int) + ((f + i + k : Nat) : Int)) = ((f + i + k : Nat) : Int) by omega] at this) (AL.2.at0 (by omega)) ?_
            refine w_aload_n d288_49 rfl ?_
            refine w_dloadS d288_50 (ok.kd (hdK ok hm hfd)) (fr1422 ok (hdK ok hm hfd)) ?_
            refine w_bipush d288_53 (by decide) ?_
            refine w_iload_n d288_55 rfl ?_
            refine w_imul d288_56 (by constructor <;> omega) ?_
            rw [show (8 : Int) * ((t : Nat) : Int) = ((8 * t : Nat) : Int) by omega]
            refine w_iload d288_57 rfl ?_
            refine w_iadd d288_59 (by constructor <;> omega) ?_
            refine w_ialoadV (x := (((tgW (tD P0.2.2 t)).getD k 0 : Nat) : Int)) d288_60 (ws.g ok hk) (ws.at hk) ?_
            refine w_icmpne d288_61 (fun c61 => ?_) (fun c61 => ?_)
            · have ne : ¬ l.getD (f + i + k) 0 = (tgW (tD P0.2.2 t)).getD k 0 := by omega
              refine w_iconst d288_68 (by decide) ?_
              refine w_istore6 d288_69 rfl ?_
              refine w_iinc7 d288_71 rfl (by constructor <;> omega) ?_
              refine w_goto d288_74 ?_
              rw [show ((k : Nat) : Int) + 1 = ((k + 1 : Nat) : Int) by omega]
              refine w_less ?_ (IH23 _ (by omega) (k + 1) false rfl (by omega) ⟨fun z => absurd z (by decide), fun _ => ⟨k, hk, ne⟩, trivial⟩)
              exact ⟨Or.inr rfl, Or.inr rfl, Or.inr rfl, Or.inr rfl, Or.inr rfl, Or.inr rfl, Or.inr rfl, Or.inr rfl, trivial⟩
            · have ne : l.getD (f + i + k) 0 = (tgW (tD P0.2.2 t)).getD k 0 := by omega
              refine w_iconst d288_64 (by decide) ?_
              refine w_goto d288_65 ?_
              refine w_istore6 d288_69 rfl ?_
              refine w_iinc7 d288_71 rfl (by constructor <;> omega) ?_
              refine w_goto d288_74 ?_
              rw [show ((k : Nat) : Int) + 1 = ((k + 1 : Nat) : Int) by omega]
              refine w_less ?_ (IH23 _ (by omega) (k + 1) true rfl (by omega) ⟨fun _ j hj => by rcases Nat.lt_or_ge j k with y | y; exact hk2 j y; rw [show j = k by omega]; exact ne, fun z => absurd z (by decide), trivial⟩)
              exact ⟨Or.inr rfl, Or.inr rfl, Or.inr rfl, Or.inr rfl, Or.inr rfl, Or.inr rfl, Or.inr rfl, Or.inr rfl, trivial⟩
      refine w_less ?_ (L23 _ 0 true rfl (Nat.zero_le _) ⟨fun _ j hj => absurd hj (Nat.not_lt_zero _), fun z => absurd z (by decide), trivial⟩)
      exact ⟨Or.inr rfl, Or.inr rfl, Or.inr rfl, Or.inr rfl, Or.inr rfl, Or.inr rfl, Or.inr rfl, Or.inr rfl, trivial⟩
  refine w_less ?_ (L3 _ 0 rfl (Nat.zero_le _) rfl)
  exact ⟨Or.inr rfl, Or.inr rfl, Or.inr rfl, Or.inr rfl, Or.inr rfl, Or.inr rfl, Or.inl rfl, Or.inl rfl, trivial⟩
theorem srt_len {ls : List (List Nat)} : ∀ {s : List (List Nat)}, (ls.foldl insW s).length = s.length + ls.length := by
  induction ls with
  | nil => intro s; rfl
  | cons a ls ih => intro s; rw [List.foldl_cons, ih, insW_len, List.length_cons]; omega
theorem srt_succ {ls : List (List Nat)} {k : Nat} (h : k < ls.length) : (ls.take (k + 1)).foldl insW [] = insW ((ls.take k).foldl insW []) (ls.getD k []) := by
  rw [List.take_succ, List.foldl_append, List.getElem?_eq_getElem h, List.getD_eq_getElem?_getD, List.getElem?_eq_getElem h]
  rfl
theorem d285_0 : dc 285 0 = some (.iconst 1, 1) := by decide +kernel
theorem d285_1 : dc 285 1 = some (.istore_n 1, 2) := by decide +kernel
theorem d285_2 : dc 285 2 = some (.iload_n 1, 3) := by decide +kernel
theorem d285_3 : dc 285 3 = some (.aload_n 0, 4) := by decide +kernel
theorem d285_4 : dc 285 4 = some (.getfield 1688, 7) := by decide +kernel
theorem d285_7 : dc 285 7 = some (.if_icmp .ge ((119 : Nat) : Int), 10) := by decide +kernel
theorem d285_10 : dc 285 10 = some (.aload_n 0, 11) := by decide +kernel
theorem d285_11 : dc 285 11 = some (.dload 1686, 14) := by decide +kernel
theorem d285_14 : dc 285 14 = some (.iload_n 1, 15) := by decide +kernel
theorem d285_15 : dc 285 15 = some (.iaload, 16) := by decide +kernel
theorem d285_16 : dc 285 16 = some (.istore_n 2, 17) := by decide +kernel
theorem d285_17 : dc 285 17 = some (.aload_n 0, 18) := by decide +kernel
theorem d285_18 : dc 285 18 = some (.dload 1687, 21) := by decide +kernel
theorem d285_21 : dc 285 21 = some (.iload_n 1, 22) := by decide +kernel
theorem d285_22 : dc 285 22 = some (.iaload, 23) := by decide +kernel
theorem d285_23 : dc 285 23 = some (.istore_n 3, 24) := by decide +kernel
theorem d285_24 : dc 285 24 = some (.iload_n 1, 25) := by decide +kernel
theorem d285_25 : dc 285 25 = some (.istore 4, 27) := by decide +kernel
theorem d285_27 : dc 285 27 = some (.iload 4, 29) := by decide +kernel
theorem d285_29 : dc 285 29 = some (.ifCond .le ((97 : Nat) : Int), 32) := by decide +kernel
theorem d285_32 : dc 285 32 = some (.aload_n 0, 33) := by decide +kernel
theorem d285_33 : dc 285 33 = some (.aload_n 0, 34) := by decide +kernel
theorem d285_34 : dc 285 34 = some (.dload 1686, 37) := by decide +kernel
theorem d285_37 : dc 285 37 = some (.iload 4, 39) := by decide +kernel
theorem d285_39 : dc 285 39 = some (.iconst 1, 40) := by decide +kernel
theorem d285_40 : dc 285 40 = some (.isub, 41) := by decide +kernel
theorem d285_41 : dc 285 41 = some (.iaload, 42) := by decide +kernel
theorem d285_42 : dc 285 42 = some (.aload_n 0, 43) := by decide +kernel
theorem d285_43 : dc 285 43 = some (.dload 1687, 46) := by decide +kernel
theorem d285_46 : dc 285 46 = some (.iload 4, 48) := by decide +kernel
theorem d285_48 : dc 285 48 = some (.iconst 1, 49) := by decide +kernel
theorem d285_49 : dc 285 49 = some (.isub, 50) := by decide +kernel
theorem d285_50 : dc 285 50 = some (.iaload, 51) := by decide +kernel
theorem d285_51 : dc 285 51 = some (.iload_n 2, 52) := by decide +kernel
theorem d285_52 : dc 285 52 = some (.iload_n 3, 53) := by decide +kernel
theorem d285_53 : dc 285 53 = some (.invokevirtual 286, 56) := by decide +kernel
theorem d285_56 : dc 285 56 = some (.ifCond .le ((97 : Nat) : Int), 59) := by decide +kernel
theorem d285_59 : dc 285 59 = some (.aload_n 0, 60) := by decide +kernel
theorem d285_60 : dc 285 60 = some (.dload 1686, 63) := by decide +kernel
theorem d285_63 : dc 285 63 = some (.iload 4, 65) := by decide +kernel
theorem d285_65 : dc 285 65 = some (.aload_n 0, 66) := by decide +kernel
theorem d285_66 : dc 285 66 = some (.dload 1686, 69) := by decide +kernel
theorem d285_69 : dc 285 69 = some (.iload 4, 71) := by decide +kernel
theorem d285_71 : dc 285 71 = some (.iconst 1, 72) := by decide +kernel
theorem d285_72 : dc 285 72 = some (.isub, 73) := by decide +kernel
theorem d285_73 : dc 285 73 = some (.iaload, 74) := by decide +kernel
theorem d285_74 : dc 285 74 = some (.iastore, 75) := by decide +kernel
theorem d285_75 : dc 285 75 = some (.aload_n 0, 76) := by decide +kernel
theorem d285_76 : dc 285 76 = some (.dload 1687, 79) := by decide +kernel
theorem d285_79 : dc 285 79 = some (.iload 4, 81) := by decide +kernel
theorem d285_81 : dc 285 81 = some (.aload_n 0, 82) := by decide +kernel
theorem d285_82 : dc 285 82 = some (.dload 1687, 85) := by decide +kernel
theorem d285_85 : dc 285 85 = some (.iload 4, 87) := by decide +kernel
theorem d285_87 : dc 285 87 = some (.iconst 1, 88) := by decide +kernel
theorem d285_88 : dc 285 88 = some (.isub, 89) := by decide +kernel
theorem d285_89 : dc 285 89 = some (.iaload, 90) := by decide +kernel
theorem d285_90 : dc 285 90 = some (.iastore, 91) := by decide +kernel
theorem d285_91 : dc 285 91 = some (.iinc 4 (-1), 94) := by decide +kernel
theorem d285_94 : dc 285 94 = some (.goto ((27 : Nat) : Int), 97) := by decide +kernel
theorem d285_97 : dc 285 97 = some (.aload_n 0, 98) := by decide +kernel
theorem d285_98 : dc 285 98 = some (.dload 1686, 101) := by decide +kernel
theorem d285_101 : dc 285 101 = some (.iload 4, 103) := by decide +kernel
theorem d285_103 : dc 285 103 = some (.iload_n 2, 104) := by decide +kernel
theorem d285_104 : dc 285 104 = some (.iastore, 105) := by decide +kernel
theorem d285_105 : dc 285 105 = some (.aload_n 0, 106) := by decide +kernel
theorem d285_106 : dc 285 106 = some (.dload 1687, 109) := by decide +kernel
theorem d285_109 : dc 285 109 = some (.iload 4, 111) := by decide +kernel
theorem d285_111 : dc 285 111 = some (.iload_n 3, 112) := by decide +kernel
theorem d285_112 : dc 285 112 = some (.iastore, 113) := by decide +kernel
theorem d285_113 : dc 285 113 = some (.iinc 1 1, 116) := by decide +kernel
theorem d285_116 : dc 285 116 = some (.goto ((2 : Nat) : Int), 119) := by decide +kernel
theorem d285_119 : dc 285 119 = some (.return_, 120) := by decide +kernel
theorem k_M_sortLines {S : Shp} {G : Nat → Option Nat} {d : Nat} {h : Hp} {Q : Option MV → Hp → Prop} {m : Nat} {l : List Nat} {ls : List (List Nat)} (ok : Ok S h) (h1 : 1 ≤ d) (hm : sK S m = 14) (LN : LnR S h m l ls) (AL : AlR S h m l) 
    (kk : ∀ h', Fr S m [1686, 1687] h h' → LnR S h' m l (ls.foldl insW []) → Q none h') : Cl G d 285 [vR (some m)] h Q := by
  show Wp G d 285 0 [some (vR (some m)), none, none, none, none] [] h Q
  have LN_0 := LN
  have AL_0 := AL
  have l3 : l.length ≤ 3600 := by have sl := sLT ok (f := 1681) (n := 3600) hm (by decide) rfl (by decide); have := AL.2.2.1; omega
  have n67 : sT S 1686 m ≠ sT S 1687 m := fun z => absurd ((ok.so.inj (by decide) (by decide)).mp z).1 (by decide)
  have kf := kT1686 ok hm
  have kt := kT1687 ok hm
  have nl := LN.2.1
  refine w_iconst d285_0 (by decide) ?_
  refine w_istore1 d285_1 rfl ?_
  have L2 : ∀ (m2 : Nat) (g : Hp) (k : Nat), ls.length - k = m2 → Fr S m [1686, 1687] h g → (1 ≤ k ∧ (k ≤ ls.length ∨ ls.length = 0)) → (SoA l (AI g (sT S 1686 m)) (AI g (sT S 1687 m)) ((ls.take k).foldl insW [])) → (∀ i, k ≤ i → AI g (sT S 1686 m) i = AI h (sT S 1686 m) i ∧ AI g (sT S 1687 m) i = AI h (sT S 1687 m) i) → Wp G d 285 2 [some (vR (some m)), some (vI (k : Nat)), none, none, none] [] g Q := by
    intro m2
    induction m2 using Nat.strongRecOn with | ind m2 IH2 => ?_
    intro g k hm2 FRg i1 i3 i4
    have okg := FRg.ok
    have AL := AL_0.r FRg hm
    have gl : FI g 1688 m = ls.length := (FRg.i 1688).trans LN_0.1
    have sk : ((ls.take k).foldl insW []).length = min k ls.length := by rw [srt_len, List.length_take]; simp
    refine w_iload_n d285_2 rfl ?_
    refine w_aload_n d285_3 rfl ?_
    refine w_getI (x := ((ls.length : Nat) : Int)) d285_4 (okg.kd hm) gl ?_
    refine w_icmpge d285_7 (fun c7 => ?_) (fun c7 => ?_)
    · refine w_return d285_119 ?_
      rw [List.take_of_length_le (by omega)] at i3
      exact kk g FRg ⟨by rw [gl, srt_len]; simp, by rw [srt_len]; simp; omega, i3⟩
    · obtain ⟨f, e, fh, eh, fe, fl⟩ := LN_0.at ok hm (k := k) (by omega)
      have rf := ra1686 ok hm k
      have rt := ra1687 ok hm k
      refine w_aload_n d285_10 rfl ?_
      refine w_dloadS d285_11 (okg.kd hm) (fr1686 okg hm) ?_
      refine w_iload_n d285_14 rfl ?_
      refine w_ialoadV (x := ((f : Nat) : Int)) d285_15 (gi1686 okg hm (by omega)) ((i4 k (Nat.le_refl _)).1.trans fh) ?_
      refine w_istore2 d285_16 rfl ?_
      refine w_aload_n d285_17 rfl ?_
      refine w_dloadS d285_18 (okg.kd hm) (fr1687 okg hm) ?_
      refine w_iload_n d285_21 rfl ?_
      refine w_ialoadV (x := ((e : Nat) : Int)) d285_22 (gi1687 okg hm (by omega)) ((i4 k (Nat.le_refl _)).2.trans eh) ?_
      refine w_istore3 d285_23 rfl ?_
      refine w_iload_n d285_24 rfl ?_
      refine w_istore4 d285_25 rfl ?_
      have L27 : ∀ (m27 : Nat) (g2 : Hp) (p : Nat), p = m27 → Fr S m [1686, 1687] h g2 → (p ≤ k) → (sPos (fun i => cmpL (((ls.take k).foldl insW []).getD i []) (sl l f e)) k = sPos (fun i => cmpL (((ls.take k).foldl insW []).getD i []) (sl l f e)) p) → (∀ i, AI g2 (sT S 1686 m) i = if i = p then AI g2 (sT S 1686 m) p else shP (AI g (sT S 1686 m)) p k i) → (∀ i, AI g2 (sT S 1687 m) i = if i = p then AI g2 (sT S 1687 m) p else shP (AI g (sT S 1687 m)) p k i) → (∀ i, i < p → AI g2 (sT S 1686 m) i = AI g (sT S 1686 m) i ∧ AI g2 (sT S 1687 m) i = AI g (sT S 1687 m) i) → Wp G d 285 27 [some (vR (some m)), some (vI (k : Nat)), some (vI (f : Nat)), some (vI (e : Nat)), some (vI (p : Nat))] [] g2 Q := by
        intro m27
        induction m27 using Nat.strongRecOn with | ind m27 IH27 => ?_
        intro g2 p hm27 FRg2 k1 k3 k4 k5 k8
        have okg2 := FRg2.ok
        have AL := AL_0.r FRg2 hm
        refine w_iload d285_27 rfl ?_
        refine w_ifle d285_29 (fun c29 => ?_) (fun c29 => ?_)
        · have ks : p = 0 ∨ ¬ 0 < (fun i => cmpL (((ls.take k).foldl insW []).getD i []) (sl l f e)) (p - 1) := Or.inl (by omega)
          refine w_aload_n d285_97 rfl ?_
          refine w_dloadS d285_98 (okg2.kd hm) (fr1686 okg2 hm) ?_
          refine w_iload d285_101 rfl ?_
          refine w_iload_n d285_103 rfl ?_
          refine wa1686 d285_104 okg2 hm (by omega) (by omega) (fun h104 e104 m104 => ?_)
          have e104 : h104 = sAI g2 (sT S 1686 m) p ((f : Nat) : Int) := e104
          have f104 : Fr S m [1686] _ _ := Fr.wB okg2 hm m104 (fun ζ e => ⟨1686, by decide, by decide, e ▸ U_refl⟩)
          have ok104 := f104.ok
          have FR104 := Fr.tr (F := [1686, 1687]) FRg2 f104 (by decide) (by decide)
          have AL := AL.r f104 hm
          refine w_aload_n d285_105 rfl ?_
          refine w_dloadS d285_106 (ok104.kd hm) (fr1687 ok104 hm) ?_
          refine w_iload d285_109 rfl ?_
          refine w_iload_n d285_111 rfl ?_
          refine wa1687 d285_112 ok104 hm (by omega) (by omega) (fun h112 e112 m112 => ?_)
          have e112 : h112 = sAI h104 (sT S 1687 m) p ((e : Nat) : Int) := e112
          have f112 : Fr S m [1687] _ _ := Fr.wB ok104 hm m112 (fun ζ e => ⟨1687, by decide, by decide, e ▸ U_refl⟩)
          have ok112 := f112.ok
          have FR112 := Fr.tr (F := [1686, 1687]) FR104 f112 (by decide) (by decide)
          have AL := AL.r f112 hm
          refine w_iinc1 d285_113 rfl (by constructor <;> omega) ?_
          refine w_goto d285_116 ?_
          rw [show ((k : Nat) : Int) + 1 = ((k + 1 : Nat) : Int) by omega]
          have sv := i3.ins (f := f) (e := e) (a' := AI h112 (sT S 1686 m)) (b' := AI h112 (sT S 1687 m)) fe (p := p) (by rw [show ((ls.take k).foldl insW []).length = k by omega, k3, sPos_at ks]) (fun i => by rw [m112.ai ok104 ⟨by omega, by omega⟩ n67, e104, sArr]; rw [k4, show ((ls.take k).foldl insW []).length = k by omega]; exact if2 _ _ _ _) (fun i => by rw [e112, sArr, m104.ai okg2 ⟨by omega, by omega⟩ (Ne.symm n67)]; rw [k5, show ((ls.take k).foldl insW []).length = k by omega]; exact if2 _ _ _ _)
          rw [fl, ← srt_succ (by omega)] at sv
          refine w_less ?_ (IH2 _ (by omega) h112 (k + 1) rfl FR112 (by omega) sv (fun i hi => ⟨by rw [m112.ai ok104 ⟨by omega, by omega⟩ n67, e104, sArr, if_neg (by omega), k4, if_neg (by omega)]; unfold shP; rw [if_neg (by omega)]; exact (i4 i (by omega)).1, by rw [e112, sArr, if_neg (by omega), m104.ai okg2 ⟨by omega, by omega⟩ (Ne.symm n67), k5, if_neg (by omega)]; unfold shP; rw [if_neg (by omega)]; exact (i4 i (by omega)).2⟩))
          exact ⟨Or.inr rfl, Or.inr rfl, Or.inl rfl, Or.inl rfl, Or.inl rfl, trivial⟩
        · obtain ⟨z1, z2, z3⟩ := i3 (p - 1) (by omega)
          have y0 := ra1686 okg hm (p - 1)
          have y1 := ra1687 okg hm (p - 1)
          obtain ⟨a, ha⟩ : ∃ a : Nat, AI g (sT S 1686 m) (p - 1) = a := ⟨_, (Int.toNat_of_nonneg (by omega)).symm⟩
          obtain ⟨b, hb⟩ : ∃ b : Nat, AI g (sT S 1687 m) (p - 1) = b := ⟨_, (Int.toNat_of_nonneg (by omega)).symm⟩
          rw [ha, hb] at z3
          have z3b : sl l a b = ((ls.take k).foldl insW []).getD (p - 1) [] := z3
          refine w_aload_n d285_32 rfl ?_
          refine w_aload_n d285_33 rfl ?_
          refine w_dloadS d285_34 (okg2.kd hm) (fr1686 okg2 hm) ?_
          refine w_iload d285_37 rfl ?_
          refine w_iconst d285_39 (by decide) ?_
          refine w_isub d285_40 (by constructor <;> omega) ?_
          rw [show ((p : Nat) : Int) - 1 = ((p - 1 : Nat) : Int) by omega]
          refine w_ialoadV (x := ((a : Nat) : Int)) d285_41 (gi1686 okg2 hm (by omega)) ((k8 (p - 1) (by omega)).1.trans ha) ?_
          refine w_aload_n d285_42 rfl ?_
          refine w_dloadS d285_43 (okg2.kd hm) (fr1687 okg2 hm) ?_
          refine w_iload d285_46 rfl ?_
          refine w_iconst d285_48 (by decide) ?_
          refine w_isub d285_49 (by constructor <;> omega) ?_
          rw [show ((p : Nat) : Int) - 1 = ((p - 1 : Nat) : Int) by omega]
          refine w_ialoadV (x := ((b : Nat) : Int)) d285_50 (gi1687 okg2 hm (by omega)) ((k8 (p - 1) (by omega)).2.trans hb) ?_
          refine w_iload_n d285_51 rfl ?_
          refine w_iload_n d285_52 rfl ?_
          refine w_callv5 d285_53 (by omega) rfl (okg2.kd hm) (by simp) (Nat.le_of_ble_eq_true rfl) ?_
          refine k_M_compareLines okg2 (by omega) hm AL ⟨by omega, by omega⟩ fe ?_
          rw [z3b]
          refine w_ifle d285_56 (fun c56 => ?_) (fun c56 => ?_)
          · have ks : p = 0 ∨ ¬ 0 < (fun i => cmpL (((ls.take k).foldl insW []).getD i []) (sl l f e)) (p - 1) := Or.inr (by show ¬ 0 < cmpL (((ls.take k).foldl insW []).getD (p - 1) []) (sl l f e); omega)
            refine w_aload_n d285_97 rfl ?_
            refine w_dloadS d285_98 (okg2.kd hm) (fr1686 okg2 hm) ?_
            refine w_iload d285_101 rfl ?_
            refine w_iload_n d285_103 rfl ?_
            refine wa1686 d285_104 okg2 hm (by omega) (by omega) (fun h104 e104 m104 => ?_)
            have e104 : h104 = sAI g2 (sT S 1686 m) p ((f : Nat) : Int) := e104
            have f104 : Fr S m [1686] _ _ := Fr.wB okg2 hm m104 (fun ζ e => ⟨1686, by decide, by decide, e ▸ U_refl⟩)
            have ok104 := f104.ok
            have FR104 := Fr.tr (F := [1686, 1687]) FRg2 f104 (by decide) (by decide)
            have AL := AL.r f104 hm
            refine w_aload_n d285_105 rfl ?_
            refine w_dloadS d285_106 (ok104.kd hm) (fr1687 ok104 hm) ?_
            refine w_iload d285_109 rfl ?_
            refine w_iload_n d285_111 rfl ?_
            refine wa1687 d285_112 ok104 hm (by omega) (by omega) (fun h112 e112 m112 => ?_)
            have e112 : h112 = sAI h104 (sT S 1687 m) p ((e : Nat) : Int) := e112
            have f112 : Fr S m [1687] _ _ := Fr.wB ok104 hm m112 (fun ζ e => ⟨1687, by decide, by decide, e ▸ U_refl⟩)
            have ok112 := f112.ok
            have FR112 := Fr.tr (F := [1686, 1687]) FR104 f112 (by decide) (by decide)
            have AL := AL.r f112 hm
            refine w_iinc1 d285_113 rfl (by constructor <;> omega) ?_
            refine w_goto d285_116 ?_
            rw [show ((k : Nat) : Int) + 1 = ((k + 1 : Nat) : Int) by omega]
            have sv := i3.ins (f := f) (e := e) (a' := AI h112 (sT S 1686 m)) (b' := AI h112 (sT S 1687 m)) fe (p := p) (by rw [show ((ls.take k).foldl insW []).length = k by omega, k3, sPos_at ks]) (fun i => by rw [m112.ai ok104 ⟨by omega, by omega⟩ n67, e104, sArr]; rw [k4, show ((ls.take k).foldl insW []).length = k by omega]; exact if2 _ _ _ _) (fun i => by rw [e112, sArr, m104.ai okg2 ⟨by omega, by omega⟩ (Ne.symm n67)]; rw [k5, show ((ls.take k).foldl insW []).length = k by omega]; exact if2 _ _ _ _)
            rw [fl, ← srt_succ (by omega)] at sv
            refine w_less ?_ (IH2 _ (by omega) h112 (k + 1) rfl FR112 (by omega) sv (fun i hi => ⟨by rw [m112.ai ok104 ⟨by omega, by omega⟩ n67, e104, sArr, if_neg (by omega), k4, if_neg (by omega)]; unfold shP; rw [if_neg (by omega)]; exact (i4 i (by omega)).1, by rw [e112, sArr, if_neg (by omega), m104.ai okg2 ⟨by omega, by omega⟩ (Ne.symm n67), k5, if_neg (by omega)]; unfold shP; rw [if_neg (by omega)]; exact (i4 i (by omega)).2⟩))
            exact ⟨Or.inr rfl, Or.inr rfl, Or.inl rfl, Or.inl rfl, Or.inl rfl, trivial⟩
          · have sp := sPos_dn (c := (fun i => cmpL (((ls.take k).foldl insW []).getD i []) (sl l f e))) (k := p) (by omega) (by show 0 < cmpL (((ls.take k).foldl insW []).getD (p - 1) []) (sl l f e); omega)
            refine w_aload_n d285_59 rfl ?_
            refine w_dloadS d285_60 (okg2.kd hm) (fr1686 okg2 hm) ?_
            refine w_iload d285_63 rfl ?_
            refine w_aload_n d285_65 rfl ?_
            refine w_dloadS d285_66 (okg2.kd hm) (fr1686 okg2 hm) ?_
            refine w_iload d285_69 rfl ?_
            refine w_iconst d285_71 (by decide) ?_
            refine w_isub d285_72 (by constructor <;> omega) ?_
            rw [show ((p : Nat) : Int) - 1 = ((p - 1 : Nat) : Int) by omega]
            refine w_ialoadV (x := ((a : Nat) : Int)) d285_73 (gi1686 okg2 hm (by omega)) ((k8 (p - 1) (by omega)).1.trans ha) ?_
            refine wa1686 d285_74 okg2 hm (by omega) (by omega) (fun h74 e74 m74 => ?_)
            have e74 : h74 = sAI g2 (sT S 1686 m) p ((a : Nat) : Int) := e74
            have f74 : Fr S m [1686] _ _ := Fr.wB okg2 hm m74 (fun ζ e => ⟨1686, by decide, by decide, e ▸ U_refl⟩)
            have ok74 := f74.ok
            have FR74 := Fr.tr (F := [1686, 1687]) FRg2 f74 (by decide) (by decide)
            have AL := AL.r f74 hm
            refine w_aload_n d285_75 rfl ?_
            refine w_dloadS d285_76 (ok74.kd hm) (fr1687 ok74 hm) ?_
            refine w_iload d285_79 rfl ?_
            refine w_aload_n d285_81 rfl ?_
            refine w_dloadS d285_82 (ok74.kd hm) (fr1687 ok74 hm) ?_
            refine w_iload d285_85 rfl ?_
            refine w_iconst d285_87 (by decide) ?_
            refine w_isub d285_88 (by constructor <;> omega) ?_
            rw [show ((p : Nat) : Int) - 1 = ((p - 1 : Nat) : Int) by omega]
            refine w_ialoadV (x := ((b : Nat) : Int)) d285_89 (gi1687 ok74 hm (by omega)) (by rw [m74.ai okg2 ⟨by omega, by omega⟩ (Ne.symm n67)]; exact (k8 (p - 1) (by omega)).2.trans hb) ?_
            refine wa1687 d285_90 ok74 hm (by omega) (by omega) (fun h90 e90 m90 => ?_)
            have e90 : h90 = sAI h74 (sT S 1687 m) p ((b : Nat) : Int) := e90
            have f90 : Fr S m [1687] _ _ := Fr.wB ok74 hm m90 (fun ζ e => ⟨1687, by decide, by decide, e ▸ U_refl⟩)
            have ok90 := f90.ok
            have FR90 := Fr.tr (F := [1686, 1687]) FR74 f90 (by decide) (by decide)
            have AL := AL.r f90 hm
            refine w_iinc4 d285_91 rfl (by constructor <;> omega) ?_
            rw [show ((p : Nat) : Int) + (-1) = ((p - 1 : Nat) : Int) by omega]
            refine w_goto d285_94 ?_
            refine w_less ?_ (IH27 _ (by omega) h90 (p - 1) rfl FR90 (by omega) (k3.trans sp) (shP_st (by omega) k1 (fun i => by rw [m90.ai ok74 ⟨by omega, by omega⟩ n67, e74, sArr, ha]) k4) (shP_st (by omega) k1 (fun i => by rw [e90, sArr, hb, m74.ai okg2 ⟨by omega, by omega⟩ (Ne.symm n67)]) k5) (fun i hi => ⟨by rw [m90.ai ok74 ⟨by omega, by omega⟩ n67, e74, sArr, if_neg (by omega)]; exact (k8 i (by omega)).1, by rw [e90, sArr, if_neg (by omega), m74.ai okg2 ⟨by omega, by omega⟩ (Ne.symm n67)]; exact (k8 i (by omega)).2⟩))
            exact ⟨Or.inr rfl, Or.inr rfl, Or.inr rfl, Or.inr rfl, Or.inr rfl, trivial⟩
      refine w_less ?_ (L27 _ g k rfl FRg (Nat.le_refl _) rfl (fun i => by unfold shP; by_cases q : i = k; rw [if_pos q, q]; rw [if_neg q, if_neg (by omega)]) (fun i => by unfold shP; by_cases q : i = k; rw [if_pos q, q]; rw [if_neg q, if_neg (by omega)]) (fun i hi => ⟨rfl, rfl⟩))
      exact ⟨Or.inr rfl, Or.inr rfl, Or.inr rfl, Or.inr rfl, Or.inr rfl, trivial⟩
  refine w_less ?_ (L2 _ h 1 rfl (Fr.refl ok) (by omega) (fun j hj => by have l1 : ((ls.take 1).foldl insW []).length = min 1 ls.length := by { rw [srt_len, List.length_take]; simp }; obtain ⟨f, e, fh, eh, fe, fl⟩ := LN.at ok hm (k := 0) (by omega); rw [srt_succ (k := 0) (by omega), show j = 0 by omega, fh, eh]; exact ⟨by omega, by omega, fl⟩) (fun i _ => ⟨rfl, rfl⟩))
  exact ⟨Or.inr rfl, Or.inr rfl, Or.inl rfl, Or.inl rfl, Or.inl rfl, trivial⟩
