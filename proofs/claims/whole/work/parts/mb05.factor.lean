/-! the reference: names, numbers and products in a line -/
/-- the line y stands in l at f -/
def Yin (l : List Nat) (f : Nat) (y : List Nat) : Prop := f + y.length ≤ l.length ∧ ∀ p, p < y.length → l.getD (f + p) 0 = y.getD p 0
/-- the place in the line, whether something is wrong -/
def AtR (S : Shp) (h : Hp) (m f : Nat) (y : List Nat) (p : Nat) (w : Bool) : Prop := FI h 1698 m = (f + p : Nat) ∧ FI h 1699 m = (f + y.length : Nat) ∧ FI h 1700 m = b2i w
theorem AtR.r {S : Shp} {m f p : Nat} {F : List Nat} {h h' : Hp} {y : List Nat} {w : Bool} (D : AtR S h m f y p w) (fr : Fr S m F h h') (_ : sK S m = 14) (h1 : 1698 ∉ F ∧ 1699 ∉ F ∧ 1700 ∉ F := by decide) : AtR S h' m f y p w := ⟨(fr.i 1698 h1.1).trans D.1, (fr.i 1699 h1.2.1).trans D.2.1, (fr.i 1700 h1.2.2).trans D.2.2⟩
/-- the sources so far -/
def SrM (S : Shp) (h : Hp) (m : Nat) (l : List Nat) (ss : List SrV) : Prop := FI h 1693 m = ss.length ∧ ss.length ≤ 1300 ∧ ∀ k, k < ss.length → ∃ a n : Nat, AI h (sT S 1689 m) k = (a : Nat) ∧ AI h (sT S 1690 m) k = (n : Nat) ∧ a + n ≤ l.length ∧ okN (sl l a (a + n)) ∧ sN ss k = hd (sl l a (a + n)) ∧ AI h (sT S 1691 m) k = (sV ss k : Nat) ∧ sV ss k ≤ 9999 ∧ AI h (sT S 1692 m) k = b2i (sO ss k)
theorem SrM.r {S : Shp} {m : Nat} {F : List Nat} {h h' : Hp} {l : List Nat} {ss : List SrV} (D : SrM S h m l ss) (fr : Fr S m F h h') (hm : sK S m = 14) (h1 : 1689 ∉ F ∧ 1690 ∉ F ∧ 1691 ∉ F ∧ 1692 ∉ F ∧ 1693 ∉ F ∧ ltF4 F := by decide) : SrM S h' m l ss := ⟨(fr.i 1693 h1.2.2.2.2.1).trans D.1, D.2.1, fun k hk => by
  rw [fr.ai (by have := kT1689 fr.1 hm; omega) (by decide) h1.1 h1.2.2.2.2.2, fr.ai (by have := kT1690 fr.1 hm; omega) (by decide) h1.2.1 h1.2.2.2.2.2, fr.ai (by have := kT1691 fr.1 hm; omega) (by decide) h1.2.2.1 h1.2.2.2.2.2, fr.ai (by have := kT1692 fr.1 hm; omega) (by decide) h1.2.2.2.1 h1.2.2.2.2.2]
  exact D.2.2 k hk⟩
/-- the lines of faces so far -/
def FcM (S : Shp) (h : Hp) (m : Nat) (l : List Nat) (fs : List FaV) : Prop := FI h 1697 m = fs.length ∧ fs.length ≤ 1300 ∧ ∀ k, k < fs.length → ∃ a n : Nat, AI h (sT S 1694 m) k = (a : Nat) ∧ AI h (sT S 1695 m) k = (n : Nat) ∧ a + n ≤ l.length ∧ okN (sl l a (a + n)) ∧ fN fs k = hd (sl l a (a + n)) ∧ AI h (sT S 1696 m) k = (fV fs k : Nat) ∧ fV fs k ≤ 9999
theorem FcM.r {S : Shp} {m : Nat} {F : List Nat} {h h' : Hp} {l : List Nat} {fs : List FaV} (D : FcM S h m l fs) (fr : Fr S m F h h') (hm : sK S m = 14) (h1 : 1694 ∉ F ∧ 1695 ∉ F ∧ 1696 ∉ F ∧ 1697 ∉ F ∧ ltF4 F := by decide) : FcM S h' m l fs := ⟨(fr.i 1697 h1.2.2.2.1).trans D.1, D.2.1, fun k hk => by
  rw [fr.ai (by have := kT1694 fr.1 hm; omega) (by decide) h1.1 h1.2.2.2.2, fr.ai (by have := kT1695 fr.1 hm; omega) (by decide) h1.2.1 h1.2.2.2.2, fr.ai (by have := kT1696 fr.1 hm; omega) (by decide) h1.2.2.1 h1.2.2.2.2]
  exact D.2.2 k hk⟩
theorem atvI {y : List Nat} {p : Nat} : atv y (p : Nat) = if p < y.length then ((y.getD p 0 : Nat) : Int) else -1 := by
  unfold atv
  by_cases q : p < y.length
  · rw [if_pos q, if_pos ⟨by omega, by omega⟩, Int.toNat_natCast]
  · rw [if_neg q, if_neg (by omega)]
theorem isNs_at {y : List Nat} {p : Nat} : isNs (atv y (p : Nat)) = true ↔ p < y.length ∧ isLater 48 (y.getD p 0) = true := by
  rw [atvI]
  by_cases q : p < y.length
  · rw [if_pos q]
    simp only [isNs, isLater, isLet, q, true_and, Bool.or_eq_true, Bool.and_eq_true, decide_eq_true_eq]
    omega
  · rw [if_neg q]
    exact ⟨fun z => absurd z (by decide), fun z => absurd z.1 q⟩
theorem scan_eq {l : List Nat} {p : Nat → Bool} : ∀ {n i q : Nat}, i ≤ q → q ≤ l.length → (∀ j, i ≤ j → j < q → p (l.getD j 0) = true) → (q = i + n ∨ (q ≤ i + n ∧ (l.length ≤ q ∨ p (l.getD q 0) = false))) → scan l p i n = q
  | 0, i, q, h1, hq, ha, he => by
    rw [scan_stop (Or.inr (Or.inl rfl))]
    omega
  | n + 1, i, q, h1, hq, ha, he => by
    by_cases e : i = q
    · subst e
      refine scan_stop ?_
      rcases he with he | he
      · omega
      · rcases he.2 with he | he
        · exact Or.inl he
        · exact Or.inr (Or.inr he)
    · rw [scan_go (by omega) (ha i (Nat.le_refl _) (by omega))]
      refine scan_eq (by omega) hq (fun j h h' => ha j (by omega) h') ?_
      rcases he with he | he
      · exact Or.inl (by omega)
      · exact Or.inr ⟨by omega, he.2⟩
theorem let_later {c : Nat} (h : isLet c = true) : isLater 48 c = true := by unfold isLater; rw [h]; rfl
theorem dig_later {c : Nat} (h : isDig c = true) : isLater 48 c = true := by
  have := isDig_t.mp h
  simp only [isLater, isLet, Bool.or_eq_true, Bool.and_eq_true, decide_eq_true_eq]
  omega
theorem let_at {y : List Nat} {p : Nat} : (97 ≤ atv y (p : Nat) ∧ atv y (p : Nat) ≤ 122) ↔ p < y.length ∧ isLet (y.getD p 0) = true := by
  rw [atvI]
  by_cases q : p < y.length
  · rw [if_pos q]
    simp only [isLet, q, true_and, Bool.and_eq_true, decide_eq_true_eq]
    omega
  · rw [if_neg q]
    exact ⟨fun z => by omega, fun z => absurd z.1 q⟩
theorem dig_at {y : List Nat} {p : Nat} : (48 ≤ atv y (p : Nat) ∧ atv y (p : Nat) ≤ 57) ↔ p < y.length ∧ isDig (y.getD p 0) = true := by
  rw [atvI]
  by_cases q : p < y.length
  · rw [if_pos q, isDig_t]
    omega
  · rw [if_neg q]
    exact ⟨fun z => by omega, fun z => absurd z.1 q⟩
/-- a name that ends where it ends -/
theorem word_to {y : List Nat} {p q : Nat} (hp : p < y.length) (h0 : isLet (y.getD p 0) = true) (hq : p < q ∧ q ≤ y.length) (ha : ∀ j, p ≤ j → j < q → isLater 48 (y.getD j 0) = true) (he : y.length ≤ q ∨ isLater 48 (y.getD q 0) = false) : if q - p ≤ 8 then wordE y p 8 48 = q else wordE y p 8 48 = p + 8 := by
  have w : wordE y p 8 48 = scan y (isLater 48) (p + 1) (8 - 1) := if_pos ⟨hp, by decide, h0⟩
  rw [w]
  split
  · exact scan_eq (by omega) hq.2 (fun j h h' => ha j (by omega) h') (Or.inr ⟨by omega, he⟩)
  · exact scan_eq (by omega) (by omega) (fun j h h' => ha j (by omega) (by omega)) (Or.inl (by omega))
theorem word_no {y : List Nat} {p : Nat} (h : ¬ (p < y.length ∧ isLet (y.getD p 0) = true)) : wordE y p 8 48 = p := if_neg (fun z => h ⟨z.1, z.2.2⟩)
def nsAt (y : List Nat) (i : Nat) : Prop := i < y.length ∧ isLater 48 (y.getD i 0) = true
def dgAt (y : List Nat) (i : Nat) : Prop := i < y.length ∧ isDig (y.getD i 0) = true
theorem num_no {y : List Nat} {p : Nat} (h : ¬ dgAt y p) : numE y p = p := by
  unfold numE
  refine scan_stop ?_
  rcases Nat.lt_or_ge p y.length with q | q
  · refine Or.inr (Or.inr ?_)
    rcases Bool.eq_false_or_eq_true (isDig (y.getD p 0)) with z | z
    · exact absurd ⟨q, z⟩ h
    · exact z
  · exact Or.inl q
theorem d273_0 : dc 273 0 = some (.aload_n 0, 1) := by decide +kernel
theorem d273_1 : dc 273 1 = some (.getfield 1698, 4) := by decide +kernel
theorem d273_4 : dc 273 4 = some (.aload_n 0, 5) := by decide +kernel
theorem d273_5 : dc 273 5 = some (.getfield 1699, 8) := by decide +kernel
theorem d273_8 : dc 273 8 = some (.if_icmp .ge ((23 : Nat) : Int), 11) := by decide +kernel
theorem d273_11 : dc 273 11 = some (.aload_n 0, 12) := by decide +kernel
theorem d273_12 : dc 273 12 = some (.dload 1681, 15) := by decide +kernel
theorem d273_15 : dc 273 15 = some (.aload_n 0, 16) := by decide +kernel
theorem d273_16 : dc 273 16 = some (.getfield 1698, 19) := by decide +kernel
theorem d273_19 : dc 273 19 = some (.iaload, 20) := by decide +kernel
theorem d273_20 : dc 273 20 = some (.goto ((24 : Nat) : Int), 23) := by decide +kernel
theorem d273_23 : dc 273 23 = some (.iconst (-1), 24) := by decide +kernel
theorem d273_24 : dc 273 24 = some (.ireturn, 25) := by decide +kernel
theorem k_M_hereInLine {S : Shp} {G : Nat → Option Nat} {d : Nat} {h : Hp} {Q : Option MV → Hp → Prop} {m : Nat} {f p : Nat} {y l : List Nat} {w : Bool} (ok : Ok S h) (h1 : 0 ≤ d) (hm : sK S m = 14) (AT : AtR S h m f y p w) (AL : AlR S h m l) (hy : Yin l f y) (hp : p ≤ y.length)
    (kk : Q (some (vI (atv y (p : Nat)))) h) : Cl G d 273 [vR (some m)] h Q := by
  show Wp G d 273 0 [some (vR (some m))] [] h Q
  have AT_0 := AT
  have AL_0 := AL
  have l3 : l.length ≤ 3600 := by have sl := sLT ok (f := 1681) (n := 3600) hm (by decide) rfl (by decide); have := AL.2.2.1; omega
  have hyl := hy.1
  rw [atvI] at kk
  refine w_aload_n d273_0 rfl ?_
  refine w_getI (x := ((f + p : Nat) : Int)) d273_1 (ok.kd hm) AT.1 ?_
  refine w_aload_n d273_4 rfl ?_
  refine w_getI (x := ((f + y.length : Nat) : Int)) d273_5 (ok.kd hm) AT.2.1 ?_
  refine w_icmpge d273_8 (fun c8 => ?_) (fun c8 => ?_)
  · rw [if_neg (by omega)] at kk
    refine w_iconst d273_23 (by decide) ?_
    refine w_ireturn d273_24 ?_
    exact kk
  · have hp2 : p < y.length := by omega
    rw [if_pos hp2] at kk
    refine w_aload_n d273_11 rfl ?_
    refine w_dloadS d273_12 (ok.kd hm) (fr1681 ok hm) ?_
    refine w_aload_n d273_15 rfl ?_
    refine w_getI (x := ((f + p : Nat) : Int)) d273_16 (ok.kd hm) AT.1 ?_
    refine w_ialoadV (x := ((y.getD p 0 : Nat) : Int)) d273_19 (by have := AL.2.g ok (k := f + p) (by omega); rwa [show (((0 : Nat) : Int) + ((f + p : Nat) : Int)) = ((f + p : Nat) : Int) by omega] at this) ((AL.2.at0 (by omega)).trans (congrArg _ (hy.2 p hp2))) ?_
    refine w_goto d273_20 ?_
    refine w_ireturn d273_24 ?_
    exact kk
theorem d274_0 : dc 274 0 = some (.aload_n 0, 1) := by decide +kernel
theorem d274_1 : dc 274 1 = some (.invokevirtual 273, 4) := by decide +kernel
theorem d274_4 : dc 274 4 = some (.iload_n 1, 5) := by decide +kernel
theorem d274_5 : dc 274 5 = some (.if_icmp .ne ((21 : Nat) : Int), 8) := by decide +kernel
theorem d274_8 : dc 274 8 = some (.aload_n 0, 9) := by decide +kernel
theorem d274_9 : dc 274 9 = some (.dup, 10) := by decide +kernel
theorem d274_10 : dc 274 10 = some (.getfield 1698, 13) := by decide +kernel
theorem d274_13 : dc 274 13 = some (.iconst 1, 14) := by decide +kernel
theorem d274_14 : dc 274 14 = some (.iadd, 15) := by decide +kernel
theorem d274_15 : dc 274 15 = some (.putfield 1698, 18) := by decide +kernel
theorem d274_18 : dc 274 18 = some (.goto ((26 : Nat) : Int), 21) := by decide +kernel
theorem d274_21 : dc 274 21 = some (.aload_n 0, 22) := by decide +kernel
theorem d274_22 : dc 274 22 = some (.iconst 1, 23) := by decide +kernel
theorem d274_23 : dc 274 23 = some (.putstatic 1700, 26) := by decide +kernel
theorem d274_26 : dc 274 26 = some (.return_, 27) := by decide +kernel
theorem k_M_expectInLine {S : Shp} {G : Nat → Option Nat} {d : Nat} {h : Hp} {Q : Option MV → Hp → Prop} {m : Nat} {c : Nat} {f p : Nat} {y l : List Nat} {w : Bool} (ok : Ok S h) (h1 : 1 ≤ d) (hm : sK S m = 14) (AT : AtR S h m f y p w) (AL : AlR S h m l) (hy : Yin l f y) (hp : p ≤ y.length)
    (kk : ∀ h' p' w', Fr S m [1698, 1700] h h' → AtR S h' m f y p' w' → ((p' = p + 1 ∧ p < y.length ∧ w' = w ∧ atv y (p : Nat) = (c : Nat)) ∨ (p' = p ∧ w' = true ∧ ¬ atv y (p : Nat) = (c : Nat))) → Q none h') : Cl G d 274 [vR (some m), vI (c : Nat)] h Q := by
  show Wp G d 274 0 [some (vR (some m)), some (vI (c : Nat))] [] h Q
  have AT_0 := AT
  have AL_0 := AL
  have l3 : l.length ≤ 3600 := by have sl := sLT ok (f := 1681) (n := 3600) hm (by decide) rfl (by decide); have := AL.2.2.1; omega
  have hyl := hy.1
  refine w_aload_n d274_0 rfl ?_
  refine w_callv1 d274_1 (by omega) rfl (ok.kd hm) (by simp) (Nat.le_of_ble_eq_true rfl) ?_
  refine k_M_hereInLine ok (by omega) hm AT AL hy hp ?_
  refine w_iload_n d274_4 rfl ?_
  refine w_icmpne d274_5 (fun c5 => ?_) (fun c5 => ?_)
  · refine w_aload_n d274_21 rfl ?_
    refine w_iconst d274_22 (by decide) ?_
    refine wf1700 d274_23 ok hm (by omega) (fun h23 e23 m23 => ?_)
    have f23 : Fr S m [1700] _ _ := Fr.wF ok m23 (FK.pI e23)
    have ok23 := f23.ok
    have FR23 := Fr.le (F := [1698, 1700]) f23 (by decide)
    have AL := AL.r f23 hm
    refine w_return d274_26 ?_
    refine kk h23 p true FR23 ⟨(f23.i 1698).trans AT_0.1, (f23.i 1699).trans AT_0.2.1, ?_⟩ (Or.inr ⟨rfl, rfl, by omega⟩)
    rw [e23, FI_sFI, if_pos ⟨rfl, rfl⟩]; rfl
  · have hc : atv y (p : Nat) = ((c : Nat) : Int) := by omega
    have hp2 : p < y.length := by
      rw [atvI] at hc
      by_cases q : p < y.length
      · exact q
      · rw [if_neg q] at hc; omega
    refine w_aload_n d274_8 rfl ?_
    refine w_dupR d274_9 ?_
    refine w_getI (x := ((f + p : Nat) : Int)) d274_10 (ok.kd hm) AT.1 ?_
    refine w_iconst d274_13 (by decide) ?_
    refine w_iadd d274_14 (by constructor <;> omega) ?_
    refine wf1698 d274_15 ok hm (by omega) (fun h15 e15 m15 => ?_)
    have f15 : Fr S m [1698] _ _ := Fr.wF ok m15 (FK.pI e15)
    have ok15 := f15.ok
    have FR15 := Fr.le (F := [1698, 1700]) f15 (by decide)
    have AL := AL.r f15 hm
    refine w_goto d274_18 ?_
    refine w_return d274_26 ?_
    refine kk h15 (p + 1) w FR15 ⟨?_, (f15.i 1699).trans AT_0.2.1, (f15.i 1700).trans AT_0.2.2⟩ (Or.inl ⟨rfl, hp2, rfl, hc⟩)
    rw [e15, FI_sFI, if_pos ⟨rfl, rfl⟩]; omega
theorem d272_0 : dc 272 0 = some (.aload_n 0, 1) := by decide +kernel
theorem d272_1 : dc 272 1 = some (.getfield 1698, 4) := by decide +kernel
theorem d272_4 : dc 272 4 = some (.istore_n 1, 5) := by decide +kernel
theorem d272_5 : dc 272 5 = some (.aload_n 0, 6) := by decide +kernel
theorem d272_6 : dc 272 6 = some (.invokevirtual 273, 9) := by decide +kernel
theorem d272_9 : dc 272 9 = some (.bipush 97, 11) := by decide +kernel
theorem d272_11 : dc 272 11 = some (.bipush 122, 13) := by decide +kernel
theorem d272_13 : dc 272 13 = some (.invokevirtual 206, 16) := by decide +kernel
theorem d272_16 : dc 272 16 = some (.ifCond .ne ((26 : Nat) : Int), 19) := by decide +kernel
theorem d272_19 : dc 272 19 = some (.aload_n 0, 20) := by decide +kernel
theorem d272_20 : dc 272 20 = some (.iconst 1, 21) := by decide +kernel
theorem d272_21 : dc 272 21 = some (.putstatic 1700, 24) := by decide +kernel
theorem d272_24 : dc 272 24 = some (.iconst 0, 25) := by decide +kernel
theorem d272_25 : dc 272 25 = some (.ireturn, 26) := by decide +kernel
theorem d272_26 : dc 272 26 = some (.aload_n 0, 27) := by decide +kernel
theorem d272_27 : dc 272 27 = some (.invokevirtual 273, 30) := by decide +kernel
theorem d272_30 : dc 272 30 = some (.invokevirtual 210, 33) := by decide +kernel
theorem d272_33 : dc 272 33 = some (.ifCond .eq ((49 : Nat) : Int), 36) := by decide +kernel
theorem d272_36 : dc 272 36 = some (.aload_n 0, 37) := by decide +kernel
theorem d272_37 : dc 272 37 = some (.dup, 38) := by decide +kernel
theorem d272_38 : dc 272 38 = some (.getfield 1698, 41) := by decide +kernel
theorem d272_41 : dc 272 41 = some (.iconst 1, 42) := by decide +kernel
theorem d272_42 : dc 272 42 = some (.iadd, 43) := by decide +kernel
theorem d272_43 : dc 272 43 = some (.putfield 1698, 46) := by decide +kernel
theorem d272_46 : dc 272 46 = some (.goto ((26 : Nat) : Int), 49) := by decide +kernel
theorem d272_49 : dc 272 49 = some (.aload_n 0, 50) := by decide +kernel
theorem d272_50 : dc 272 50 = some (.getfield 1698, 53) := by decide +kernel
theorem d272_53 : dc 272 53 = some (.iload_n 1, 54) := by decide +kernel
theorem d272_54 : dc 272 54 = some (.isub, 55) := by decide +kernel
theorem d272_55 : dc 272 55 = some (.bipush 8, 57) := by decide +kernel
theorem d272_57 : dc 272 57 = some (.if_icmp .le ((65 : Nat) : Int), 60) := by decide +kernel
theorem d272_60 : dc 272 60 = some (.aload_n 0, 61) := by decide +kernel
theorem d272_61 : dc 272 61 = some (.iconst 1, 62) := by decide +kernel
theorem d272_62 : dc 272 62 = some (.putstatic 1700, 65) := by decide +kernel
theorem d272_65 : dc 272 65 = some (.aload_n 0, 66) := by decide +kernel
theorem d272_66 : dc 272 66 = some (.getfield 1698, 69) := by decide +kernel
theorem d272_69 : dc 272 69 = some (.iload_n 1, 70) := by decide +kernel
theorem d272_70 : dc 272 70 = some (.isub, 71) := by decide +kernel
theorem d272_71 : dc 272 71 = some (.ireturn, 72) := by decide +kernel
theorem k_M_lineName {S : Shp} {G : Nat → Option Nat} {d : Nat} {h : Hp} {Q : Option MV → Hp → Prop} {m : Nat} {f p : Nat} {y l : List Nat} {w : Bool} (ok : Ok S h) (h1 : 2 ≤ d) (hm : sK S m = 14) (AT : AtR S h m f y p w) (AL : AlR S h m l) (hy : Yin l f y) (hp : p ≤ y.length)
    (kk : ∀ h' q w', Fr S m [1698, 1700] h h' → AtR S h' m f y q w' → (p ≤ q ∧ q ≤ y.length) → ((w' = w ∧ q = wordE y p 8 48 ∧ q ≠ p) ∨ (w' = true ∧ (wordE y p 8 48 = p ∨ nsAt y (wordE y p 8 48)))) → Q (some (vI ((q - p : Nat) : Int))) h') : Cl G d 272 [vR (some m)] h Q := by
  show Wp G d 272 0 [some (vR (some m)), none] [] h Q
  have AT_0 := AT
  have AL_0 := AL
  have l3 : l.length ≤ 3600 := by have sl := sLT ok (f := 1681) (n := 3600) hm (by decide) rfl (by decide); have := AL.2.2.1; omega
  have hyl := hy.1
  refine w_aload_n d272_0 rfl ?_
  refine w_getI (x := ((f + p : Nat) : Int)) d272_1 (ok.kd hm) AT.1 ?_
  refine w_istore1 d272_4 rfl ?_
  refine w_aload_n d272_5 rfl ?_
  refine w_callv1 d272_6 (by omega) rfl (ok.kd hm) (by simp) (Nat.le_of_ble_eq_true rfl) ?_
  refine k_M_hereInLine ok (by omega) hm AT AL hy hp ?_
  refine w_bipush d272_9 (by decide) ?_
  refine w_bipush d272_11 (by decide) ?_
  refine w_calls3 d272_13 (by omega) rfl rfl (by simp) (Nat.le_of_ble_eq_true rfl) ?_
  refine k_M_in (by omega) ?_
  refine w_ifne d272_16 (fun c16 => ?_) (fun c16 => ?_)
  · have l0 : p < y.length ∧ isLet (y.getD p 0) = true := let_at.mp (by
      by_cases z : (97 ≤ atv y (p : Nat) ∧ atv y (p : Nat) ≤ 122)
      · exact z
      · rw [decide_eq_false z] at c16; exact absurd rfl c16)
    have L26 : ∀ (m26 : Nat) (g : Hp) (q : Nat), y.length - q = m26 → Fr S m [1698, 1700] h g → (p ≤ q ∧ q ≤ y.length) → (AtR S g m f y q w) → (∀ j, p ≤ j → j < q → isLater 48 (y.getD j 0) = true) → Wp G d 272 26 [some (vR (some m)), some (vI (f + p : Nat))] [] g Q := by
      intro m26
      induction m26 using Nat.strongRecOn with | ind m26 IH26 => ?_
      intro g q hm26 FRg iq AT ia
      have okg := FRg.ok
      have AL := AL_0.r FRg hm
      refine w_aload_n d272_26 rfl ?_
      refine w_callv1 d272_27 (by omega) rfl (okg.kd hm) (by simp) (Nat.le_of_ble_eq_true rfl) ?_
      refine k_M_hereInLine okg (by omega) hm AT AL hy iq.2 ?_
      refine w_calls1 d272_30 (by omega) rfl rfl (by simp) (Nat.le_of_ble_eq_true rfl) ?_
      refine k_M_isNameSign okg (by omega) ?_
      refine w_ifeq d272_33 (fun c33 => ?_) (fun c33 => ?_)
      · have nq : ¬ (q < y.length ∧ isLater 48 (y.getD q 0) = true) := fun z => by rw [isNs_at.mpr z] at c33; exact absurd c33 (by decide)
        have pq : p < q := by
          rcases Nat.lt_or_ge p q with z | z
          · exact z
          · rw [show q = p by omega] at nq; exact absurd ⟨l0.1, let_later l0.2⟩ nq
        have wt := word_to l0.1 l0.2 ⟨pq, iq.2⟩ ia (by
          rcases Nat.lt_or_ge q y.length with z | z
          · exact Or.inr (by
              rcases Bool.eq_false_or_eq_true (isLater 48 (y.getD q 0)) with u | u
              · exact absurd ⟨z, u⟩ nq
              · exact u)
          · exact Or.inl z)
        refine w_aload_n d272_49 rfl ?_
        refine w_getI (x := ((f + q : Nat) : Int)) d272_50 (okg.kd hm) AT.1 ?_
        refine w_iload_n d272_53 rfl ?_
        refine w_isub d272_54 (by constructor <;> omega) ?_
        refine w_bipush d272_55 (by decide) ?_
        refine w_icmple d272_57 (fun c57 => ?_) (fun c57 => ?_)
        · rw [if_pos (by omega)] at wt
          refine w_aload_n d272_65 rfl ?_
          refine w_getI (x := ((f + q : Nat) : Int)) d272_66 (okg.kd hm) AT.1 ?_
          refine w_iload_n d272_69 rfl ?_
          refine w_isub d272_70 (by constructor <;> omega) ?_
          refine w_ireturn d272_71 ?_
          rw [show ((f + q : Nat) : Int) - ((f + p : Nat) : Int) = ((q - p : Nat) : Int) by omega]
          exact kk g q w FRg AT ⟨by omega, iq.2⟩ (Or.inl ⟨rfl, wt.symm, by omega⟩)
        · rw [if_neg (by omega)] at wt
          refine w_aload_n d272_60 rfl ?_
          refine w_iconst d272_61 (by decide) ?_
          have AT_p := AT
          refine wf1700 d272_62 okg hm (by omega) (fun h62 e62 m62 => ?_)
          have f62 : Fr S m [1700] _ _ := Fr.wF okg m62 (FK.pI e62)
          have ok62 := f62.ok
          have FR62 := Fr.tr (F := [1698, 1700]) FRg f62 (by decide) (by decide)
          have AL := AL.r f62 hm
          have AT : AtR S h62 m f y (q) true := ⟨(f62.i 1698).trans AT_p.1, (f62.i 1699).trans AT_p.2.1, by rw [e62, FI_sFI, if_pos ⟨rfl, rfl⟩]; rfl⟩
          refine w_aload_n d272_65 rfl ?_
          refine w_getI (x := ((f + q : Nat) : Int)) d272_66 (ok62.kd hm) AT.1 ?_
          refine w_iload_n d272_69 rfl ?_
          refine w_isub d272_70 (by constructor <;> omega) ?_
          refine w_ireturn d272_71 ?_
          rw [show ((f + q : Nat) : Int) - ((f + p : Nat) : Int) = ((q - p : Nat) : Int) by omega]
          exact kk h62 q true FR62 AT ⟨by omega, iq.2⟩ (Or.inr ⟨rfl, Or.inr (by rw [wt]; exact ⟨by omega, ia _ (by omega) (by omega)⟩)⟩)
      · have hq : q < y.length ∧ isLater 48 (y.getD q 0) = true := isNs_at.mp (by
          rcases Bool.eq_false_or_eq_true (isNs (atv y (q : Nat))) with z | z
          · exact z
          · rw [z] at c33; exact absurd rfl c33)
        refine w_aload_n d272_36 rfl ?_
        refine w_dupR d272_37 ?_
        refine w_getI (x := ((f + q : Nat) : Int)) d272_38 (okg.kd hm) AT.1 ?_
        refine w_iconst d272_41 (by decide) ?_
        refine w_iadd d272_42 (by constructor <;> omega) ?_
        have AT_p := AT
        refine wf1698 d272_43 okg hm (by omega) (fun h43 e43 m43 => ?_)
        have f43 : Fr S m [1698] _ _ := Fr.wF okg m43 (FK.pI e43)
        have ok43 := f43.ok
        have FR43 := Fr.tr (F := [1698, 1700]) FRg f43 (by decide) (by decide)
        have AL := AL.r f43 hm
        have AT : AtR S h43 m f y (q + 1) w := ⟨by rw [e43, FI_sFI, if_pos ⟨rfl, rfl⟩]; omega, (f43.i 1699).trans AT_p.2.1, (f43.i 1700).trans AT_p.2.2⟩
        refine w_goto d272_46 ?_
        refine w_less ?_ (IH26 _ (by omega) h43 (q + 1) rfl FR43 (by omega) AT (fun j h1 h2 => by rcases Nat.lt_or_ge j q with z | z; exact ia j h1 z; rw [show j = q by omega]; exact hq.2))
        exact ⟨Or.inr rfl, Or.inr rfl, trivial⟩
    refine w_less ?_ (L26 _ h p rfl (Fr.refl ok) ⟨Nat.le_refl _, hp⟩ AT (fun j h1 h2 => by omega))
    exact ⟨Or.inr rfl, Or.inr rfl, trivial⟩
  · have n0 : ¬ (p < y.length ∧ isLet (y.getD p 0) = true) := fun z => by rw [decide_eq_true (let_at.mpr z)] at c16; exact absurd c16 (by decide)
    refine w_aload_n d272_19 rfl ?_
    refine w_iconst d272_20 (by decide) ?_
    have AT_p := AT
    refine wf1700 d272_21 ok hm (by omega) (fun h21 e21 m21 => ?_)
    have f21 : Fr S m [1700] _ _ := Fr.wF ok m21 (FK.pI e21)
    have ok21 := f21.ok
    have FR21 := Fr.le (F := [1698, 1700]) f21 (by decide)
    have AL := AL.r f21 hm
    have AT : AtR S h21 m f y (p) true := ⟨(f21.i 1698).trans AT_p.1, (f21.i 1699).trans AT_p.2.1, by rw [e21, FI_sFI, if_pos ⟨rfl, rfl⟩]; rfl⟩
    refine w_iconst d272_24 (by decide) ?_
    refine w_ireturn d272_25 ?_
    have := kk h21 p true FR21 AT ⟨Nat.le_refl _, hp⟩ (Or.inr ⟨rfl, Or.inl (word_no n0)⟩)
    rw [Nat.sub_self] at this
    exact this
theorem num_to {y : List Nat} {p q : Nat} (hq : p ≤ q ∧ q ≤ y.length ∧ q ≤ p + 4) (ha : ∀ j, p ≤ j → j < q → isDig (y.getD j 0) = true) (he : q = p + 4 ∨ ¬ dgAt y q) (h0 : y.getD p 0 = 48 → q ≤ p + 1) : numE y p = q := by
  unfold numE
  have st : q = p + 4 ∨ (y.length ≤ q ∨ isDig (y.getD q 0) = false) := by
    rcases he with he | he
    · exact Or.inl he
    · refine Or.inr ?_
      rcases Nat.lt_or_ge q y.length with z | z
      · rcases Bool.eq_false_or_eq_true (isDig (y.getD q 0)) with u | u
        · exact absurd ⟨z, u⟩ he
        · exact Or.inr u
      · exact Or.inl z
  split
  · rename_i c
    have q1 := h0 c.2
    rcases st with st | st
    · omega
    · exact scan_eq hq.1 hq.2.1 ha (Or.inr ⟨by omega, st⟩)
  · rcases st with st | st
    · exact scan_eq hq.1 hq.2.1 ha (Or.inl st)
    · exact scan_eq hq.1 hq.2.1 ha (Or.inr ⟨by omega, st⟩)
theorem num_01 {y : List Nat} {p : Nat} (hp : p < y.length) (h0 : y.getD p 0 = 48) : numE y p = p + 1 := by
  unfold numE
  rw [if_pos ⟨hp, h0⟩]
  exact scan_eq (by omega) (by omega) (fun j h1 h2 => by rw [show j = p by omega, h0]; decide) (Or.inl rfl)
theorem d275_0 : dc 275 0 = some (.aload_n 0, 1) := by decide +kernel
theorem d275_1 : dc 275 1 = some (.getfield 1698, 4) := by decide +kernel
theorem d275_4 : dc 275 4 = some (.istore_n 1, 5) := by decide +kernel
theorem d275_5 : dc 275 5 = some (.iconst 0, 6) := by decide +kernel
theorem d275_6 : dc 275 6 = some (.istore_n 2, 7) := by decide +kernel
theorem d275_7 : dc 275 7 = some (.aload_n 0, 8) := by decide +kernel
theorem d275_8 : dc 275 8 = some (.invokevirtual 273, 11) := by decide +kernel
theorem d275_11 : dc 275 11 = some (.bipush 48, 13) := by decide +kernel
theorem d275_13 : dc 275 13 = some (.bipush 57, 15) := by decide +kernel
theorem d275_15 : dc 275 15 = some (.invokevirtual 206, 18) := by decide +kernel
theorem d275_18 : dc 275 18 = some (.ifCond .eq ((57 : Nat) : Int), 21) := by decide +kernel
theorem d275_21 : dc 275 21 = some (.aload_n 0, 22) := by decide +kernel
theorem d275_22 : dc 275 22 = some (.getfield 1698, 25) := by decide +kernel
theorem d275_25 : dc 275 25 = some (.iload_n 1, 26) := by decide +kernel
theorem d275_26 : dc 275 26 = some (.iconst 4, 27) := by decide +kernel
theorem d275_27 : dc 275 27 = some (.iadd, 28) := by decide +kernel
theorem d275_28 : dc 275 28 = some (.if_icmp .ge ((57 : Nat) : Int), 31) := by decide +kernel
theorem d275_31 : dc 275 31 = some (.bipush 10, 33) := by decide +kernel
theorem d275_33 : dc 275 33 = some (.iload_n 2, 34) := by decide +kernel
theorem d275_34 : dc 275 34 = some (.imul, 35) := by decide +kernel
theorem d275_35 : dc 275 35 = some (.aload_n 0, 36) := by decide +kernel
theorem d275_36 : dc 275 36 = some (.invokevirtual 273, 39) := by decide +kernel
theorem d275_39 : dc 275 39 = some (.iadd, 40) := by decide +kernel
theorem d275_40 : dc 275 40 = some (.bipush 48, 42) := by decide +kernel
theorem d275_42 : dc 275 42 = some (.isub, 43) := by decide +kernel
theorem d275_43 : dc 275 43 = some (.istore_n 2, 44) := by decide +kernel
theorem d275_44 : dc 275 44 = some (.aload_n 0, 45) := by decide +kernel
theorem d275_45 : dc 275 45 = some (.dup, 46) := by decide +kernel
theorem d275_46 : dc 275 46 = some (.getfield 1698, 49) := by decide +kernel
theorem d275_49 : dc 275 49 = some (.iconst 1, 50) := by decide +kernel
theorem d275_50 : dc 275 50 = some (.iadd, 51) := by decide +kernel
theorem d275_51 : dc 275 51 = some (.putfield 1698, 54) := by decide +kernel
theorem d275_54 : dc 275 54 = some (.goto ((7 : Nat) : Int), 57) := by decide +kernel
theorem d275_57 : dc 275 57 = some (.aload_n 0, 58) := by decide +kernel
theorem d275_58 : dc 275 58 = some (.getfield 1698, 61) := by decide +kernel
theorem d275_61 : dc 275 61 = some (.iload_n 1, 62) := by decide +kernel
theorem d275_62 : dc 275 62 = some (.if_icmp .eq ((100 : Nat) : Int), 65) := by decide +kernel
theorem d275_65 : dc 275 65 = some (.aload_n 0, 66) := by decide +kernel
theorem d275_66 : dc 275 66 = some (.dload 1681, 69) := by decide +kernel
theorem d275_69 : dc 275 69 = some (.iload_n 1, 70) := by decide +kernel
theorem d275_70 : dc 275 70 = some (.iaload, 71) := by decide +kernel
theorem d275_71 : dc 275 71 = some (.bipush 48, 73) := by decide +kernel
theorem d275_73 : dc 275 73 = some (.if_icmp .ne ((86 : Nat) : Int), 76) := by decide +kernel
theorem d275_76 : dc 275 76 = some (.aload_n 0, 77) := by decide +kernel
theorem d275_77 : dc 275 77 = some (.getfield 1698, 80) := by decide +kernel
theorem d275_80 : dc 275 80 = some (.iload_n 1, 81) := by decide +kernel
theorem d275_81 : dc 275 81 = some (.iconst 1, 82) := by decide +kernel
theorem d275_82 : dc 275 82 = some (.iadd, 83) := by decide +kernel
theorem d275_83 : dc 275 83 = some (.if_icmp .gt ((100 : Nat) : Int), 86) := by decide +kernel
theorem d275_86 : dc 275 86 = some (.aload_n 0, 87) := by decide +kernel
theorem d275_87 : dc 275 87 = some (.invokevirtual 273, 90) := by decide +kernel
theorem d275_90 : dc 275 90 = some (.bipush 48, 92) := by decide +kernel
theorem d275_92 : dc 275 92 = some (.bipush 57, 94) := by decide +kernel
theorem d275_94 : dc 275 94 = some (.invokevirtual 206, 97) := by decide +kernel
theorem d275_97 : dc 275 97 = some (.ifCond .eq ((105 : Nat) : Int), 100) := by decide +kernel
theorem d275_100 : dc 275 100 = some (.aload_n 0, 101) := by decide +kernel
theorem d275_101 : dc 275 101 = some (.iconst 1, 102) := by decide +kernel
theorem d275_102 : dc 275 102 = some (.putstatic 1700, 105) := by decide +kernel
theorem d275_105 : dc 275 105 = some (.iload_n 2, 106) := by decide +kernel
theorem d275_106 : dc 275 106 = some (.ireturn, 107) := by decide +kernel
theorem k_M_lineNumber {S : Shp} {G : Nat → Option Nat} {d : Nat} {h : Hp} {Q : Option MV → Hp → Prop} {m : Nat} {f p : Nat} {y l : List Nat} {w : Bool} (ok : Ok S h) (h1 : 2 ≤ d) (hm : sK S m = 14) (AT : AtR S h m f y p w) (AL : AlR S h m l) (hy : Yin l f y) (hp : p ≤ y.length)
    (kk : ∀ h' q w' v, Fr S m [1698, 1700] h h' → AtR S h' m f y q w' → (p ≤ q ∧ q ≤ y.length) → v ≤ 9999 → ((w' = w ∧ q = numE y p ∧ q ≠ p ∧ v = numV (sl y p q)) ∨ (w' = true ∧ (numE y p = p ∨ dgAt y (numE y p)))) → Q (some (vI ((v : Nat) : Int))) h') : Cl G d 275 [vR (some m)] h Q := by
  show Wp G d 275 0 [some (vR (some m)), none, none] [] h Q
  have AT_0 := AT
  have AL_0 := AL
  have l3 : l.length ≤ 3600 := by have sl := sLT ok (f := 1681) (n := 3600) hm (by decide) rfl (by decide); have := AL.2.2.1; omega
  have hyl := hy.1
  refine w_aload_n d275_0 rfl ?_
  refine w_getI (x := ((f + p : Nat) : Int)) d275_1 (ok.kd hm) AT.1 ?_
  refine w_istore1 d275_4 rfl ?_
  refine w_iconst d275_5 (by decide) ?_
  refine w_istore2 d275_6 rfl ?_
  have L7 : ∀ (m7 : Nat) (g : Hp) (q : Nat), y.length - q = m7 → Fr S m [1698, 1700] h g → (p ≤ q ∧ q ≤ y.length ∧ q ≤ p + 4) → (AtR S g m f y q w) → (∀ j, p ≤ j → j < q → isDig (y.getD j 0) = true) → Wp G d 275 7 [some (vR (some m)), some (vI (f + p : Nat)), some (vI (numV (sl y p q) : Nat))] [] g Q := by
    intro m7
    induction m7 using Nat.strongRecOn with | ind m7 IH7 => ?_
    intro g q hm7 FRg iq AT ia
    have okg := FRg.ok
    have AL := AL_0.r FRg hm
    refine w_aload_n d275_7 rfl ?_
    refine w_callv1 d275_8 (by omega) rfl (okg.kd hm) (by simp) (Nat.le_of_ble_eq_true rfl) ?_
    refine k_M_hereInLine okg (by omega) hm AT AL hy iq.2.1 ?_
    refine w_bipush d275_11 (by decide) ?_
    refine w_bipush d275_13 (by decide) ?_
    refine w_calls3 d275_15 (by omega) rfl rfl (by simp) (Nat.le_of_ble_eq_true rfl) ?_
    refine k_M_in (by omega) ?_
    refine w_ifeq d275_18 (fun c18 => ?_) (fun c18 => ?_)
    · have ndg18 : ¬ dgAt y q := fun z => by rw [decide_eq_true (dig_at.mpr z)] at c18; exact absurd c18 (by decide)
      have e57 : q = p + 4 ∨ ¬ dgAt y q := Or.inr ndg18
      refine w_aload_n d275_57 rfl ?_
      have v9 : numV (sl y p q) ≤ 9999 := by
        have := numV_le (sl y p q) 4 (fun c hc => by
          obtain ⟨j, j1, j2, j3⟩ := sl_mem hc
          rw [← j3]
          exact ia j j1 j2) (by rw [sl_len ⟨iq.1, iq.2.1⟩]; omega)
        have : 10 ^ 4 - 1 = 9999 := by decide
        omega
      refine w_getI (x := ((f + q : Nat) : Int)) d275_58 (okg.kd hm) AT.1 ?_
      refine w_iload_n d275_61 rfl ?_
      refine w_icmpeq d275_62 (fun c62 => ?_) (fun c62 => ?_)
      · have qp : q = p := by omega
        have hb : numE y p = p ∨ dgAt y (numE y p) := Or.inl (num_no (by
          rcases e57 with z | z
          · omega
          · rwa [qp] at z))
        refine w_aload_n d275_100 rfl ?_
        refine w_iconst d275_101 (by decide) ?_
        have AT_p := AT
        refine wf1700 d275_102 okg hm (by omega) (fun h102 e102 m102 => ?_)
        have f102 : Fr S m [1700] _ _ := Fr.wF okg m102 (FK.pI e102)
        have ok102 := f102.ok
        have FR102 := Fr.tr (F := [1698, 1700]) FRg f102 (by decide) (by decide)
        have AL := AL.r f102 hm
        have AT : AtR S h102 m f y (q) true := ⟨(f102.i 1698).trans AT_p.1, (f102.i 1699).trans AT_p.2.1, by rw [e102, FI_sFI, if_pos ⟨rfl, rfl⟩]; rfl⟩
        refine w_iload_n d275_105 rfl ?_
        refine w_ireturn d275_106 ?_
        exact kk h102 q true (numV (sl y p q)) FR102 AT ⟨by omega, iq.2.1⟩ v9 (Or.inr ⟨rfl, hb⟩)
      · have hq0 : q ≠ p := by omega
        have hpl : p < y.length := by omega
        refine w_aload_n d275_65 rfl ?_
        refine w_dloadS d275_66 (okg.kd hm) (fr1681 okg hm) ?_
        refine w_iload_n d275_69 rfl ?_
        refine w_ialoadV (x := ((y.getD p 0 : Nat) : Int)) d275_70 (by have := AL.2.g okg (k := f + p) (by omega); rwa [show (((0 : Nat) : Int) + ((f + p : Nat) : Int)) = ((f + p : Nat) : Int) by omega] at this) ((AL.2.at0 (by omega)).trans (congrArg _ (hy.2 p hpl))) ?_
        refine w_bipush d275_71 (by decide) ?_
        refine w_icmpne d275_73 (fun c73 => ?_) (fun c73 => ?_)
        · refine w_aload_n d275_86 rfl ?_
          refine w_callv1 d275_87 (by omega) rfl (okg.kd hm) (by simp) (Nat.le_of_ble_eq_true rfl) ?_
          refine k_M_hereInLine okg (by omega) hm AT AL hy iq.2.1 ?_
          refine w_bipush d275_90 (by decide) ?_
          refine w_bipush d275_92 (by decide) ?_
          refine w_calls3 d275_94 (by omega) rfl rfl (by simp) (Nat.le_of_ble_eq_true rfl) ?_
          refine k_M_in (by omega) ?_
          refine w_ifeq d275_97 (fun c97 => ?_) (fun c97 => ?_)
          · have hz := e57
            have h00 : y.getD p 0 = 48 → q ≤ p + 1 := fun z => by omega
            have hg : numE y p = q := num_to ⟨iq.1, iq.2.1, iq.2.2⟩ ia (Or.inr (fun z => by rw [decide_eq_true (dig_at.mpr z)] at c97; exact absurd c97 (by decide))) h00
            refine w_iload_n d275_105 rfl ?_
            refine w_ireturn d275_106 ?_
            exact kk g q w (numV (sl y p q)) FRg AT ⟨by omega, iq.2.1⟩ v9 (Or.inl ⟨rfl, hg.symm, hq0, rfl⟩)
          · have hd := (dig_at.mp (by
              by_cases z : (48 ≤ atv y (q : Nat) ∧ atv y (q : Nat) ≤ 57)
              · exact z
              · rw [decide_eq_false z] at c97; exact absurd rfl c97))
            have h00 : y.getD p 0 = 48 → q ≤ p + 1 := fun z => by omega
            have hb : numE y p = p ∨ dgAt y (numE y p) := Or.inr (by
              have q4 : q = p + 4 := by
                rcases e57 with z | z
                · exact z
                · exact absurd hd z
              rw [num_to ⟨iq.1, iq.2.1, iq.2.2⟩ ia (Or.inl q4) h00]; exact hd)
            refine w_aload_n d275_100 rfl ?_
            refine w_iconst d275_101 (by decide) ?_
            have AT_p := AT
            refine wf1700 d275_102 okg hm (by omega) (fun h102 e102 m102 => ?_)
            have f102 : Fr S m [1700] _ _ := Fr.wF okg m102 (FK.pI e102)
            have ok102 := f102.ok
            have FR102 := Fr.tr (F := [1698, 1700]) FRg f102 (by decide) (by decide)
            have AL := AL.r f102 hm
            have AT : AtR S h102 m f y (q) true := ⟨(f102.i 1698).trans AT_p.1, (f102.i 1699).trans AT_p.2.1, by rw [e102, FI_sFI, if_pos ⟨rfl, rfl⟩]; rfl⟩
            refine w_iload_n d275_105 rfl ?_
            refine w_ireturn d275_106 ?_
            exact kk h102 q true (numV (sl y p q)) FR102 AT ⟨by omega, iq.2.1⟩ v9 (Or.inr ⟨rfl, hb⟩)
        · refine w_aload_n d275_76 rfl ?_
          refine w_getI (x := ((f + q : Nat) : Int)) d275_77 (okg.kd hm) AT.1 ?_
          refine w_iload_n d275_80 rfl ?_
          refine w_iconst d275_81 (by decide) ?_
          refine w_iadd d275_82 (by constructor <;> omega) ?_
          refine w_icmpgt d275_83 (fun c83 => ?_) (fun c83 => ?_)
          · have hb : numE y p = p ∨ dgAt y (numE y p) := Or.inr (by rw [num_01 hpl (by omega)]; exact ⟨by omega, ia _ (by omega) (by omega)⟩)
            refine w_aload_n d275_100 rfl ?_
            refine w_iconst d275_101 (by decide) ?_
            have AT_p := AT
            refine wf1700 d275_102 okg hm (by omega) (fun h102 e102 m102 => ?_)
            have f102 : Fr S m [1700] _ _ := Fr.wF okg m102 (FK.pI e102)
            have ok102 := f102.ok
            have FR102 := Fr.tr (F := [1698, 1700]) FRg f102 (by decide) (by decide)
            have AL := AL.r f102 hm
            have AT : AtR S h102 m f y (q) true := ⟨(f102.i 1698).trans AT_p.1, (f102.i 1699).trans AT_p.2.1, by rw [e102, FI_sFI, if_pos ⟨rfl, rfl⟩]; rfl⟩
            refine w_iload_n d275_105 rfl ?_
            refine w_ireturn d275_106 ?_
            exact kk h102 q true (numV (sl y p q)) FR102 AT ⟨by omega, iq.2.1⟩ v9 (Or.inr ⟨rfl, hb⟩)
          · refine w_aload_n d275_86 rfl ?_
            refine w_callv1 d275_87 (by omega) rfl (okg.kd hm) (by simp) (Nat.le_of_ble_eq_true rfl) ?_
            refine k_M_hereInLine okg (by omega) hm AT AL hy iq.2.1 ?_
            refine w_bipush d275_90 (by decide) ?_
            refine w_bipush d275_92 (by decide) ?_
            refine w_calls3 d275_94 (by omega) rfl rfl (by simp) (Nat.le_of_ble_eq_true rfl) ?_
            refine k_M_in (by omega) ?_
            refine w_ifeq d275_97 (fun c97 => ?_) (fun c97 => ?_)
            · have hz := e57
              have h00 : y.getD p 0 = 48 → q ≤ p + 1 := fun z => by omega
              have hg : numE y p = q := num_to ⟨iq.1, iq.2.1, iq.2.2⟩ ia (Or.inr (fun z => by rw [decide_eq_true (dig_at.mpr z)] at c97; exact absurd c97 (by decide))) h00
              refine w_iload_n d275_105 rfl ?_
              refine w_ireturn d275_106 ?_
              exact kk g q w (numV (sl y p q)) FRg AT ⟨by omega, iq.2.1⟩ v9 (Or.inl ⟨rfl, hg.symm, hq0, rfl⟩)
            · have hd := (dig_at.mp (by
                by_cases z : (48 ≤ atv y (q : Nat) ∧ atv y (q : Nat) ≤ 57)
                · exact z
                · rw [decide_eq_false z] at c97; exact absurd rfl c97))
              have h00 : y.getD p 0 = 48 → q ≤ p + 1 := fun z => by omega
              have hb : numE y p = p ∨ dgAt y (numE y p) := Or.inr (by
                have q4 : q = p + 4 := by
                  rcases e57 with z | z
                  · exact z
                  · exact absurd hd z
                rw [num_to ⟨iq.1, iq.2.1, iq.2.2⟩ ia (Or.inl q4) h00]; exact hd)
              refine w_aload_n d275_100 rfl ?_
              refine w_iconst d275_101 (by decide) ?_
              have AT_p := AT
              refine wf1700 d275_102 okg hm (by omega) (fun h102 e102 m102 => ?_)
              have f102 : Fr S m [1700] _ _ := Fr.wF okg m102 (FK.pI e102)
              have ok102 := f102.ok
              have FR102 := Fr.tr (F := [1698, 1700]) FRg f102 (by decide) (by decide)
              have AL := AL.r f102 hm
              have AT : AtR S h102 m f y (q) true := ⟨(f102.i 1698).trans AT_p.1, (f102.i 1699).trans AT_p.2.1, by rw [e102, FI_sFI, if_pos ⟨rfl, rfl⟩]; rfl⟩
              refine w_iload_n d275_105 rfl ?_
              refine w_ireturn d275_106 ?_
              exact kk h102 q true (numV (sl y p q)) FR102 AT ⟨by omega, iq.2.1⟩ v9 (Or.inr ⟨rfl, hb⟩)
    · have hq := (dig_at.mp (by
        by_cases z : (48 ≤ atv y (q : Nat) ∧ atv y (q : Nat) ≤ 57)
        · exact z
        · rw [decide_eq_false z] at c18; exact absurd rfl c18))
      refine w_aload_n d275_21 rfl ?_
      refine w_getI (x := ((f + q : Nat) : Int)) d275_22 (okg.kd hm) AT.1 ?_
      refine w_iload_n d275_25 rfl ?_
      refine w_iconst d275_26 (by decide) ?_
      refine w_iadd d275_27 (by constructor <;> omega) ?_
      refine w_icmpge d275_28 (fun c28 => ?_) (fun c28 => ?_)
      · have e57 : q = p + 4 ∨ ¬ dgAt y q := Or.inl (by omega)
        refine w_aload_n d275_57 rfl ?_
        have v9 : numV (sl y p q) ≤ 9999 := by
          have := numV_le (sl y p q) 4 (fun c hc => by
            obtain ⟨j, j1, j2, j3⟩ := sl_mem hc
            rw [← j3]
            exact ia j j1 j2) (by rw [sl_len ⟨iq.1, iq.2.1⟩]; omega)
          have : 10 ^ 4 - 1 = 9999 := by decide
          omega
        refine w_getI (x := ((f + q : Nat) : Int)) d275_58 (okg.kd hm) AT.1 ?_
        refine w_iload_n d275_61 rfl ?_
        refine w_icmpeq d275_62 (fun c62 => ?_) (fun c62 => ?_)
        · have qp : q = p := by omega
          have hb : numE y p = p ∨ dgAt y (numE y p) := Or.inl (num_no (by
            rcases e57 with z | z
            · omega
            · rwa [qp] at z))
          refine w_aload_n d275_100 rfl ?_
          refine w_iconst d275_101 (by decide) ?_
          have AT_p := AT
          refine wf1700 d275_102 okg hm (by omega) (fun h102 e102 m102 => ?_)
          have f102 : Fr S m [1700] _ _ := Fr.wF okg m102 (FK.pI e102)
          have ok102 := f102.ok
          have FR102 := Fr.tr (F := [1698, 1700]) FRg f102 (by decide) (by decide)
          have AL := AL.r f102 hm
          have AT : AtR S h102 m f y (q) true := ⟨(f102.i 1698).trans AT_p.1, (f102.i 1699).trans AT_p.2.1, by rw [e102, FI_sFI, if_pos ⟨rfl, rfl⟩]; rfl⟩
          refine w_iload_n d275_105 rfl ?_
          refine w_ireturn d275_106 ?_
          exact kk h102 q true (numV (sl y p q)) FR102 AT ⟨by omega, iq.2.1⟩ v9 (Or.inr ⟨rfl, hb⟩)
        · have hq0 : q ≠ p := by omega
          have hpl : p < y.length := by omega
          refine w_aload_n d275_65 rfl ?_
          refine w_dloadS d275_66 (okg.kd hm) (fr1681 okg hm) ?_
          refine w_iload_n d275_69 rfl ?_
          refine w_ialoadV (x := ((y.getD p 0 : Nat) : Int)) d275_70 (by have := AL.2.g okg (k := f + p) (by omega); rwa [show (((0 : Nat) : Int) + ((f + p : Nat) : Int)) = ((f + p : Nat) : Int) by omega] at this) ((AL.2.at0 (by omega)).trans (congrArg _ (hy.2 p hpl))) ?_
          refine w_bipush d275_71 (by decide) ?_
          refine w_icmpne d275_73 (fun c73 => ?_) (fun c73 => ?_)
          · refine w_aload_n d275_86 rfl ?_
            refine w_callv1 d275_87 (by omega) rfl (okg.kd hm) (by simp) (Nat.le_of_ble_eq_true rfl) ?_
            refine k_M_hereInLine okg (by omega) hm AT AL hy iq.2.1 ?_
            refine w_bipush d275_90 (by decide) ?_
            refine w_bipush d275_92 (by decide) ?_
            refine w_calls3 d275_94 (by omega) rfl rfl (by simp) (Nat.le_of_ble_eq_true rfl) ?_
            refine k_M_in (by omega) ?_
            refine w_ifeq d275_97 (fun c97 => ?_) (fun c97 => ?_)
            · have hz := e57
              have h00 : y.getD p 0 = 48 → q ≤ p + 1 := fun z => by omega
              have hg : numE y p = q := num_to ⟨iq.1, iq.2.1, iq.2.2⟩ ia (Or.inr (fun z => by rw [decide_eq_true (dig_at.mpr z)] at c97; exact absurd c97 (by decide))) h00
              refine w_iload_n d275_105 rfl ?_
              refine w_ireturn d275_106 ?_
              exact kk g q w (numV (sl y p q)) FRg AT ⟨by omega, iq.2.1⟩ v9 (Or.inl ⟨rfl, hg.symm, hq0, rfl⟩)
            · have hd := (dig_at.mp (by
                by_cases z : (48 ≤ atv y (q : Nat) ∧ atv y (q : Nat) ≤ 57)
                · exact z
                · rw [decide_eq_false z] at c97; exact absurd rfl c97))
              have h00 : y.getD p 0 = 48 → q ≤ p + 1 := fun z => by omega
              have hb : numE y p = p ∨ dgAt y (numE y p) := Or.inr (by
                have q4 : q = p + 4 := by
                  rcases e57 with z | z
                  · exact z
                  · exact absurd hd z
                rw [num_to ⟨iq.1, iq.2.1, iq.2.2⟩ ia (Or.inl q4) h00]; exact hd)
              refine w_aload_n d275_100 rfl ?_
              refine w_iconst d275_101 (by decide) ?_
              have AT_p := AT
              refine wf1700 d275_102 okg hm (by omega) (fun h102 e102 m102 => ?_)
              have f102 : Fr S m [1700] _ _ := Fr.wF okg m102 (FK.pI e102)
              have ok102 := f102.ok
              have FR102 := Fr.tr (F := [1698, 1700]) FRg f102 (by decide) (by decide)
              have AL := AL.r f102 hm
              have AT : AtR S h102 m f y (q) true := ⟨(f102.i 1698).trans AT_p.1, (f102.i 1699).trans AT_p.2.1, by rw [e102, FI_sFI, if_pos ⟨rfl, rfl⟩]; rfl⟩
              refine w_iload_n d275_105 rfl ?_
              refine w_ireturn d275_106 ?_
              exact kk h102 q true (numV (sl y p q)) FR102 AT ⟨by omega, iq.2.1⟩ v9 (Or.inr ⟨rfl, hb⟩)
          · refine w_aload_n d275_76 rfl ?_
            refine w_getI (x := ((f + q : Nat) : Int)) d275_77 (okg.kd hm) AT.1 ?_
            refine w_iload_n d275_80 rfl ?_
            refine w_iconst d275_81 (by decide) ?_
            refine w_iadd d275_82 (by constructor <;> omega) ?_
            refine w_icmpgt d275_83 (fun c83 => ?_) (fun c83 => ?_)
            · have hb : numE y p = p ∨ dgAt y (numE y p) := Or.inr (by rw [num_01 hpl (by omega)]; exact ⟨by omega, ia _ (by omega) (by omega)⟩)
              refine w_aload_n d275_100 rfl ?_
              refine w_iconst d275_101 (by decide) ?_
              have AT_p := AT
              refine wf1700 d275_102 okg hm (by omega) (fun h102 e102 m102 => ?_)
              have f102 : Fr S m [1700] _ _ := Fr.wF okg m102 (FK.pI e102)
              have ok102 := f102.ok
              have FR102 := Fr.tr (F := [1698, 1700]) FRg f102 (by decide) (by decide)
              have AL := AL.r f102 hm
              have AT : AtR S h102 m f y (q) true := ⟨(f102.i 1698).trans AT_p.1, (f102.i 1699).trans AT_p.2.1, by rw [e102, FI_sFI, if_pos ⟨rfl, rfl⟩]; rfl⟩
              refine w_iload_n d275_105 rfl ?_
              refine w_ireturn d275_106 ?_
              exact kk h102 q true (numV (sl y p q)) FR102 AT ⟨by omega, iq.2.1⟩ v9 (Or.inr ⟨rfl, hb⟩)
            · refine w_aload_n d275_86 rfl ?_
              refine w_callv1 d275_87 (by omega) rfl (okg.kd hm) (by simp) (Nat.le_of_ble_eq_true rfl) ?_
              refine k_M_hereInLine okg (by omega) hm AT AL hy iq.2.1 ?_
              refine w_bipush d275_90 (by decide) ?_
              refine w_bipush d275_92 (by decide) ?_
              refine w_calls3 d275_94 (by omega) rfl rfl (by simp) (Nat.le_of_ble_eq_true rfl) ?_
              refine k_M_in (by omega) ?_
              refine w_ifeq d275_97 (fun c97 => ?_) (fun c97 => ?_)
              · have hz := e57
                have h00 : y.getD p 0 = 48 → q ≤ p + 1 := fun z => by omega
                have hg : numE y p = q := num_to ⟨iq.1, iq.2.1, iq.2.2⟩ ia (Or.inr (fun z => by rw [decide_eq_true (dig_at.mpr z)] at c97; exact absurd c97 (by decide))) h00
                refine w_iload_n d275_105 rfl ?_
                refine w_ireturn d275_106 ?_
                exact kk g q w (numV (sl y p q)) FRg AT ⟨by omega, iq.2.1⟩ v9 (Or.inl ⟨rfl, hg.symm, hq0, rfl⟩)
              · have hd := (dig_at.mp (by
                  by_cases z : (48 ≤ atv y (q : Nat) ∧ atv y (q : Nat) ≤ 57)
                  · exact z
                  · rw [decide_eq_false z] at c97; exact absurd rfl c97))
                have h00 : y.getD p 0 = 48 → q ≤ p + 1 := fun z => by omega
                have hb : numE y p = p ∨ dgAt y (numE y p) := Or.inr (by
                  have q4 : q = p + 4 := by
                    rcases e57 with z | z
                    · exact z
                    · exact absurd hd z
                  rw [num_to ⟨iq.1, iq.2.1, iq.2.2⟩ ia (Or.inl q4) h00]; exact hd)
                refine w_aload_n d275_100 rfl ?_
                refine w_iconst d275_101 (by decide) ?_
                have AT_p := AT
                refine wf1700 d275_102 okg hm (by omega) (fun h102 e102 m102 => ?_)
                have f102 : Fr S m [1700] _ _ := Fr.wF okg m102 (FK.pI e102)
                have ok102 := f102.ok
                have FR102 := Fr.tr (F := [1698, 1700]) FRg f102 (by decide) (by decide)
                have AL := AL.r f102 hm
                have AT : AtR S h102 m f y (q) true := ⟨(f102.i 1698).trans AT_p.1, (f102.i 1699).trans AT_p.2.1, by rw [e102, FI_sFI, if_pos ⟨rfl, rfl⟩]; rfl⟩
                refine w_iload_n d275_105 rfl ?_
                refine w_ireturn d275_106 ?_
                exact kk h102 q true (numV (sl y p q)) FR102 AT ⟨by omega, iq.2.1⟩ v9 (Or.inr ⟨rfl, hb⟩)
      · have hd := isDig_t.mp hq.2
        have av : atv y (q : Nat) = ((y.getD q 0 : Nat) : Int) := by rw [atvI, if_pos hq.1]
        have v9b : numV (sl y p q) ≤ 999 := by
          have := numV_le (sl y p q) 3 (fun c hc => by
            obtain ⟨j, j1, j2, j3⟩ := sl_mem hc
            rw [← j3]
            exact ia j j1 j2) (by rw [sl_len ⟨iq.1, iq.2.1⟩]; omega)
          have : 10 ^ 3 - 1 = 999 := by decide
          omega
        refine w_bipush d275_31 (by decide) ?_
        refine w_iload_n d275_33 rfl ?_
        refine w_imul d275_34 (by constructor <;> omega) ?_
        refine w_aload_n d275_35 rfl ?_
        refine w_callv1 d275_36 (by omega) rfl (okg.kd hm) (by simp) (Nat.le_of_ble_eq_true rfl) ?_
        refine k_M_hereInLine okg (by omega) hm AT AL hy iq.2.1 ?_
        rw [av]
        refine w_iadd d275_39 (by constructor <;> omega) ?_
        refine w_bipush d275_40 (by decide) ?_
        refine w_isub d275_42 (by constructor <;> omega) ?_
        rw [show (10 : Int) * ((numV (sl y p q) : Nat) : Int) + ((y.getD q 0 : Nat) : Int) - 48 = ((numV (sl y p (q + 1)) : Nat) : Int) by rw [sl_snoc iq.1 hq.1, numV_snoc]; omega]
        refine w_istore2 d275_43 rfl ?_
        refine w_aload_n d275_44 rfl ?_
        refine w_dupR d275_45 ?_
        refine w_getI (x := ((f + q : Nat) : Int)) d275_46 (okg.kd hm) AT.1 ?_
        refine w_iconst d275_49 (by decide) ?_
        refine w_iadd d275_50 (by constructor <;> omega) ?_
        have AT_p := AT
        refine wf1698 d275_51 okg hm (by omega) (fun h51 e51 m51 => ?_)
        have f51 : Fr S m [1698] _ _ := Fr.wF okg m51 (FK.pI e51)
        have ok51 := f51.ok
        have FR51 := Fr.tr (F := [1698, 1700]) FRg f51 (by decide) (by decide)
        have AL := AL.r f51 hm
        have AT : AtR S h51 m f y (q + 1) w := ⟨by rw [e51, FI_sFI, if_pos ⟨rfl, rfl⟩]; omega, (f51.i 1699).trans AT_p.2.1, (f51.i 1700).trans AT_p.2.2⟩
        refine w_goto d275_54 ?_
        refine w_less ?_ (IH7 _ (by omega) h51 (q + 1) rfl FR51 (by omega) AT (fun j h1 h2 => by rcases Nat.lt_or_ge j q with z | z; exact ia j h1 z; rw [show j = q by omega]; exact hq.2))
        exact ⟨Or.inr rfl, Or.inr rfl, Or.inr rfl, trivial⟩
  rw [show (0 : Int) = ((numV (sl y p p) : Nat) : Int) by rw [sl_nil]; rfl]
  refine w_less ?_ (L7 _ h p rfl (Fr.refl ok) ⟨Nat.le_refl _, hp, by omega⟩ AT (fun j h1 h2 => by omega))
  exact ⟨Or.inr rfl, Or.inr rfl, Or.inr rfl, trivial⟩
