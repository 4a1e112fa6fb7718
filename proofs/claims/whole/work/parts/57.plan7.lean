/-! a plan: files -/
theorem p_AR {S : Shp} {G : Nat → Option Nat} {h : Hp} {d k pc pc' a f i n e : Nat} {j : Int} {ls : List (Option MV)} {st : List MV} {Q : Option MV → Hp → Prop} (hd : dc k pc = some (.aastore, pc')) (ok : Ok S h) (ha : sK S a = kFld f) (hk : es f = 2) (hke : fk f = e + 49 ∧ ek f = e ∧ 1 ≤ e ∧ e < 15) (hn : sL S (sT S f a) = n) (hi : i < n) (hj : 0 ≤ j ∧ j < (n : Int))
    (kk : ∀ h', h' = sAR h (sT S f a) j.toNat (some (sE S (sT S f a) i)) → Mo S (fun y => y = sT S f a) h h' → Wp G d k pc' ls st h' Q) : Wp G d k pc ls (vR (some (sE S (sT S f a) i)) :: vI j :: vR (some (sT S f a)) :: st) h Q := by
  have kT := (ok.so.2.2.1 f a (by omega) ha).1
  have kE := (ok.so.2.2.2.1 f a i (by omega) ha (by omega)).1
  have K1 := ok.kd kT (by omega)
  have K2 := ok.kd kE (by omega)
  refine w_aastore hd ⟨⟨by omega, by omega, by omega⟩, hj.1, ?_⟩ (kk _ rfl (Mo.pAR ok ha hk (by omega) (by omega)))
  rw [ok.ln (by omega) hn]
  exact hj.2
theorem sL387 {S : Shp} {h : Hp} {p : Nat} (ok : Ok S h) (hp : sK S p = 4) : sL S (sT S 387 p) = 16 := (ok.so.2.2.1 387 p (by decide) hp).2.1 (by decide)
def behJ (l : List (List Nat × List Nat)) (x y : Int64) (i : Nat) : Bool := decide (hd (fP l i) > x ∨ hd (fP l i) = x ∧ tl (fP l i) > y)
/-- where a path is put: behind those that are not behind it, from the end -/
def insP (l : List (List Nat × List Nat)) (x y : Int64) : Nat → Nat
  | 0 => 0
  | f + 1 => if behJ l x y f = true then insP l x y f else f + 1
theorem insP_le (l : List (List Nat × List Nat)) (x y : Int64) : ∀ f, insP l x y f ≤ f
  | 0 => Nat.le_refl _
  | f + 1 => by
    have := insP_le l x y f
    unfold insP
    split <;> omega
def insL {α : Type} (l : List α) (f : Nat) (v : α) : List α := l.take f ++ v :: l.drop f
theorem insL_len {α : Type} (l : List α) (f : Nat) (v : α) (hf : f ≤ l.length) : (insL l f v).length = l.length + 1 := by unfold insL; simp; omega
theorem getD_insL {α : Type} (l : List α) (f : Nat) (v z : α) (hf : f ≤ l.length) (i : Nat) : (insL l f v).getD i z = if i < f then l.getD i z else if i = f then v else l.getD (i - 1) z := by
  unfold insL
  rw [List.getD_eq_getElem?_getD, List.getD_eq_getElem?_getD, List.getD_eq_getElem?_getD]
  rcases Nat.lt_trichotomy i f with c | c | c
  · rw [if_pos c, List.getElem?_append_left (by simp; omega), List.getElem?_take, if_pos c]
  · subst c
    rw [if_neg (Nat.lt_irrefl _), if_pos rfl, List.getElem?_append_right (by simp; omega)]
    simp [Nat.min_eq_left hf]
  · rw [if_neg (by omega), if_neg (by omega), List.getElem?_append_right (by simp; omega)]
    simp only [List.length_take, Nat.min_eq_left hf]
    rw [show i - f = (i - f - 1) + 1 by omega, List.getElem?_cons_succ, List.getElem?_drop]
    congr 2
    omega
theorem getD_erase {α : Type} (l : List α) (f : Nat) (z : α) (i : Nat) : (l.eraseIdx f).getD i z = if i < f then l.getD i z else l.getD (i + 1) z := by
  rw [List.getD_eq_getElem?_getD, List.getD_eq_getElem?_getD, List.getD_eq_getElem?_getD, List.getElem?_eraseIdx]
  split <;> rfl
/-- files, but what file k holds -/
def FilH (S : Shp) (h : Hp) (p : Nat) (fl : List (List Nat × List Nat)) (k : Nat) : Prop := ∃ σ : Nat → Nat, (∀ i, i < 16 → σ i < 16 ∧ AR h (sT S 387 p) i = some (sE S (sT S 387 p) (σ i))) ∧ (∀ i j, i < 16 → j < 16 → σ i = σ j → i = j) ∧ FI h 384 p = fl.length ∧ fl.length ≤ 16 ∧
  ∀ i, i < fl.length → AL h (sT S 385 p) i = hd (fP fl i) ∧ AL h (sT S 386 p) i = tl (fP fl i) ∧ okP (fP fl i) ∧ (i ≠ k → rl h (sE S (sT S 387 p) (σ i)) = fB fl i ∧ (fB fl i).length ≤ 160)
def flPut (fl : List (List Nat × List Nat)) (n b : List Nat) : List (List Nat × List Nat) := if fix fl n < 0 then insL fl (insP fl (hd n) (tl n) fl.length) (n, b) else fl.set (fix fl n).toNat (n, b)
def flDrop (fl : List (List Nat × List Nat)) (n : List Nat) : List (List Nat × List Nat) := if fix fl n < 0 then fl else fl.eraseIdx (fix fl n).toNat
theorem lcmpG {x y : Int64} : 0 < (if x > y then (1 : Int) else if x = y then 0 else -1) ↔ x > y := by
  by_cases q : x > y
  · simp [q]
  · rw [if_neg q]
    constructor
    · intro z; split at z <;> omega
    · intro z; exact absurd z q
theorem d89_0 : dc 89 0 = some (.aload_n 0, 1) := by decide +kernel
theorem d89_1 : dc 89 1 = some (.dload 385, 4) := by decide +kernel
theorem d89_4 : dc 89 4 = some (.iload_n 1, 5) := by decide +kernel
theorem d89_5 : dc 89 5 = some (.laload, 6) := by decide +kernel
theorem d89_6 : dc 89 6 = some (.lload_n 2, 7) := by decide +kernel
theorem d89_7 : dc 89 7 = some (.lcmp, 8) := by decide +kernel
theorem d89_8 : dc 89 8 = some (.ifCond .gt ((34 : Nat) : Int), 11) := by decide +kernel
theorem d89_11 : dc 89 11 = some (.aload_n 0, 12) := by decide +kernel
theorem d89_12 : dc 89 12 = some (.dload 385, 15) := by decide +kernel
theorem d89_15 : dc 89 15 = some (.iload_n 1, 16) := by decide +kernel
theorem d89_16 : dc 89 16 = some (.laload, 17) := by decide +kernel
theorem d89_17 : dc 89 17 = some (.lload_n 2, 18) := by decide +kernel
theorem d89_18 : dc 89 18 = some (.lcmp, 19) := by decide +kernel
theorem d89_19 : dc 89 19 = some (.ifCond .ne ((38 : Nat) : Int), 22) := by decide +kernel
theorem d89_22 : dc 89 22 = some (.aload_n 0, 23) := by decide +kernel
theorem d89_23 : dc 89 23 = some (.dload 386, 26) := by decide +kernel
theorem d89_26 : dc 89 26 = some (.iload_n 1, 27) := by decide +kernel
theorem d89_27 : dc 89 27 = some (.laload, 28) := by decide +kernel
theorem d89_28 : dc 89 28 = some (.lload 4, 30) := by decide +kernel
theorem d89_30 : dc 89 30 = some (.lcmp, 31) := by decide +kernel
theorem d89_31 : dc 89 31 = some (.ifCond .le ((38 : Nat) : Int), 34) := by decide +kernel
theorem d89_34 : dc 89 34 = some (.iconst 1, 35) := by decide +kernel
theorem d89_35 : dc 89 35 = some (.goto ((39 : Nat) : Int), 38) := by decide +kernel
theorem d89_38 : dc 89 38 = some (.iconst 0, 39) := by decide +kernel
theorem d89_39 : dc 89 39 = some (.freturn, 40) := by decide +kernel
theorem k_Plan_isBehind {S : Shp} {G : Nat → Option Nat} {d : Nat} {h : Hp} {Q : Option MV → Hp → Prop} {p : Nat} {f : Nat} {x : Int64} {y : Int64}  (ok : Ok S h) (h1 : 0 ≤ d) (hp : sK S p = 4) {u v : Int64} (hf : f < 16) (hu : AL h (sT S 385 p) f = u) (hv : AL h (sT S 386 p) f = v)
    (kk : Q (some (vI (if u > x ∨ u = x ∧ v > y then 1 else 0))) h) : Cl G d 89 [vR (some p), vI (f : Nat), vJ x, vJ y] h Q := by
  show Wp G d 89 0 [some (vR (some p)), some (vI (f : Nat)), some (vJ x), none, some (vJ y), none] [] h Q
  refine w_aload_n d89_0 rfl ?_
  refine w_dloadS d89_1 (ok.kd hp) (fr385 ok hp) ?_
  refine w_iload_n d89_4 rfl ?_
  refine w_laloadV (x := u) d89_5 (gi385 ok hp (by omega)) hu ?_
  refine w_lload_n d89_6 rfl ?_
  refine w_lcmp d89_7 ?_
  refine w_ifgt d89_8 (fun c8 => ?_) (fun c8 => ?_)
  · have z1 := lcmpG.mp c8
    refine w_iconst d89_34 (by decide) ?_
    refine w_goto d89_35 ?_
    refine w_zreturn d89_39 (by decide) ?_
    refine qI ?_ kk
    first | (rw [if_pos (Or.inl z1)]; done) | (rw [if_pos (Or.inr ⟨z2, z3⟩)]; done) | (rw [if_neg (fun q => q.elim z1 (fun q => z2 q.1))]; done) | (rw [if_neg (fun q => q.elim z1 (fun q => z3 q.2))]; done)
  · have z1 : ¬ u > x := fun q => by have := lcmpG.mpr q; omega
    refine w_aload_n d89_11 rfl ?_
    refine w_dloadS d89_12 (ok.kd hp) (fr385 ok hp) ?_
    refine w_iload_n d89_15 rfl ?_
    refine w_laloadV (x := u) d89_16 (gi385 ok hp (by omega)) hu ?_
    refine w_lload_n d89_17 rfl ?_
    refine w_lcmp d89_18 ?_
    refine w_ifne d89_19 (fun c19 => ?_) (fun c19 => ?_)
    · have z2 : u ≠ x := fun q => c19 (lcmp0.mpr q)
      refine w_iconst d89_38 (by decide) ?_
      refine w_zreturn d89_39 (by decide) ?_
      refine qI ?_ kk
      first | (rw [if_pos (Or.inl z1)]; done) | (rw [if_pos (Or.inr ⟨z2, z3⟩)]; done) | (rw [if_neg (fun q => q.elim z1 (fun q => z2 q.1))]; done) | (rw [if_neg (fun q => q.elim z1 (fun q => z3 q.2))]; done)
    · have z2 := lcmp0.mp c19
      refine w_aload_n d89_22 rfl ?_
      refine w_dloadS d89_23 (ok.kd hp) (fr386 ok hp) ?_
      refine w_iload_n d89_26 rfl ?_
      refine w_laloadV (x := v) d89_27 (gi386 ok hp (by omega)) hv ?_
      refine w_lload d89_28 rfl ?_
      refine w_lcmp d89_30 ?_
      refine w_ifle d89_31 (fun c31 => ?_) (fun c31 => ?_)
      · have z3 : ¬ v > y := fun q => absurd (lcmpG.mpr q) (Int.not_lt.mpr c31)
        refine w_iconst d89_38 (by decide) ?_
        refine w_zreturn d89_39 (by decide) ?_
        refine qI ?_ kk
        first | (rw [if_pos (Or.inl z1)]; done) | (rw [if_pos (Or.inr ⟨z2, z3⟩)]; done) | (rw [if_neg (fun q => q.elim z1 (fun q => z2 q.1))]; done) | (rw [if_neg (fun q => q.elim z1 (fun q => z3 q.2))]; done)
      · have z3 : v > y := lcmpG.mp c31
        refine w_iconst d89_34 (by decide) ?_
        refine w_goto d89_35 ?_
        refine w_zreturn d89_39 (by decide) ?_
        refine qI ?_ kk
        first | (rw [if_pos (Or.inl z1)]; done) | (rw [if_pos (Or.inr ⟨z2, z3⟩)]; done) | (rw [if_neg (fun q => q.elim z1 (fun q => z2 q.1))]; done) | (rw [if_neg (fun q => q.elim z1 (fun q => z3 q.2))]; done)
theorem d88_0 : dc 88 0 = some (.aload_n 0, 1) := by decide +kernel
theorem d88_1 : dc 88 1 = some (.getfield 384, 4) := by decide +kernel
theorem d88_4 : dc 88 4 = some (.bipush 16, 6) := by decide +kernel
theorem d88_6 : dc 88 6 = some (.if_icmp .lt ((11 : Nat) : Int), 9) := by decide +kernel
theorem d88_11 : dc 88 11 = some (.aload_n 0, 12) := by decide +kernel
theorem d88_12 : dc 88 12 = some (.dload 387, 15) := by decide +kernel
theorem d88_15 : dc 88 15 = some (.aload_n 0, 16) := by decide +kernel
theorem d88_16 : dc 88 16 = some (.getfield 384, 19) := by decide +kernel
theorem d88_19 : dc 88 19 = some (.aaload, 20) := by decide +kernel
theorem d88_20 : dc 88 20 = some (.astore 5, 22) := by decide +kernel
theorem d88_22 : dc 88 22 = some (.aload_n 0, 23) := by decide +kernel
theorem d88_23 : dc 88 23 = some (.getfield 384, 26) := by decide +kernel
theorem d88_26 : dc 88 26 = some (.istore 6, 28) := by decide +kernel
theorem d88_28 : dc 88 28 = some (.iload 6, 30) := by decide +kernel
theorem d88_30 : dc 88 30 = some (.ifCond .le ((100 : Nat) : Int), 33) := by decide +kernel
theorem d88_33 : dc 88 33 = some (.aload_n 0, 34) := by decide +kernel
theorem d88_34 : dc 88 34 = some (.iload 6, 36) := by decide +kernel
theorem d88_36 : dc 88 36 = some (.iconst 1, 37) := by decide +kernel
theorem d88_37 : dc 88 37 = some (.isub, 38) := by decide +kernel
theorem d88_38 : dc 88 38 = some (.lload_n 1, 39) := by decide +kernel
theorem d88_39 : dc 88 39 = some (.lload_n 3, 40) := by decide +kernel
theorem d88_40 : dc 88 40 = some (.invokevirtual 89, 43) := by decide +kernel
theorem d88_43 : dc 88 43 = some (.ifCond .eq ((100 : Nat) : Int), 46) := by decide +kernel
theorem d88_46 : dc 88 46 = some (.aload_n 0, 47) := by decide +kernel
theorem d88_47 : dc 88 47 = some (.dload 385, 50) := by decide +kernel
theorem d88_50 : dc 88 50 = some (.iload 6, 52) := by decide +kernel
theorem d88_52 : dc 88 52 = some (.aload_n 0, 53) := by decide +kernel
theorem d88_53 : dc 88 53 = some (.dload 385, 56) := by decide +kernel
theorem d88_56 : dc 88 56 = some (.iload 6, 58) := by decide +kernel
theorem d88_58 : dc 88 58 = some (.iconst 1, 59) := by decide +kernel
theorem d88_59 : dc 88 59 = some (.isub, 60) := by decide +kernel
theorem d88_60 : dc 88 60 = some (.laload, 61) := by decide +kernel
theorem d88_61 : dc 88 61 = some (.lastore, 62) := by decide +kernel
theorem d88_62 : dc 88 62 = some (.aload_n 0, 63) := by decide +kernel
theorem d88_63 : dc 88 63 = some (.dload 386, 66) := by decide +kernel
theorem d88_66 : dc 88 66 = some (.iload 6, 68) := by decide +kernel
theorem d88_68 : dc 88 68 = some (.aload_n 0, 69) := by decide +kernel
theorem d88_69 : dc 88 69 = some (.dload 386, 72) := by decide +kernel
theorem d88_72 : dc 88 72 = some (.iload 6, 74) := by decide +kernel
theorem d88_74 : dc 88 74 = some (.iconst 1, 75) := by decide +kernel
theorem d88_75 : dc 88 75 = some (.isub, 76) := by decide +kernel
theorem d88_76 : dc 88 76 = some (.laload, 77) := by decide +kernel
theorem d88_77 : dc 88 77 = some (.lastore, 78) := by decide +kernel
theorem d88_78 : dc 88 78 = some (.aload_n 0, 79) := by decide +kernel
theorem d88_79 : dc 88 79 = some (.dload 387, 82) := by decide +kernel
theorem d88_82 : dc 88 82 = some (.iload 6, 84) := by decide +kernel
theorem d88_84 : dc 88 84 = some (.aload_n 0, 85) := by decide +kernel
theorem d88_85 : dc 88 85 = some (.dload 387, 88) := by decide +kernel
theorem d88_88 : dc 88 88 = some (.iload 6, 90) := by decide +kernel
theorem d88_90 : dc 88 90 = some (.iconst 1, 91) := by decide +kernel
theorem d88_91 : dc 88 91 = some (.isub, 92) := by decide +kernel
theorem d88_92 : dc 88 92 = some (.aaload, 93) := by decide +kernel
theorem d88_93 : dc 88 93 = some (.aastore, 94) := by decide +kernel
theorem d88_94 : dc 88 94 = some (.iinc 6 (-1), 97) := by decide +kernel
theorem d88_97 : dc 88 97 = some (.goto ((28 : Nat) : Int), 100) := by decide +kernel
theorem d88_100 : dc 88 100 = some (.aload_n 0, 101) := by decide +kernel
theorem d88_101 : dc 88 101 = some (.dload 385, 104) := by decide +kernel
theorem d88_104 : dc 88 104 = some (.iload 6, 106) := by decide +kernel
theorem d88_106 : dc 88 106 = some (.lload_n 1, 107) := by decide +kernel
theorem d88_107 : dc 88 107 = some (.lastore, 108) := by decide +kernel
theorem d88_108 : dc 88 108 = some (.aload_n 0, 109) := by decide +kernel
theorem d88_109 : dc 88 109 = some (.dload 386, 112) := by decide +kernel
theorem d88_112 : dc 88 112 = some (.iload 6, 114) := by decide +kernel
theorem d88_114 : dc 88 114 = some (.lload_n 3, 115) := by decide +kernel
theorem d88_115 : dc 88 115 = some (.lastore, 116) := by decide +kernel
theorem d88_116 : dc 88 116 = some (.aload_n 0, 117) := by decide +kernel
theorem d88_117 : dc 88 117 = some (.dload 387, 120) := by decide +kernel
theorem d88_120 : dc 88 120 = some (.iload 6, 122) := by decide +kernel
theorem d88_122 : dc 88 122 = some (.aload 5, 124) := by decide +kernel
theorem d88_124 : dc 88 124 = some (.aastore, 125) := by decide +kernel
theorem d88_125 : dc 88 125 = some (.aload_n 0, 126) := by decide +kernel
theorem d88_126 : dc 88 126 = some (.dup, 127) := by decide +kernel
theorem d88_127 : dc 88 127 = some (.getfield 384, 130) := by decide +kernel
theorem d88_130 : dc 88 130 = some (.iconst 1, 131) := by decide +kernel
theorem d88_131 : dc 88 131 = some (.iadd, 132) := by decide +kernel
theorem d88_132 : dc 88 132 = some (.putfield 384, 135) := by decide +kernel
theorem d88_135 : dc 88 135 = some (.iload 6, 137) := by decide +kernel
theorem d88_137 : dc 88 137 = some (.ireturn, 138) := by decide +kernel
theorem k_Plan_makePlace {S : Shp} {G : Nat → Option Nat} {d : Nat} {h : Hp} {Q : Option MV → Hp → Prop} {p : Nat} {x : Int64} {y : Int64}  (ok : Ok S h) (h1 : 1 ≤ d) (hp : sK S p = 4) {fl : List (List Nat × List Nat)} {n : List Nat} (fc : FilC S h p fl) (hn : okP n) (hx : x = hd n) (hy : y = tl n) (hr : fl.length < 16)
    (kk : ∀ h', Mo S (U S p) h h' → FilH S h' p (insL fl (insP fl x y fl.length) (n, [])) (insP fl x y fl.length) → (∀ gs, GsC S h p gs → GsC S h' p gs) → (∀ ts, TsC S h p ts → TsC S h' p ts) → Q (some (vI (insP fl x y fl.length : Nat))) h') : Cl G d 88 [vR (some p), vJ x, vJ y] h Q := by
  show Wp G d 88 0 [some (vR (some p)), some (vJ x), none, some (vJ y), none, none, none] [] h Q
  obtain ⟨σ, s1, s2, q1, q2, q3⟩ := fc
  have k5 := kT385 ok hp
  have k6 := kT386 ok hp
  have k7 := kT387 ok hp
  have ne : ∀ f g, f < 4096 → g < 4096 → f ≠ g → sT S f p ≠ sT S g p := fun f g hf hg hfg q => hfg ((ok.so.inj hf hg).mp q).1
  have n56 := ne 385 386 (by decide) (by decide) (by decide)
  have n57 := ne 385 387 (by decide) (by decide) (by decide)
  have n67 := ne 386 387 (by decide) (by decide) (by decide)
  refine w_aload_n d88_0 rfl ?_
  refine w_getI (x := (fl.length : Int)) d88_1 (ok.kd hp) q1 ?_
  refine w_bipush d88_4 (by decide) ?_
  refine w_icmplt d88_6 (fun c6 => ?_) (fun c6 => ?_)
  · refine w_aload_n d88_11 rfl ?_
    refine w_dloadS d88_12 (ok.kd hp) (fr387 ok hp) ?_
    refine w_aload_n d88_15 rfl ?_
    refine w_getI (x := (fl.length : Int)) d88_16 (ok.kd hp) q1 ?_
    refine w_aaloadSN d88_19 (gi387 ok hp (by omega)) (s1 fl.length hr).2 ?_
    refine w_astore5 d88_20 rfl ?_
    refine w_aload_n d88_22 rfl ?_
    refine w_getI (x := (fl.length : Int)) d88_23 (ok.kd hp) q1 ?_
    refine w_istore6 d88_26 rfl ?_
    have L28 : ∀ (m28 : Nat) (g : Hp) (f : Nat), f = m28 → Mo S (fun x => U S p x) h g → (f ≤ fl.length) → (insP fl x y fl.length = insP fl x y f) → (Mo S (fun z => z = sT S 385 p ∨ z = sT S 386 p ∨ z = sT S 387 p) h g) → (∀ j, j < 16 → AL g (sT S 385 p) j = AL h (sT S 385 p) (if f < j ∧ j ≤ fl.length then j - 1 else j) ∧ AL g (sT S 386 p) j = AL h (sT S 386 p) (if f < j ∧ j ≤ fl.length then j - 1 else j) ∧ AR g (sT S 387 p) j = AR h (sT S 387 p) (if f < j ∧ j ≤ fl.length then j - 1 else j)) → Wp G d 88 28 [some (vR (some p)), some (vJ x), none, some (vJ y), none, some (vR (some (sE S (sT S 387 p) (σ fl.length)))), some (vI (f : Nat))] [] g Q := by
      intro m28
      induction m28 using Nat.strongRecOn with | ind m28 IH28 => ?_
      intro g f hm28 Mg i1 i2 N i4
      have okg := Mg.ok
      have hsn := (s1 fl.length hr).1
      refine w_iload d88_28 rfl ?_
      refine w_ifle d88_30 (fun c30 => ?_) (fun c30 => ?_)
      · have f0 : f = 0 := by omega
        have zi : insP fl x y fl.length = f := by rw [i2, f0]; rfl
        refine w_aload_n d88_100 rfl ?_
        refine w_dloadS d88_101 (okg.kd hp) (fr385 okg hp) ?_
        refine w_iload d88_104 rfl ?_
        refine w_lload_n d88_106 rfl ?_
        refine wa385 d88_107 okg hp (by omega) (fun h107 e107 m107 => ?_)
        have e107 : h107 = sAL g (sT S 385 p) f x := e107
        have ok107 := m107.ok
        have M107 := Mo.tr ok Mg m107 (fun x e => (e ▸ (ok.so.uT (by decide) U_refl)))
        refine w_aload_n d88_108 rfl ?_
        refine w_dloadS d88_109 (ok107.kd hp) (fr386 ok107 hp) ?_
        refine w_iload d88_112 rfl ?_
        refine w_lload_n d88_114 rfl ?_
        refine wa386 d88_115 ok107 hp (by omega) (fun h115 e115 m115 => ?_)
        have e115 : h115 = sAL h107 (sT S 386 p) f y := e115
        have ok115 := m115.ok
        have M115 := Mo.tr ok M107 m115 (fun x e => (e ▸ (ok.so.uT (by decide) U_refl)))
        refine w_aload_n d88_116 rfl ?_
        refine w_dloadS d88_117 (ok115.kd hp) (fr387 ok115 hp) ?_
        refine w_iload d88_120 rfl ?_
        refine w_aload d88_122 rfl ?_
        refine p_AR (f := 387) (i := σ fl.length) (n := 16) (e := 6) d88_124 ok115 hp rfl (by decide) (sL387 ok hp) (by omega) (by omega) (fun h124 e124 m124 => ?_)
        have e124 : h124 = sAR h115 (sT S 387 p) f (some (sE S (sT S 387 p) (σ fl.length))) := e124
        have ok124 := m124.ok
        have M124 := Mo.tr ok M115 m124 (fun x e => (e ▸ (ok.so.uT (by decide) U_refl)))
        refine w_aload_n d88_125 rfl ?_
        refine w_dupR d88_126 ?_
        refine w_getI (x := (fl.length : Int)) d88_127 (ok124.kd hp) (by rw [e124, e115, e107]; exact (N.fi ok (by omega) (fun q => q.elim (fun q => ok.so.pT (by decide) q.symm) (fun q => q.elim (fun q => ok.so.pT (by decide) q.symm) (fun q => ok.so.pT (by decide) q.symm))) 384).trans q1) ?_
        refine w_iconst d88_130 (by decide) ?_
        refine w_iadd d88_131 (by constructor <;> omega) ?_
        refine wf384 d88_132 ok124 hp (by omega) (fun h132 e132 m132 => ?_)
        have ok132 := m132.ok
        have M132 := Mo.tr ok M124 m132 (fun x e => (e ▸ U_refl))
        refine w_iload d88_135 rfl ?_
        refine w_ireturn d88_137 ?_
        have N2 := ((N.tr ok m107 (fun x e => Or.inl e)).tr ok m115 (fun x e => Or.inr (Or.inl e))).tr ok m124 (fun x e => Or.inr (Or.inr e))
        have n3 : ∀ g, g < 4096 → g ≠ 385 → g ≠ 386 → g ≠ 387 → ¬ (sT S g p = sT S 385 p ∨ sT S g p = sT S 386 p ∨ sT S g p = sT S 387 p) := fun g hg a b c q => q.elim (ne g 385 hg (by decide) a) (fun q => q.elim (ne g 386 hg (by decide) b) (ne g 387 hg (by decide) c))
        have n0 : ¬ (p = sT S 385 p ∨ p = sT S 386 p ∨ p = sT S 387 p) := fun q => q.elim (fun q => ok.so.pT (by decide) q.symm) (fun q => q.elim (fun q => ok.so.pT (by decide) q.symm) (fun q => ok.so.pT (by decide) q.symm))
        have nE : ∀ i, i < 16 → ¬ (sE S (sT S 387 p) i = sT S 385 p ∨ sE S (sT S 387 p) i = sT S 386 p ∨ sE S (sT S 387 p) i = sT S 387 p) := fun i hi q => q.elim (fun q => ok.so.neE (by decide) (by omega) q.symm) (fun q => q.elim (fun q => ok.so.neE (by decide) (by omega) q.symm) (fun q => ok.so.neE (by decide) (by omega) q.symm))
        refine (by rw [zi] : (insP fl x y fl.length : Nat) = f) ▸ kk _ M132 ?_ (fun gs D => (D.fr ok N2 hp (Or.inl n0) (fun g hg => n3 g (by omega) (by omega) (by omega) (by omega))).fr ok124 m132 hp (Or.inr (by rw [e132]; rfl)) (fun f hf q => ok.so.pT (by omega) q)) (fun ts D => (D.fr ok N2 hp (Or.inl n0) (fun i y hi u q => by have := D.2.1; rcases q with q | q | q <;> subst q <;> exact (ok.so.defN (by omega) (by decide) (by decide)).2.1 u)).fr ok124 m132 hp (Or.inr (by rw [e132]; rfl)) (fun i y hi u q => by have := D.2.1; subst q; exact (ok.so.defN (f := 385) (by omega) (by decide) (by decide)).1 u))
        rw [zi]
        refine ⟨fun j => if j = f then σ fl.length else if f < j ∧ j ≤ fl.length then σ (j - 1) else σ j, fun j hj => ?_, fun i j hi hj e => ?_, ?_, by rw [insL_len _ _ _ i1]; omega, fun i hi => ?_⟩
        · have b := (i4 j hj).2.2
          rw [e132, e124, e115, e107]
          simp only [FI_sFI, FL_sFI, FR_sFI, AI_sFI, AL_sFI, AR_sFI, FI_sFL, FL_sFL, FR_sFL, AI_sFL, AL_sFL, AR_sFL, FI_sFR, FL_sFR, FR_sFR, AI_sFR, AL_sFR, AR_sFR, FI_sAI, FL_sAI, FR_sAI, AI_sAI, AL_sAI, AR_sAI, FI_sAL, FL_sAL, FR_sAL, AI_sAL, AL_sAL, AR_sAL, FI_sAR, FL_sAR, FR_sAR, AI_sAR, AL_sAR, AR_sAR, FI_cpI, FL_cpI, FR_cpI, AI_cpI, AL_cpI, AR_cpI, FI_cpL, FL_cpL, FR_cpL, AI_cpL, AL_cpL, AR_cpL]
          by_cases q : j = f
          · subst q; simp [(s1 fl.length hr).1]
          · simp only [q, and_false, if_false, b]
            by_cases q2 : f < j ∧ j ≤ fl.length
            · simp only [q, q2, and_self, if_true, if_false]; exact s1 (j - 1) (by omega)
            · simp only [q, q2, if_false]; exact s1 j hj
        · dsimp only at e
          have K : ∀ a b, a < 16 → b < 16 → a ≠ b → σ a ≠ σ b := fun a b ha hb hab q => hab (s2 a b ha hb q)
          have key : ∀ j, j < 16 → ∃ t, t < 16 ∧ (if j = f then σ fl.length else if f < j ∧ j ≤ fl.length then σ (j - 1) else σ j) = σ t ∧ t = (if j = f then fl.length else if f < j ∧ j ≤ fl.length then j - 1 else j) := fun j hj => by
            by_cases q : j = f
            · exact ⟨fl.length, hr, by rw [if_pos q], by rw [if_pos q]⟩
            · by_cases q2 : f < j ∧ j ≤ fl.length
              · exact ⟨j - 1, by omega, by rw [if_neg q, if_pos q2], by rw [if_neg q, if_pos q2]⟩
              · exact ⟨j, hj, by rw [if_neg q, if_neg q2], by rw [if_neg q, if_neg q2]⟩
          obtain ⟨t, t1, t2, t3⟩ := key i hi
          obtain ⟨u, u1, u2, u3⟩ := key j hj
          rw [t2, u2] at e
          have := s2 t u t1 u1 e
          grind
        · rw [e132, FI_sFI, if_pos ⟨rfl, rfl⟩, insL_len _ _ _ i1]; rfl
        · rw [insL_len _ _ _ i1] at hi
          have b := i4 i (by omega)
          have eP : fP (insL fl f (n, [])) i = if i < f then fP fl i else if i = f then n else fP fl (i - 1) := by unfold fP; rw [getD_insL _ _ _ _ i1]; split; rfl; split <;> rfl
          have eB : fB (insL fl f (n, [])) i = if i < f then fB fl i else if i = f then [] else fB fl (i - 1) := by unfold fB; rw [getD_insL _ _ _ _ i1]; split; rfl; split <;> rfl
          rw [eP, eB]
          have c1 : AL h132 (sT S 385 p) i = if i = f then x else AL g (sT S 385 p) i := by rw [e132, e124, e115, e107]; simp only [FI_sFI, FL_sFI, FR_sFI, AI_sFI, AL_sFI, AR_sFI, FI_sFL, FL_sFL, FR_sFL, AI_sFL, AL_sFL, AR_sFL, FI_sFR, FL_sFR, FR_sFR, AI_sFR, AL_sFR, AR_sFR, FI_sAI, FL_sAI, FR_sAI, AI_sAI, AL_sAI, AR_sAI, FI_sAL, FL_sAL, FR_sAL, AI_sAL, AL_sAL, AR_sAL, FI_sAR, FL_sAR, FR_sAR, AI_sAR, AL_sAR, AR_sAR, FI_cpI, FL_cpI, FR_cpI, AI_cpI, AL_cpI, AR_cpI, FI_cpL, FL_cpL, FR_cpL, AI_cpL, AL_cpL, AR_cpL]; simp [n56]
          have c2 : AL h132 (sT S 386 p) i = if i = f then y else AL g (sT S 386 p) i := by rw [e132, e124, e115, e107]; simp only [FI_sFI, FL_sFI, FR_sFI, AI_sFI, AL_sFI, AR_sFI, FI_sFL, FL_sFL, FR_sFL, AI_sFL, AL_sFL, AR_sFL, FI_sFR, FL_sFR, FR_sFR, AI_sFR, AL_sFR, AR_sFR, FI_sAI, FL_sAI, FR_sAI, AI_sAI, AL_sAI, AR_sAI, FI_sAL, FL_sAL, FR_sAL, AI_sAL, AL_sAL, AR_sAL, FI_sAR, FL_sAR, FR_sAR, AI_sAR, AL_sAR, AR_sAR, FI_cpI, FL_cpI, FR_cpI, AI_cpI, AL_cpI, AR_cpI, FI_cpL, FL_cpL, FR_cpL, AI_cpL, AL_cpL, AR_cpL]; simp [n56.symm]
          have c3 : ∀ r, r < 16 → rl h132 (sE S (sT S 387 p) r) = rl h (sE S (sT S 387 p) r) := fun r hr2 => by rw [m132.rb ok124 (kE387 ok hp hr2) (fun q => ok.so.pE (by decide) (by omega) q), N2.rb ok (kE387 ok hp hr2) (nE r hr2)]
          by_cases q : i = f
          · subst q
            rw [if_neg (Nat.lt_irrefl _), if_pos rfl, c1, c2, if_pos rfl, if_pos rfl]
            exact ⟨hx, hy, hn, fun q => absurd rfl q⟩
          · rw [c1, c2, if_neg q, if_neg q, b.1, b.2.1]
            by_cases q2 : i < f
            · have q3n : ¬ (f < i ∧ i ≤ fl.length) := by omega
              simp only [q, q3n, q2, if_true, if_false]
              obtain ⟨b1, b2, b3, b4, b5⟩ := q3 i (by omega)
              refine ⟨b1, b2, b4, fun _ => ⟨?_, b5⟩⟩
              rw [c3 _ (s1 i (by omega)).1]; exact b3
            · have q3n : f < i ∧ i ≤ fl.length := by omega
              simp only [q, q3n, q2, and_self, if_true, if_false]
              obtain ⟨b1, b2, b3, b4, b5⟩ := q3 (i - 1) (by omega)
              refine ⟨b1, b2, b4, fun _ => ⟨?_, b5⟩⟩
              rw [c3 _ (s1 (i - 1) (by omega)).1]; exact b3
      · have i4f := i4 (f - 1) (by omega)
        rw [if_neg (show ¬ (f < f - 1 ∧ f - 1 ≤ fl.length) by omega)] at i4f
        obtain ⟨b1, b2, b3, b4, b5⟩ := q3 (f - 1) (by omega)
        refine w_aload_n d88_33 rfl ?_
        refine w_iload d88_34 rfl ?_
        refine w_iconst d88_36 (by decide) ?_
        refine w_isub d88_37 (by constructor <;> omega) ?_
        rw [show (((f : Nat) : Int) - 1) = ((f - 1 : Nat) : Int) by omega]
        refine w_lload_n d88_38 rfl ?_
        refine w_lload_n d88_39 rfl ?_
        refine w_callv4 d88_40 (by omega) rfl (okg.kd hp) (by simp) (Nat.le_of_ble_eq_true rfl) ?_
        refine k_Plan_isBehind okg (by omega) hp (by omega) (i4f.1.trans b1) (i4f.2.1.trans b2) ?_
        refine w_ifeq d88_43 (fun c43 => ?_) (fun c43 => ?_)
        · have zb : behJ fl x y (f - 1) = false := by
            unfold behJ
            refine decide_eq_false (fun q => ?_)
            rw [if_pos q] at c43
            exact absurd c43 (by decide)
          have zi : insP fl x y fl.length = f := by rw [i2, show f = (f - 1) + 1 by omega, insP, if_neg (by rw [zb]; decide)]
          refine w_aload_n d88_100 rfl ?_
          refine w_dloadS d88_101 (okg.kd hp) (fr385 okg hp) ?_
          refine w_iload d88_104 rfl ?_
          refine w_lload_n d88_106 rfl ?_
          refine wa385 d88_107 okg hp (by omega) (fun h107 e107 m107 => ?_)
          have e107 : h107 = sAL g (sT S 385 p) f x := e107
          have ok107 := m107.ok
          have M107 := Mo.tr ok Mg m107 (fun x e => (e ▸ (ok.so.uT (by decide) U_refl)))
          refine w_aload_n d88_108 rfl ?_
          refine w_dloadS d88_109 (ok107.kd hp) (fr386 ok107 hp) ?_
          refine w_iload d88_112 rfl ?_
          refine w_lload_n d88_114 rfl ?_
          refine wa386 d88_115 ok107 hp (by omega) (fun h115 e115 m115 => ?_)
          have e115 : h115 = sAL h107 (sT S 386 p) f y := e115
          have ok115 := m115.ok
          have M115 := Mo.tr ok M107 m115 (fun x e => (e ▸ (ok.so.uT (by decide) U_refl)))
          refine w_aload_n d88_116 rfl ?_
          refine w_dloadS d88_117 (ok115.kd hp) (fr387 ok115 hp) ?_
          refine w_iload d88_120 rfl ?_
          refine w_aload d88_122 rfl ?_
          refine p_AR (f := 387) (i := σ fl.length) (n := 16) (e := 6) d88_124 ok115 hp rfl (by decide) (sL387 ok hp) (by omega) (by omega) (fun h124 e124 m124 => ?_)
          have e124 : h124 = sAR h115 (sT S 387 p) f (some (sE S (sT S 387 p) (σ fl.length))) := e124
          have ok124 := m124.ok
          have M124 := Mo.tr ok M115 m124 (fun x e => (e ▸ (ok.so.uT (by decide) U_refl)))
          refine w_aload_n d88_125 rfl ?_
          refine w_dupR d88_126 ?_
          refine w_getI (x := (fl.length : Int)) d88_127 (ok124.kd hp) (by rw [e124, e115, e107]; exact (N.fi ok (by omega) (fun q => q.elim (fun q => ok.so.pT (by decide) q.symm) (fun q => q.elim (fun q => ok.so.pT (by decide) q.symm) (fun q => ok.so.pT (by decide) q.symm))) 384).trans q1) ?_
          refine w_iconst d88_130 (by decide) ?_
          refine w_iadd d88_131 (by constructor <;> omega) ?_
          refine wf384 d88_132 ok124 hp (by omega) (fun h132 e132 m132 => ?_)
          have ok132 := m132.ok
          have M132 := Mo.tr ok M124 m132 (fun x e => (e ▸ U_refl))
          refine w_iload d88_135 rfl ?_
          refine w_ireturn d88_137 ?_
          have N2 := ((N.tr ok m107 (fun x e => Or.inl e)).tr ok m115 (fun x e => Or.inr (Or.inl e))).tr ok m124 (fun x e => Or.inr (Or.inr e))
          have n3 : ∀ g, g < 4096 → g ≠ 385 → g ≠ 386 → g ≠ 387 → ¬ (sT S g p = sT S 385 p ∨ sT S g p = sT S 386 p ∨ sT S g p = sT S 387 p) := fun g hg a b c q => q.elim (ne g 385 hg (by decide) a) (fun q => q.elim (ne g 386 hg (by decide) b) (ne g 387 hg (by decide) c))
          have n0 : ¬ (p = sT S 385 p ∨ p = sT S 386 p ∨ p = sT S 387 p) := fun q => q.elim (fun q => ok.so.pT (by decide) q.symm) (fun q => q.elim (fun q => ok.so.pT (by decide) q.symm) (fun q => ok.so.pT (by decide) q.symm))
          have nE : ∀ i, i < 16 → ¬ (sE S (sT S 387 p) i = sT S 385 p ∨ sE S (sT S 387 p) i = sT S 386 p ∨ sE S (sT S 387 p) i = sT S 387 p) := fun i hi q => q.elim (fun q => ok.so.neE (by decide) (by omega) q.symm) (fun q => q.elim (fun q => ok.so.neE (by decide) (by omega) q.symm) (fun q => ok.so.neE (by decide) (by omega) q.symm))
          refine (by rw [zi] : (insP fl x y fl.length : Nat) = f) ▸ kk _ M132 ?_ (fun gs D => (D.fr ok N2 hp (Or.inl n0) (fun g hg => n3 g (by omega) (by omega) (by omega) (by omega))).fr ok124 m132 hp (Or.inr (by rw [e132]; rfl)) (fun f hf q => ok.so.pT (by omega) q)) (fun ts D => (D.fr ok N2 hp (Or.inl n0) (fun i y hi u q => by have := D.2.1; rcases q with q | q | q <;> subst q <;> exact (ok.so.defN (by omega) (by decide) (by decide)).2.1 u)).fr ok124 m132 hp (Or.inr (by rw [e132]; rfl)) (fun i y hi u q => by have := D.2.1; subst q; exact (ok.so.defN (f := 385) (by omega) (by decide) (by decide)).1 u))
          rw [zi]
          refine ⟨fun j => if j = f then σ fl.length else if f < j ∧ j ≤ fl.length then σ (j - 1) else σ j, fun j hj => ?_, fun i j hi hj e => ?_, ?_, by rw [insL_len _ _ _ i1]; omega, fun i hi => ?_⟩
          · have b := (i4 j hj).2.2
            rw [e132, e124, e115, e107]
            simp only [FI_sFI, FL_sFI, FR_sFI, AI_sFI, AL_sFI, AR_sFI, FI_sFL, FL_sFL, FR_sFL, AI_sFL, AL_sFL, AR_sFL, FI_sFR, FL_sFR, FR_sFR, AI_sFR, AL_sFR, AR_sFR, FI_sAI, FL_sAI, FR_sAI, AI_sAI, AL_sAI, AR_sAI, FI_sAL, FL_sAL, FR_sAL, AI_sAL, AL_sAL, AR_sAL, FI_sAR, FL_sAR, FR_sAR, AI_sAR, AL_sAR, AR_sAR, FI_cpI, FL_cpI, FR_cpI, AI_cpI, AL_cpI, AR_cpI, FI_cpL, FL_cpL, FR_cpL, AI_cpL, AL_cpL, AR_cpL]
            by_cases q : j = f
            · subst q; simp [(s1 fl.length hr).1]
            · simp only [q, and_false, if_false, b]
              by_cases q2 : f < j ∧ j ≤ fl.length
              · simp only [q, q2, and_self, if_true, if_false]; exact s1 (j - 1) (by omega)
              · simp only [q, q2, if_false]; exact s1 j hj
          · dsimp only at e
            have K : ∀ a b, a < 16 → b < 16 → a ≠ b → σ a ≠ σ b := fun a b ha hb hab q => hab (s2 a b ha hb q)
            have key : ∀ j, j < 16 → ∃ t, t < 16 ∧ (if j = f then σ fl.length else if f < j ∧ j ≤ fl.length then σ (j - 1) else σ j) = σ t ∧ t = (if j = f then fl.length else if f < j ∧ j ≤ fl.length then j - 1 else j) := fun j hj => by
              by_cases q : j = f
              · exact ⟨fl.length, hr, by rw [if_pos q], by rw [if_pos q]⟩
              · by_cases q2 : f < j ∧ j ≤ fl.length
                · exact ⟨j - 1, by omega, by rw [if_neg q, if_pos q2], by rw [if_neg q, if_pos q2]⟩
                · exact ⟨j, hj, by rw [if_neg q, if_neg q2], by rw [if_neg q, if_neg q2]⟩
            obtain ⟨t, t1, t2, t3⟩ := key i hi
            obtain ⟨u, u1, u2, u3⟩ := key j hj
            rw [t2, u2] at e
            have := s2 t u t1 u1 e
            grind
          · rw [e132, FI_sFI, if_pos ⟨rfl, rfl⟩, insL_len _ _ _ i1]; rfl
          · rw [insL_len _ _ _ i1] at hi
            have b := i4 i (by omega)
            have eP : fP (insL fl f (n, [])) i = if i < f then fP fl i else if i = f then n else fP fl (i - 1) := by unfold fP; rw [getD_insL _ _ _ _ i1]; split; rfl; split <;> rfl
            have eB : fB (insL fl f (n, [])) i = if i < f then fB fl i else if i = f then [] else fB fl (i - 1) := by unfold fB; rw [getD_insL _ _ _ _ i1]; split; rfl; split <;> rfl
            rw [eP, eB]
            have c1 : AL h132 (sT S 385 p) i = if i = f then x else AL g (sT S 385 p) i := by rw [e132, e124, e115, e107]; simp only [FI_sFI, FL_sFI, FR_sFI, AI_sFI, AL_sFI, AR_sFI, FI_sFL, FL_sFL, FR_sFL, AI_sFL, AL_sFL, AR_sFL, FI_sFR, FL_sFR, FR_sFR, AI_sFR, AL_sFR, AR_sFR, FI_sAI, FL_sAI, FR_sAI, AI_sAI, AL_sAI, AR_sAI, FI_sAL, FL_sAL, FR_sAL, AI_sAL, AL_sAL, AR_sAL, FI_sAR, FL_sAR, FR_sAR, AI_sAR, AL_sAR, AR_sAR, FI_cpI, FL_cpI, FR_cpI, AI_cpI, AL_cpI, AR_cpI, FI_cpL, FL_cpL, FR_cpL, AI_cpL, AL_cpL, AR_cpL]; simp [n56]
            have c2 : AL h132 (sT S 386 p) i = if i = f then y else AL g (sT S 386 p) i := by rw [e132, e124, e115, e107]; simp only [FI_sFI, FL_sFI, FR_sFI, AI_sFI, AL_sFI, AR_sFI, FI_sFL, FL_sFL, FR_sFL, AI_sFL, AL_sFL, AR_sFL, FI_sFR, FL_sFR, FR_sFR, AI_sFR, AL_sFR, AR_sFR, FI_sAI, FL_sAI, FR_sAI, AI_sAI, AL_sAI, AR_sAI, FI_sAL, FL_sAL, FR_sAL, AI_sAL, AL_sAL, AR_sAL, FI_sAR, FL_sAR, FR_sAR, AI_sAR, AL_sAR, AR_sAR, FI_cpI, FL_cpI, FR_cpI, AI_cpI, AL_cpI, AR_cpI, FI_cpL, FL_cpL, FR_cpL, AI_cpL, AL_cpL, AR_cpL]; simp [n56.symm]
            have c3 : ∀ r, r < 16 → rl h132 (sE S (sT S 387 p) r) = rl h (sE S (sT S 387 p) r) := fun r hr2 => by rw [m132.rb ok124 (kE387 ok hp hr2) (fun q => ok.so.pE (by decide) (by omega) q), N2.rb ok (kE387 ok hp hr2) (nE r hr2)]
            by_cases q : i = f
            · subst q
              rw [if_neg (Nat.lt_irrefl _), if_pos rfl, c1, c2, if_pos rfl, if_pos rfl]
              exact ⟨hx, hy, hn, fun q => absurd rfl q⟩
            · rw [c1, c2, if_neg q, if_neg q, b.1, b.2.1]
              by_cases q2 : i < f
              · have q3n : ¬ (f < i ∧ i ≤ fl.length) := by omega
                simp only [q, q3n, q2, if_true, if_false]
                obtain ⟨b1, b2, b3, b4, b5⟩ := q3 i (by omega)
                refine ⟨b1, b2, b4, fun _ => ⟨?_, b5⟩⟩
                rw [c3 _ (s1 i (by omega)).1]; exact b3
              · have q3n : f < i ∧ i ≤ fl.length := by omega
                simp only [q, q3n, q2, and_self, if_true, if_false]
                obtain ⟨b1, b2, b3, b4, b5⟩ := q3 (i - 1) (by omega)
                refine ⟨b1, b2, b4, fun _ => ⟨?_, b5⟩⟩
                rw [c3 _ (s1 (i - 1) (by omega)).1]; exact b3
        · have zb : behJ fl x y (f - 1) = true := by
            unfold behJ
            refine decide_eq_true ?_
            by_cases q : hd (fP fl (f - 1)) > x ∨ hd (fP fl (f - 1)) = x ∧ tl (fP fl (f - 1)) > y
            · exact q
            · rw [if_neg q] at c43; exact absurd rfl c43
          have zi : insP fl x y f = insP fl x y (f - 1) := by rw [show f = (f - 1) + 1 by omega, insP, if_pos zb]; rfl
          have fpos : 0 < f := by omega
          refine w_aload_n d88_46 rfl ?_
          refine w_dloadS d88_47 (okg.kd hp) (fr385 okg hp) ?_
          refine w_iload d88_50 rfl ?_
          refine w_aload_n d88_52 rfl ?_
          refine w_dloadS d88_53 (okg.kd hp) (fr385 okg hp) ?_
          refine w_iload d88_56 rfl ?_
          refine w_iconst d88_58 (by decide) ?_
          refine w_isub d88_59 (by constructor <;> omega) ?_
          rw [show (((f : Nat) : Int) - 1) = ((f - 1 : Nat) : Int) by omega]
          refine w_laloadV (x := (AL h (sT S 385 p) (f - 1))) d88_60 (gi385 okg hp (by omega)) i4f.1 ?_
          refine wa385 d88_61 okg hp (by omega) (fun h61 e61 m61 => ?_)
          have e61 : h61 = sAL g (sT S 385 p) f (AL h (sT S 385 p) (f - 1)) := e61
          have ok61 := m61.ok
          have M61 := Mo.tr ok Mg m61 (fun x e => (e ▸ (ok.so.uT (by decide) U_refl)))
          refine w_aload_n d88_62 rfl ?_
          refine w_dloadS d88_63 (ok61.kd hp) (fr386 ok61 hp) ?_
          refine w_iload d88_66 rfl ?_
          refine w_aload_n d88_68 rfl ?_
          refine w_dloadS d88_69 (ok61.kd hp) (fr386 ok61 hp) ?_
          refine w_iload d88_72 rfl ?_
          refine w_iconst d88_74 (by decide) ?_
          refine w_isub d88_75 (by constructor <;> omega) ?_
          rw [show (((f : Nat) : Int) - 1) = ((f - 1 : Nat) : Int) by omega]
          refine w_laloadV (x := (AL h (sT S 386 p) (f - 1))) d88_76 (gi386 ok61 hp (by omega)) (by simp [e61, FI_sFI, FL_sFI, FR_sFI, AI_sFI, AL_sFI, AR_sFI, FI_sFL, FL_sFL, FR_sFL, AI_sFL, AL_sFL, AR_sFL, FI_sFR, FL_sFR, FR_sFR, AI_sFR, AL_sFR, AR_sFR, FI_sAI, FL_sAI, FR_sAI, AI_sAI, AL_sAI, AR_sAI, FI_sAL, FL_sAL, FR_sAL, AI_sAL, AL_sAL, AR_sAL, FI_sAR, FL_sAR, FR_sAR, AI_sAR, AL_sAR, AR_sAR, FI_cpI, FL_cpI, FR_cpI, AI_cpI, AL_cpI, AR_cpI, FI_cpL, FL_cpL, FR_cpL, AI_cpL, AL_cpL, AR_cpL, n56, n56.symm]; exact i4f.2.1) ?_
          refine wa386 d88_77 ok61 hp (by omega) (fun h77 e77 m77 => ?_)
          have e77 : h77 = sAL h61 (sT S 386 p) f (AL h (sT S 386 p) (f - 1)) := e77
          have ok77 := m77.ok
          have M77 := Mo.tr ok M61 m77 (fun x e => (e ▸ (ok.so.uT (by decide) U_refl)))
          refine w_aload_n d88_78 rfl ?_
          refine w_dloadS d88_79 (ok77.kd hp) (fr387 ok77 hp) ?_
          refine w_iload d88_82 rfl ?_
          refine w_aload_n d88_84 rfl ?_
          refine w_dloadS d88_85 (ok77.kd hp) (fr387 ok77 hp) ?_
          refine w_iload d88_88 rfl ?_
          refine w_iconst d88_90 (by decide) ?_
          refine w_isub d88_91 (by constructor <;> omega) ?_
          rw [show (((f : Nat) : Int) - 1) = ((f - 1 : Nat) : Int) by omega]
          refine w_aaloadS d88_92 (gi387 ok77 hp (by omega)) (by rw [e77, e61]; exact i4f.2.2.trans (s1 (f - 1) (by omega)).2) ?_
          have sf1 := (s1 (f - 1) (by omega)).1
          refine p_AR (f := 387) (i := σ (f - 1)) (n := 16) (e := 6) d88_93 ok77 hp rfl (by decide) (sL387 ok hp) (by omega) (by omega) (fun h93 e93 m93 => ?_)
          have e93 : h93 = sAR h77 (sT S 387 p) f (some (sE S (sT S 387 p) (σ (f - 1)))) := e93
          have ok93 := m93.ok
          have M93 := Mo.tr ok M77 m93 (fun x e => (e ▸ (ok.so.uT (by decide) U_refl)))
          refine w_iinc6 d88_94 rfl (by constructor <;> omega) ?_
          refine w_goto d88_97 ?_
          refine w_less ?_ (IH28 _ (by omega) h93 (f - 1) rfl M93 (by omega) (i2.trans zi) (((N.tr ok m61 (fun x e => Or.inl e)).tr ok m77 (fun x e => Or.inr (Or.inl e))).tr ok m93 (fun x e => Or.inr (Or.inr e))) (fun j hj => by
        have b := i4 j hj
        rw [e93, e77, e61]
        simp only [FI_sFI, FL_sFI, FR_sFI, AI_sFI, AL_sFI, AR_sFI, FI_sFL, FL_sFL, FR_sFL, AI_sFL, AL_sFL, AR_sFL, FI_sFR, FL_sFR, FR_sFR, AI_sFR, AL_sFR, AR_sFR, FI_sAI, FL_sAI, FR_sAI, AI_sAI, AL_sAI, AR_sAI, FI_sAL, FL_sAL, FR_sAL, AI_sAL, AL_sAL, AR_sAL, FI_sAR, FL_sAR, FR_sAR, AI_sAR, AL_sAR, AR_sAR, FI_cpI, FL_cpI, FR_cpI, AI_cpI, AL_cpI, AR_cpI, FI_cpL, FL_cpL, FR_cpL, AI_cpL, AL_cpL, AR_cpL]
        by_cases q : j = f
        · subst q
          simp [n56, n56.symm, show j - 1 < j ∧ j ≤ fl.length by omega, s1 (j - 1) (by omega)]
        · have e1 : (if f - 1 < j ∧ j ≤ fl.length then j - 1 else j) = (if f < j ∧ j ≤ fl.length then j - 1 else j) := by split <;> split <;> omega
          simp [q, e1, b]))
          exact ⟨Or.inr rfl, Or.inr rfl, Or.inl rfl, Or.inr rfl, Or.inl rfl, Or.inr rfl, Or.inr (by rw [show (((f : Nat) : Int) + (-1)) = ((f - 1 : Nat) : Int) by omega]), trivial⟩
    have M0_ := Mo.refl (A := (fun x => U S p x)) ok
    refine w_less ?_ (L28 _ h fl.length rfl M0_ (Nat.le_refl _) rfl (Mo.refl ok) (fun j hj => by rw [if_neg (show ¬ (fl.length < j ∧ j ≤ fl.length) by omega)]; exact ⟨rfl, rfl, rfl⟩))
    exact ⟨Or.inr rfl, Or.inr rfl, Or.inl rfl, Or.inr rfl, Or.inl rfl, Or.inr rfl, Or.inr rfl, trivial⟩
  · omega
