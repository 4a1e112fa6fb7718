/-! definitions: inputs, copies -/
def anyF (p : Nat → Bool) (n i : Nat) : Bool := if i < n then (p i || anyF p n (i + 1)) else false
termination_by n - i
theorem anyF_end {p : Nat → Bool} {n i : Nat} (h : n ≤ i) : anyF p n i = false := by rw [anyF, if_neg (by omega)]
theorem anyF_yes {p : Nat → Bool} {n i : Nat} (h : i < n) (hp : p i = true) : anyF p n i = true := by rw [anyF, if_pos h, hp]; rfl
theorem anyF_no {p : Nat → Bool} {n i : Nat} (h : i < n) (hp : p i = false) : anyF p n i = anyF p n (i + 1) := by rw [anyF, if_pos h, hp]; rfl
theorem anyF_iff {p : Nat → Bool} {n : Nat} : ∀ {i : Nat}, anyF p n i = true ↔ ∃ j, i ≤ j ∧ j < n ∧ p j = true := by
  intro i
  induction hm : n - i using Nat.strongRecOn generalizing i with | ind m IH => ?_
  rcases Nat.lt_or_ge i n with q | q
  · cases h : p i with
    | true => rw [anyF_yes q h]; exact ⟨fun _ => ⟨i, Nat.le_refl _, q, h⟩, fun _ => rfl⟩
    | false =>
      rw [anyF_no q h, IH (n - (i + 1)) (by omega) rfl]
      exact ⟨fun ⟨j, j1, j2⟩ => ⟨j, by omega, j2⟩, fun ⟨j, j1, j2, j3⟩ => ⟨j, by
        rcases Nat.eq_or_lt_of_le j1 with z | z
        · subst z; rw [h] at j3; cases j3
        · exact z, j2, j3⟩⟩
  · rw [anyF_end q]; exact ⟨(fun e => by cases e), (fun ⟨j, j1, j2, _⟩ => by omega)⟩
theorem anyF_congr {p p' : Nat → Bool} {n : Nat} (hp : ∀ i, i < n → p i = p' i) (i : Nat) : anyF p n i = anyF p' n i := by
  apply Bool.eq_iff_iff.mpr
  rw [anyF_iff, anyF_iff]
  exact ⟨fun ⟨j, a, b, c⟩ => ⟨j, a, b, by rw [← hp j b]; exact c⟩, fun ⟨j, a, b, c⟩ => ⟨j, a, b, by rw [hp j b]; exact c⟩⟩
/-- an input that names this target, this file -/
def isTg (l : List InV) (n : List Nat) (i : Nat) : Bool := inB l i && inN l i == n
def isFl (l : List InV) (n : List Nat) (i : Nat) : Bool := !inB l i && inN l i == n
def namesT (l : List InV) (n : List Nat) : Bool := anyF (isTg l n) l.length 0
def namesF (l : List InV) (n : List Nat) : Bool := anyF (isFl l n) l.length 0
/-- words for the rules of arraycopy -/
theorem p_cpI {S : Shp} {G : Nat → Option Nat} {h : Hp} {d k pc pc' a b f g n : Nat} {ls : List (Option MV)} {st : List MV} {Q : Option MV → Hp → Prop} (hd : dc k pc = some (.invokestatic 0, pc')) (ok : Ok S h) (ha : sK S a = kFld f) (hb : sK S b = kFld g) (hf : fk f = fk g ∧ (fk g = 40 ∨ fk g = 42)) (hl : n ≤ fl f ∧ n ≤ fl g ∧ fl f ≠ 0 ∧ fl g ≠ 0) (hr : alo g ≤ alo f ∧ ahi f ≤ ahi g) (hne : sT S f a ≠ sT S g b) (hst : st.length ≤ 4) (h1 : 1 ≤ d)
    (kk : ∀ h', h' = cpI h (sT S f a) 0 (sT S g b) 0 n → Mo S (fun y => y = sT S g b) h h' → Wp G d k pc' ls st h' Q) : Wp G d k pc ls (vI (n : Nat) :: vI 0 :: vR (some (sT S g b)) :: vI 0 :: vR (some (sT S f a)) :: st) h Q := by
  have f0 : fk f ≠ 0 := by omega
  have g0 : fk g ≠ 0 := by omega
  have fl1 := fk_lt f0
  have gl1 := fk_lt g0
  have ka := (ok.so.2.2.1 f a f0 ha).1
  have kb := (ok.so.2.2.1 g b g0 hb).1
  have la := g_lT ok ha f0 rfl hl.2.2.1
  have lb := g_lT ok hb g0 rfl hl.2.2.2
  have Ka := ok.kd ka f0
  have Kb := ok.kd kb g0
  refine w_arraycopy hd ⟨⟨⟨hne, by omega, by omega⟩, hst, h1⟩, by omega, by omega, by omega, by omega, by omega⟩ ?_
  rw [if_neg (by omega)]
  show Wp G d k pc' ls st (cpI h (sT S f a) 0 (sT S g b) 0 n) Q
  refine kk _ rfl ?_
  have k0 : sK S (sT S g b) ≠ 0 := by omega
  have ai : ∀ y i, AI (cpI h (sT S f a) 0 (sT S g b) 0 n) y i = if y = sT S g b ∧ 0 ≤ i ∧ i < 0 + n then AI h (sT S f a) (0 + (i - 0)) else AI h y i := fun _ _ => rfl
  have m : Md (fun y => y = sT S g b) h (cpI h (sT S f a) 0 (sT S g b) 0 n) := Md.of1 ok.ro (ok.nz k0) (by omega) (ok.notown k0) rfl rfl rfl rfl (fun y hy => ⟨fun q => ⟨rfl, rfl, rfl⟩, by funext i; rw [ai, if_neg (fun q => hy q.1)], rfl, rfl⟩) (fun q => by omega)
  obtain ⟨so, ro, ⟨s1, s2, s3, s4, s5, s6, s7, s8, s9, s10, s11⟩, fo⟩ := ok
  refine ⟨m, so, m.ok, ⟨s1, s2, s3, s4, s5, s6, s7, fun f' b' i hf' hb' => ?_, fun b' t i hb' ht => ?_, s10, s11⟩, Fgn.of1 so fo k0 rfl rfl (fun y hy => ⟨fun q => ⟨rfl, rfl⟩, by funext i; rw [ai, if_neg (fun q => hy q.1)], rfl⟩)⟩
  · rw [ai]
    split
    · rename_i q
      obtain ⟨e1, e2⟩ := (so.inj (by have := fk_lt (f := f') (by omega); omega) (by omega)).mp q.1
      subst e1
      have := s8 f a (0 + (i - 0)) (by omega) ha
      omega
    · exact s8 f' b' i hf' hb'
  · rw [ai, if_neg (fun q => so.neE (by omega) (by omega) q.1.symm)]
    exact s9 b' t i hb' ht
theorem p_cpL {S : Shp} {G : Nat → Option Nat} {h : Hp} {d k pc pc' a b f g n : Nat} {ls : List (Option MV)} {st : List MV} {Q : Option MV → Hp → Prop} (hd : dc k pc = some (.invokestatic 0, pc')) (ok : Ok S h) (ha : sK S a = kFld f) (hb : sK S b = kFld g) (hf : fk f = 44 ∧ fk g = 44) (hl : n ≤ fl f ∧ n ≤ fl g ∧ fl f ≠ 0 ∧ fl g ≠ 0) (hne : sT S f a ≠ sT S g b) (hst : st.length ≤ 4) (h1 : 1 ≤ d)
    (kk : ∀ h', h' = cpL h (sT S f a) 0 (sT S g b) 0 n → Mo S (fun y => y = sT S g b) h h' → Wp G d k pc' ls st h' Q) : Wp G d k pc ls (vI (n : Nat) :: vI 0 :: vR (some (sT S g b)) :: vI 0 :: vR (some (sT S f a)) :: st) h Q := by
  have f0 : fk f ≠ 0 := by omega
  have g0 : fk g ≠ 0 := by omega
  have ka := (ok.so.2.2.1 f a f0 ha).1
  have kb := (ok.so.2.2.1 g b g0 hb).1
  have la := g_lT ok ha f0 rfl hl.2.2.1
  have lb := g_lT ok hb g0 rfl hl.2.2.2
  have Ka := ok.kd ka f0
  have Kb := ok.kd kb g0
  refine w_arraycopy hd ⟨⟨⟨hne, by omega, by omega⟩, hst, h1⟩, by omega, by omega, by omega, by omega, by omega⟩ ?_
  rw [if_pos (by omega)]
  show Wp G d k pc' ls st (cpL h (sT S f a) 0 (sT S g b) 0 n) Q
  refine kk _ rfl ?_
  have k0 : sK S (sT S g b) ≠ 0 := by omega
  have al : ∀ y i, AL (cpL h (sT S f a) 0 (sT S g b) 0 n) y i = if y = sT S g b ∧ 0 ≤ i ∧ i < 0 + n then AL h (sT S f a) (0 + (i - 0)) else AL h y i := fun _ _ => rfl
  have m : Md (fun y => y = sT S g b) h (cpL h (sT S f a) 0 (sT S g b) 0 n) := Md.of1 ok.ro (ok.nz k0) (by omega) (ok.notown k0) rfl rfl rfl rfl (fun y hy => ⟨fun q => ⟨rfl, rfl, rfl⟩, rfl, by funext i; rw [al, if_neg (fun q => hy q.1)], rfl⟩) (fun q => by omega)
  obtain ⟨so, ro, ⟨s1, s2, s3, s4, s5, s6, s7, s8, s9, s10, s11⟩, fo⟩ := ok
  exact ⟨m, so, m.ok, ⟨s1, s2, s3, s4, s5, s6, s7, s8, s9, s10, s11⟩, Fgn.of1 so fo k0 rfl rfl (fun y hy => ⟨fun q => ⟨rfl, rfl⟩, rfl, rfl⟩)⟩
theorem d76_0 : dc 76 0 = some (.iconst 0, 1) := by decide +kernel
theorem d76_1 : dc 76 1 = some (.istore_n 3, 2) := by decide +kernel
theorem d76_2 : dc 76 2 = some (.iload_n 3, 3) := by decide +kernel
theorem d76_3 : dc 76 3 = some (.aload_n 0, 4) := by decide +kernel
theorem d76_4 : dc 76 4 = some (.getfield 133, 7) := by decide +kernel
theorem d76_7 : dc 76 7 = some (.if_icmp .ge ((38 : Nat) : Int), 10) := by decide +kernel
theorem d76_10 : dc 76 10 = some (.aload_n 0, 11) := by decide +kernel
theorem d76_11 : dc 76 11 = some (.dload 134, 14) := by decide +kernel
theorem d76_14 : dc 76 14 = some (.iload_n 3, 15) := by decide +kernel
theorem d76_15 : dc 76 15 = some (.baload, 16) := by decide +kernel
theorem d76_16 : dc 76 16 = some (.ifCond .eq ((32 : Nat) : Int), 19) := by decide +kernel
theorem d76_19 : dc 76 19 = some (.aload_n 0, 20) := by decide +kernel
theorem d76_20 : dc 76 20 = some (.dload 135, 23) := by decide +kernel
theorem d76_23 : dc 76 23 = some (.iload_n 3, 24) := by decide +kernel
theorem d76_24 : dc 76 24 = some (.laload, 25) := by decide +kernel
theorem d76_25 : dc 76 25 = some (.lload_n 1, 26) := by decide +kernel
theorem d76_26 : dc 76 26 = some (.lcmp, 27) := by decide +kernel
theorem d76_27 : dc 76 27 = some (.ifCond .ne ((32 : Nat) : Int), 30) := by decide +kernel
theorem d76_30 : dc 76 30 = some (.iconst 1, 31) := by decide +kernel
theorem d76_31 : dc 76 31 = some (.freturn, 32) := by decide +kernel
theorem d76_32 : dc 76 32 = some (.iinc 3 1, 35) := by decide +kernel
theorem d76_35 : dc 76 35 = some (.goto ((2 : Nat) : Int), 38) := by decide +kernel
theorem d76_38 : dc 76 38 = some (.iconst 0, 39) := by decide +kernel
theorem d76_39 : dc 76 39 = some (.freturn, 40) := by decide +kernel
theorem k_Def_namesTarget {S : Shp} {G : Nat → Option Nat} {d : Nat} {h : Hp} {Q : Option MV → Hp → Prop} {a : Nat} {x : Int64}  (ok : Ok S h) (h1 : 0 ≤ d) (ha : sK S a = 2) {n : List Nat} {t : TgV} {tx : List Nat} (D : DefC S h a t tx) (hn : okN n) (hx : x = hd n)
    (kk : Q (some (vI (b2i (namesT (tgI t) n)))) h) : Cl G d 76 [vR (some a), vJ x] h Q := by
  show Wp G d 76 0 [some (vR (some a)), some (vJ x), none, none] [] h Q
  obtain ⟨d1, d2, d3, d4, d5, d6, d7, d8, d9, o1, o2, o3, o4, o5, o6⟩ := D
  have o40 := o4.1
  refine w_iconst d76_0 (by decide) ?_
  refine w_istore3 d76_1 rfl ?_
  have L2 : ∀ (m2 : Nat) (i : Nat), (tgI t).length - i = m2 → (i ≤ (tgI t).length) → (namesT (tgI t) n = anyF (isTg (tgI t) n) (tgI t).length i) → Wp G d 76 2 [some (vR (some a)), some (vJ x), none, some (vI (i : Nat))] [] h Q := by
    intro m2
    induction m2 using Nat.strongRecOn with | ind m2 IH2 => ?_
    intro i hm2 i1 i2
    refine w_iload_n d76_2 rfl ?_
    refine w_aload_n d76_3 rfl ?_
    refine w_getI (x := ((tgI t).length : Int)) d76_4 (ok.kd ha) d5 ?_
    refine w_icmpge d76_7 (fun c7 => ?_) (fun c7 => ?_)
    · refine w_iconst d76_38 (by decide) ?_
      refine w_zreturn d76_39 (by decide) ?_
      rw [i2, anyF_end (by omega)] at kk
      exact kk
    · have hi : i < (tgI t).length := by omega
      obtain ⟨a1, a2, a3⟩ := d6 i hi
      have b1 := b2i_01 (inB (tgI t) i)
      refine w_aload_n d76_10 rfl ?_
      refine w_dloadS d76_11 (ok.kd ha) (fr134 ok ha) ?_
      refine w_iload_n d76_14 rfl ?_
      refine w_baloadV (x := (b2i (inB (tgI t) i))) d76_15 (gi134 ok ha (by omega)) a1 ?_
      refine w_ifeq d76_16 (fun c16 => ?_) (fun c16 => ?_)
      · have z : isTg (tgI t) n i = false := by have := b2i_f.mp c16; simp [isTg, this]
        refine w_iinc3 d76_32 rfl (by constructor <;> omega) ?_
        refine w_goto d76_35 ?_
        refine w_less ?_ (IH2 _ (by omega) (i + 1) rfl (by omega) (by rw [i2, anyF_no hi z]))
        exact ⟨Or.inr rfl, Or.inr rfl, Or.inl rfl, Or.inr rfl, trivial⟩
      · have zb : inB (tgI t) i = true := by have := b2i_f (b := inB (tgI t) i); cases q : inB (tgI t) i <;> simp_all
        refine w_aload_n d76_19 rfl ?_
        refine w_dloadS d76_20 (ok.kd ha) (fr135 ok ha) ?_
        refine w_iload_n d76_23 rfl ?_
        refine w_laloadV (x := (hd (inN (tgI t) i))) d76_24 (gi135 ok ha (by omega)) a2 ?_
        refine w_lload_n d76_25 rfl ?_
        refine w_lcmp d76_26 ?_
        refine w_ifne d76_27 (fun c27 => ?_) (fun c27 => ?_)
        · have z : isTg (tgI t) n i = false := by simp only [isTg, zb, Bool.true_and, beq_eq_false_iff_ne]; intro q; exact c27 (lcmp0.mpr (by rw [q, hx]))
          refine w_iinc3 d76_32 rfl (by constructor <;> omega) ?_
          refine w_goto d76_35 ?_
          refine w_less ?_ (IH2 _ (by omega) (i + 1) rfl (by omega) (by rw [i2, anyF_no hi z]))
          exact ⟨Or.inr rfl, Or.inr rfl, Or.inl rfl, Or.inr rfl, trivial⟩
        · refine w_iconst d76_30 (by decide) ?_
          refine w_zreturn d76_31 (by decide) ?_
          have z : isTg (tgI t) n i = true := by have e := lcmp0.mp c27; rw [hx, hd_inj ((o4.2 i hi).2 zb) hn] at e; simp [isTg, zb, e]
          rw [i2, anyF_yes hi z] at kk
          exact kk
  refine w_less ?_ (L2 _ 0 rfl (by omega) rfl)
  exact ⟨Or.inr rfl, Or.inr rfl, Or.inl rfl, Or.inr rfl, trivial⟩
theorem d177_0 : dc 177 0 = some (.iconst 0, 1) := by decide +kernel
theorem d177_1 : dc 177 1 = some (.istore 5, 3) := by decide +kernel
theorem d177_3 : dc 177 3 = some (.iload 5, 5) := by decide +kernel
theorem d177_5 : dc 177 5 = some (.aload_n 0, 6) := by decide +kernel
theorem d177_6 : dc 177 6 = some (.getfield 133, 9) := by decide +kernel
theorem d177_9 : dc 177 9 = some (.if_icmp .ge ((54 : Nat) : Int), 12) := by decide +kernel
theorem d177_12 : dc 177 12 = some (.aload_n 0, 13) := by decide +kernel
theorem d177_13 : dc 177 13 = some (.dload 134, 16) := by decide +kernel
theorem d177_16 : dc 177 16 = some (.iload 5, 18) := by decide +kernel
theorem d177_18 : dc 177 18 = some (.baload, 19) := by decide +kernel
theorem d177_19 : dc 177 19 = some (.ifCond .ne ((48 : Nat) : Int), 22) := by decide +kernel
theorem d177_22 : dc 177 22 = some (.aload_n 0, 23) := by decide +kernel
theorem d177_23 : dc 177 23 = some (.dload 135, 26) := by decide +kernel
theorem d177_26 : dc 177 26 = some (.iload 5, 28) := by decide +kernel
theorem d177_28 : dc 177 28 = some (.laload, 29) := by decide +kernel
theorem d177_29 : dc 177 29 = some (.lload_n 1, 30) := by decide +kernel
theorem d177_30 : dc 177 30 = some (.lcmp, 31) := by decide +kernel
theorem d177_31 : dc 177 31 = some (.ifCond .ne ((48 : Nat) : Int), 34) := by decide +kernel
theorem d177_34 : dc 177 34 = some (.aload_n 0, 35) := by decide +kernel
theorem d177_35 : dc 177 35 = some (.dload 136, 38) := by decide +kernel
theorem d177_38 : dc 177 38 = some (.iload 5, 40) := by decide +kernel
theorem d177_40 : dc 177 40 = some (.laload, 41) := by decide +kernel
theorem d177_41 : dc 177 41 = some (.lload_n 3, 42) := by decide +kernel
theorem d177_42 : dc 177 42 = some (.lcmp, 43) := by decide +kernel
theorem d177_43 : dc 177 43 = some (.ifCond .ne ((48 : Nat) : Int), 46) := by decide +kernel
theorem d177_46 : dc 177 46 = some (.iconst 1, 47) := by decide +kernel
theorem d177_47 : dc 177 47 = some (.freturn, 48) := by decide +kernel
theorem d177_48 : dc 177 48 = some (.iinc 5 1, 51) := by decide +kernel
theorem d177_51 : dc 177 51 = some (.goto ((3 : Nat) : Int), 54) := by decide +kernel
theorem d177_54 : dc 177 54 = some (.iconst 0, 55) := by decide +kernel
theorem d177_55 : dc 177 55 = some (.freturn, 56) := by decide +kernel
theorem k_Def_namesFile {S : Shp} {G : Nat → Option Nat} {d : Nat} {h : Hp} {Q : Option MV → Hp → Prop} {a : Nat} {x : Int64} {y : Int64}  (ok : Ok S h) (h1 : 0 ≤ d) (ha : sK S a = 2) {n : List Nat} {t : TgV} {tx : List Nat} (D : DefC S h a t tx) (hn : okP n) (hx : x = hd n) (hy : y = tl n)
    (kk : Q (some (vI (b2i (namesF (tgI t) n)))) h) : Cl G d 177 [vR (some a), vJ x, vJ y] h Q := by
  show Wp G d 177 0 [some (vR (some a)), some (vJ x), none, some (vJ y), none, none] [] h Q
  obtain ⟨d1, d2, d3, d4, d5, d6, d7, d8, d9, o1, o2, o3, o4, o5, o6⟩ := D
  have o40 := o4.1
  refine w_iconst d177_0 (by decide) ?_
  refine w_istore5 d177_1 rfl ?_
  have L3 : ∀ (m3 : Nat) (i : Nat), (tgI t).length - i = m3 → (i ≤ (tgI t).length) → (namesF (tgI t) n = anyF (isFl (tgI t) n) (tgI t).length i) → Wp G d 177 3 [some (vR (some a)), some (vJ x), none, some (vJ y), none, some (vI (i : Nat))] [] h Q := by
    intro m3
    induction m3 using Nat.strongRecOn with | ind m3 IH3 => ?_
    intro i hm3 i1 i2
    refine w_iload d177_3 rfl ?_
    refine w_aload_n d177_5 rfl ?_
    refine w_getI (x := ((tgI t).length : Int)) d177_6 (ok.kd ha) d5 ?_
    refine w_icmpge d177_9 (fun c9 => ?_) (fun c9 => ?_)
    · refine w_iconst d177_54 (by decide) ?_
      refine w_zreturn d177_55 (by decide) ?_
      rw [i2, anyF_end (by omega)] at kk
      exact kk
    · have hi : i < (tgI t).length := by omega
      obtain ⟨a1, a2, a3⟩ := d6 i hi
      have b1 := b2i_01 (inB (tgI t) i)
      refine w_aload_n d177_12 rfl ?_
      refine w_dloadS d177_13 (ok.kd ha) (fr134 ok ha) ?_
      refine w_iload d177_16 rfl ?_
      refine w_baloadV (x := (b2i (inB (tgI t) i))) d177_18 (gi134 ok ha (by omega)) a1 ?_
      refine w_ifne d177_19 (fun c19 => ?_) (fun c19 => ?_)
      · have z : isFl (tgI t) n i = false := by cases q : inB (tgI t) i <;> simp_all [isFl, b2i]
        refine w_iinc5 d177_48 rfl (by constructor <;> omega) ?_
        refine w_goto d177_51 ?_
        refine w_less ?_ (IH3 _ (by omega) (i + 1) rfl (by omega) (by rw [i2, anyF_no hi z]))
        exact ⟨Or.inr rfl, Or.inr rfl, Or.inl rfl, Or.inr rfl, Or.inl rfl, Or.inr rfl, trivial⟩
      · have zb : inB (tgI t) i = false := by cases q : inB (tgI t) i <;> simp_all [b2i]
        refine w_aload_n d177_22 rfl ?_
        refine w_dloadS d177_23 (ok.kd ha) (fr135 ok ha) ?_
        refine w_iload d177_26 rfl ?_
        refine w_laloadV (x := (hd (inN (tgI t) i))) d177_28 (gi135 ok ha (by omega)) a2 ?_
        refine w_lload_n d177_29 rfl ?_
        refine w_lcmp d177_30 ?_
        refine w_ifne d177_31 (fun c31 => ?_) (fun c31 => ?_)
        · have z : isFl (tgI t) n i = false := by simp only [isFl, zb, Bool.not_false, Bool.true_and, beq_eq_false_iff_ne]; intro q; exact c31 (lcmp0.mpr (by rw [q, hx]))
          refine w_iinc5 d177_48 rfl (by constructor <;> omega) ?_
          refine w_goto d177_51 ?_
          refine w_less ?_ (IH3 _ (by omega) (i + 1) rfl (by omega) (by rw [i2, anyF_no hi z]))
          exact ⟨Or.inr rfl, Or.inr rfl, Or.inl rfl, Or.inr rfl, Or.inl rfl, Or.inr rfl, trivial⟩
        · have e1 := lcmp0.mp c31
          refine w_aload_n d177_34 rfl ?_
          refine w_dloadS d177_35 (ok.kd ha) (fr136 ok ha) ?_
          refine w_iload d177_38 rfl ?_
          refine w_laloadV (x := (tl (inN (tgI t) i))) d177_40 (gi136 ok ha (by omega)) a3 ?_
          refine w_lload_n d177_41 rfl ?_
          refine w_lcmp d177_42 ?_
          refine w_ifne d177_43 (fun c43 => ?_) (fun c43 => ?_)
          · have z : isFl (tgI t) n i = false := by simp only [isFl, zb, Bool.not_false, Bool.true_and, beq_eq_false_iff_ne]; intro q; exact c43 (lcmp0.mpr (by rw [q, hy]))
            refine w_iinc5 d177_48 rfl (by constructor <;> omega) ?_
            refine w_goto d177_51 ?_
            refine w_less ?_ (IH3 _ (by omega) (i + 1) rfl (by omega) (by rw [i2, anyF_no hi z]))
            exact ⟨Or.inr rfl, Or.inr rfl, Or.inl rfl, Or.inr rfl, Or.inl rfl, Or.inr rfl, trivial⟩
          · refine w_iconst d177_46 (by decide) ?_
            refine w_zreturn d177_47 (by decide) ?_
            have z : isFl (tgI t) n i = true := by have e2 := lcmp0.mp c43; rw [hx] at e1; rw [hy] at e2; have e := (ht_inj (o4.2 i hi).1 hn).mp ⟨e1, e2⟩; simp [isFl, zb, e]
            rw [i2, anyF_yes hi z] at kk
            exact kk
  refine w_less ?_ (L3 _ 0 rfl (by omega) rfl)
  exact ⟨Or.inr rfl, Or.inr rfl, Or.inl rfl, Or.inr rfl, Or.inl rfl, Or.inr rfl, trivial⟩
theorem d42_0 : dc 42 0 = some (.aload_n 0, 1) := by decide +kernel
theorem d42_1 : dc 42 1 = some (.iconst 0, 2) := by decide +kernel
theorem d42_2 : dc 42 2 = some (.putstatic 128, 5) := by decide +kernel
theorem d42_5 : dc 42 5 = some (.aload_n 0, 6) := by decide +kernel
theorem d42_6 : dc 42 6 = some (.lconst 0, 7) := by decide +kernel
theorem d42_7 : dc 42 7 = some (.fstore 129, 10) := by decide +kernel
theorem d42_10 : dc 42 10 = some (.aload_n 0, 11) := by decide +kernel
theorem d42_11 : dc 42 11 = some (.lconst 0, 12) := by decide +kernel
theorem d42_12 : dc 42 12 = some (.fstore 130, 15) := by decide +kernel
theorem d42_15 : dc 42 15 = some (.aload_n 0, 16) := by decide +kernel
theorem d42_16 : dc 42 16 = some (.iconst (-1), 17) := by decide +kernel
theorem d42_17 : dc 42 17 = some (.putfield 131, 20) := by decide +kernel
theorem d42_20 : dc 42 20 = some (.aload_n 0, 21) := by decide +kernel
theorem d42_21 : dc 42 21 = some (.lconst 0, 22) := by decide +kernel
theorem d42_22 : dc 42 22 = some (.fstore 132, 25) := by decide +kernel
theorem d42_25 : dc 42 25 = some (.aload_n 0, 26) := by decide +kernel
theorem d42_26 : dc 42 26 = some (.iconst 0, 27) := by decide +kernel
theorem d42_27 : dc 42 27 = some (.putfield 133, 30) := by decide +kernel
theorem d42_30 : dc 42 30 = some (.aload_n 0, 31) := by decide +kernel
theorem d42_31 : dc 42 31 = some (.lconst 0, 32) := by decide +kernel
theorem d42_32 : dc 42 32 = some (.fstore 137, 35) := by decide +kernel
theorem d42_35 : dc 42 35 = some (.aload_n 0, 36) := by decide +kernel
theorem d42_36 : dc 42 36 = some (.iconst 0, 37) := by decide +kernel
theorem d42_37 : dc 42 37 = some (.putfield 138, 40) := by decide +kernel
theorem d42_40 : dc 42 40 = some (.aload_n 0, 41) := by decide +kernel
theorem d42_41 : dc 42 41 = some (.dload 139, 44) := by decide +kernel
theorem d42_44 : dc 42 44 = some (.invokevirtual 18, 47) := by decide +kernel
theorem d42_47 : dc 42 47 = some (.return_, 48) := by decide +kernel
theorem k_Def_clear {S : Shp} {G : Nat → Option Nat} {d : Nat} {h : Hp} {Q : Option MV → Hp → Prop} {a : Nat}  (ok : Ok S h) (h1 : 1 ≤ d) (ha : sK S a = 2) 
    (kk : ∀ h', Mo S (U S a) h h' → DefC S h' a ([], [], [], [], [], 0) [] → FI h' 128 a = 0 → Q none h') : Cl G d 42 [vR (some a)] h Q := by
  show Wp G d 42 0 [some (vR (some a))] [] h Q
  refine w_aload_n d42_0 rfl ?_
  refine w_iconst d42_1 (by decide) ?_
  refine wf128 d42_2 ok ha (by omega) (fun h2 e2 m2 => ?_)
  have ok2 := m2.ok
  have M2 := Mo.tr ok (Mo.refl (A := (fun x => U S a x)) ok) m2 (fun x e => (e ▸ U_refl))
  refine w_aload_n d42_5 rfl ?_
  refine w_lconst d42_6 ?_
  refine wf129 d42_7 ok2 ha (fun h7 e7 m7 => ?_)
  have ok7 := m7.ok
  have M7 := Mo.tr ok M2 m7 (fun x e => (e ▸ U_refl))
  refine w_aload_n d42_10 rfl ?_
  refine w_lconst d42_11 ?_
  refine wf130 d42_12 ok7 ha (fun h12 e12 m12 => ?_)
  have ok12 := m12.ok
  have M12 := Mo.tr ok M7 m12 (fun x e => (e ▸ U_refl))
  refine w_aload_n d42_15 rfl ?_
  refine w_iconst d42_16 (by decide) ?_
  refine wf131 d42_17 ok12 ha (by omega) (fun h17 e17 m17 => ?_)
  have ok17 := m17.ok
  have M17 := Mo.tr ok M12 m17 (fun x e => (e ▸ U_refl))
  refine w_aload_n d42_20 rfl ?_
  refine w_lconst d42_21 ?_
  refine wf132 d42_22 ok17 ha (fun h22 e22 m22 => ?_)
  have ok22 := m22.ok
  have M22 := Mo.tr ok M17 m22 (fun x e => (e ▸ U_refl))
  refine w_aload_n d42_25 rfl ?_
  refine w_iconst d42_26 (by decide) ?_
  refine wf133 d42_27 ok22 ha (by omega) (fun h27 e27 m27 => ?_)
  have ok27 := m27.ok
  have M27 := Mo.tr ok M22 m27 (fun x e => (e ▸ U_refl))
  refine w_aload_n d42_30 rfl ?_
  refine w_lconst d42_31 ?_
  refine wf137 d42_32 ok27 ha (fun h32 e32 m32 => ?_)
  have ok32 := m32.ok
  have M32 := Mo.tr ok M27 m32 (fun x e => (e ▸ U_refl))
  refine w_aload_n d42_35 rfl ?_
  refine w_iconst d42_36 (by decide) ?_
  refine wf138 d42_37 ok32 ha (by omega) (fun h37 e37 m37 => ?_)
  have ok37 := m37.ok
  have M37 := Mo.tr ok M32 m37 (fun x e => (e ▸ U_refl))
  refine w_aload_n d42_40 rfl ?_
  refine w_dloadS d42_41 (ok37.kd ha) (fr139 ok37 ha) ?_
  refine w_callv1 d42_44 (by omega) rfl (ok37.kd (kT139 ok37 ha)) (by simp) (Nat.le_of_ble_eq_true rfl) ?_
  refine r_Row_clear ok37 (kT139 ok37 ha) (fun h44 m44 e44_1 e44_2 => ?_)
  have ok44 := m44.ok
  have M44 := Mo.tr ok M37 m44 (fun x e => (e ▸ (ok.so.uT (by decide) U_refl)))
  refine w_return d42_47 ?_
  have n0 : sK S a ≠ 0 ∧ sK S a ≠ 6 := by omega
  have na : a ≠ sT S 139 a := fun q => by have := kT139 ok ha; rw [← q] at this; omega
  have z : ∀ n, okS [] n := fun n => ⟨Nat.zero_le _, (fun c hc => by cases hc)⟩
  refine kk _ M44 ⟨?_, ?_, ?_, ?_, ?_, (fun i hi => absurd hi (Nat.not_lt_zero _)), ?_, ?_, e44_1, z _, z _, z _, ⟨(by decide), (fun i hi => absurd hi (Nat.not_lt_zero _))⟩, z _, (by decide)⟩ ?_
  · rw [m44.fl ok37 n0 na 129]; simp [e37, e32, e27, e22, e17, e12, e7, e2, FI_sFI, FL_sFI, FR_sFI, AI_sFI, AL_sFI, AR_sFI, FI_sFL, FL_sFL, FR_sFL, AI_sFL, AL_sFL, AR_sFL, FI_sFR, FL_sFR, FR_sFR, AI_sFR, AL_sFR, AR_sFR, FI_sAI, FL_sAI, FR_sAI, AI_sAI, AL_sAI, AR_sAI, FI_sAL, FL_sAL, FR_sAL, AI_sAL, AL_sAL, AR_sAL, FI_sAR, FL_sAR, FR_sAR, AI_sAR, AL_sAR, AR_sAR, FI_cpI, FL_cpI, FR_cpI, AI_cpI, AL_cpI, AR_cpI, FI_cpL, FL_cpL, FR_cpL, AI_cpL, AL_cpL, AR_cpL]; try decide
  · rw [m44.fl ok37 n0 na 130]; simp [e37, e32, e27, e22, e17, e12, e7, e2, FI_sFI, FL_sFI, FR_sFI, AI_sFI, AL_sFI, AR_sFI, FI_sFL, FL_sFL, FR_sFL, AI_sFL, AL_sFL, AR_sFL, FI_sFR, FL_sFR, FR_sFR, AI_sFR, AL_sFR, AR_sFR, FI_sAI, FL_sAI, FR_sAI, AI_sAI, AL_sAI, AR_sAI, FI_sAL, FL_sAL, FR_sAL, AI_sAL, AL_sAL, AR_sAL, FI_sAR, FL_sAR, FR_sAR, AI_sAR, AL_sAR, AR_sAR, FI_cpI, FL_cpI, FR_cpI, AI_cpI, AL_cpI, AR_cpI, FI_cpL, FL_cpL, FR_cpL, AI_cpL, AL_cpL, AR_cpL]; try decide
  · rw [m44.fi ok37 n0 na 131]; simp [e37, e32, e27, e22, e17, e12, e7, e2, FI_sFI, FL_sFI, FR_sFI, AI_sFI, AL_sFI, AR_sFI, FI_sFL, FL_sFL, FR_sFL, AI_sFL, AL_sFL, AR_sFL, FI_sFR, FL_sFR, FR_sFR, AI_sFR, AL_sFR, AR_sFR, FI_sAI, FL_sAI, FR_sAI, AI_sAI, AL_sAI, AR_sAI, FI_sAL, FL_sAL, FR_sAL, AI_sAL, AL_sAL, AR_sAL, FI_sAR, FL_sAR, FR_sAR, AI_sAR, AL_sAR, AR_sAR, FI_cpI, FL_cpI, FR_cpI, AI_cpI, AL_cpI, AR_cpI, FI_cpL, FL_cpL, FR_cpL, AI_cpL, AL_cpL, AR_cpL]; try decide
  · rw [m44.fl ok37 n0 na 132]; simp [e37, e32, e27, e22, e17, e12, e7, e2, FI_sFI, FL_sFI, FR_sFI, AI_sFI, AL_sFI, AR_sFI, FI_sFL, FL_sFL, FR_sFL, AI_sFL, AL_sFL, AR_sFL, FI_sFR, FL_sFR, FR_sFR, AI_sFR, AL_sFR, AR_sFR, FI_sAI, FL_sAI, FR_sAI, AI_sAI, AL_sAI, AR_sAI, FI_sAL, FL_sAL, FR_sAL, AI_sAL, AL_sAL, AR_sAL, FI_sAR, FL_sAR, FR_sAR, AI_sAR, AL_sAR, AR_sAR, FI_cpI, FL_cpI, FR_cpI, AI_cpI, AL_cpI, AR_cpI, FI_cpL, FL_cpL, FR_cpL, AI_cpL, AL_cpL, AR_cpL]; try decide
  · rw [m44.fi ok37 n0 na 133]; simp [e37, e32, e27, e22, e17, e12, e7, e2, FI_sFI, FL_sFI, FR_sFI, AI_sFI, AL_sFI, AR_sFI, FI_sFL, FL_sFL, FR_sFL, AI_sFL, AL_sFL, AR_sFL, FI_sFR, FL_sFR, FR_sFR, AI_sFR, AL_sFR, AR_sFR, FI_sAI, FL_sAI, FR_sAI, AI_sAI, AL_sAI, AR_sAI, FI_sAL, FL_sAL, FR_sAL, AI_sAL, AL_sAL, AR_sAL, FI_sAR, FL_sAR, FR_sAR, AI_sAR, AL_sAR, AR_sAR, FI_cpI, FL_cpI, FR_cpI, AI_cpI, AL_cpI, AR_cpI, FI_cpL, FL_cpL, FR_cpL, AI_cpL, AL_cpL, AR_cpL]; try decide
  · rw [m44.fl ok37 n0 na 137]; simp [e37, e32, e27, e22, e17, e12, e7, e2, FI_sFI, FL_sFI, FR_sFI, AI_sFI, AL_sFI, AR_sFI, FI_sFL, FL_sFL, FR_sFL, AI_sFL, AL_sFL, AR_sFL, FI_sFR, FL_sFR, FR_sFR, AI_sFR, AL_sFR, AR_sFR, FI_sAI, FL_sAI, FR_sAI, AI_sAI, AL_sAI, AR_sAI, FI_sAL, FL_sAL, FR_sAL, AI_sAL, AL_sAL, AR_sAL, FI_sAR, FL_sAR, FR_sAR, AI_sAR, AL_sAR, AR_sAR, FI_cpI, FL_cpI, FR_cpI, AI_cpI, AL_cpI, AR_cpI, FI_cpL, FL_cpL, FR_cpL, AI_cpL, AL_cpL, AR_cpL]; try decide
  · rw [m44.fi ok37 n0 na 138]; simp [e37, e32, e27, e22, e17, e12, e7, e2, FI_sFI, FL_sFI, FR_sFI, AI_sFI, AL_sFI, AR_sFI, FI_sFL, FL_sFL, FR_sFL, AI_sFL, AL_sFL, AR_sFL, FI_sFR, FL_sFR, FR_sFR, AI_sFR, AL_sFR, AR_sFR, FI_sAI, FL_sAI, FR_sAI, AI_sAI, AL_sAI, AR_sAI, FI_sAL, FL_sAL, FR_sAL, AI_sAL, AL_sAL, AR_sAL, FI_sAR, FL_sAR, FR_sAR, AI_sAR, AL_sAR, AR_sAR, FI_cpI, FL_cpI, FR_cpI, AI_cpI, AL_cpI, AR_cpI, FI_cpL, FL_cpL, FR_cpL, AI_cpL, AL_cpL, AR_cpL]; try decide
  · rw [m44.fi ok37 n0 na 128]; simp [e37, e32, e27, e22, e17, e12, e7, e2, FI_sFI, FL_sFI, FR_sFI, AI_sFI, AL_sFI, AR_sFI, FI_sFL, FL_sFL, FR_sFL, AI_sFL, AL_sFL, AR_sFL, FI_sFR, FL_sFR, FR_sFR, AI_sFR, AL_sFR, AR_sFR, FI_sAI, FL_sAI, FR_sAI, AI_sAI, AL_sAI, AR_sAI, FI_sAL, FL_sAL, FR_sAL, AI_sAL, AL_sAL, AR_sAL, FI_sAR, FL_sAR, FR_sAR, AI_sAR, AL_sAR, AR_sAR, FI_cpI, FL_cpI, FR_cpI, AI_cpI, AL_cpI, AR_cpI, FI_cpL, FL_cpL, FR_cpL, AI_cpL, AL_cpL, AR_cpL]; try decide
theorem inB_snoc (l : List InV) (v : InV) (i : Nat) : inB (l ++ [v]) i = if i < l.length then inB l i else if i = l.length then v.1 else false := by
  unfold inB
  rw [List.getD_eq_getElem?_getD, List.getD_eq_getElem?_getD]
  split
  · rename_i q; rw [List.getElem?_append_left q]
  · rename_i q
    rw [List.getElem?_append_right (by omega)]
    split
    · rename_i z; subst z; simp
    · rename_i z
      rw [List.getElem?_eq_none (by simp; omega)]; rfl
theorem inN_snoc (l : List InV) (v : InV) (i : Nat) : inN (l ++ [v]) i = if i < l.length then inN l i else if i = l.length then v.2 else [] := by
  unfold inN
  rw [List.getD_eq_getElem?_getD, List.getD_eq_getElem?_getD]
  split
  · rename_i q; rw [List.getElem?_append_left q]
  · rename_i q
    rw [List.getElem?_append_right (by omega)]
    split
    · rename_i z; subst z; simp
    · rename_i z
      rw [List.getElem?_eq_none (by simp; omega)]; rfl
theorem d46_0 : dc 46 0 = some (.aload_n 0, 1) := by decide +kernel
theorem d46_1 : dc 46 1 = some (.getfield 133, 4) := by decide +kernel
theorem d46_4 : dc 46 4 = some (.bipush 6, 6) := by decide +kernel
theorem d46_6 : dc 46 6 = some (.if_icmp .ge ((50 : Nat) : Int), 9) := by decide +kernel
theorem d46_9 : dc 46 9 = some (.aload_n 0, 10) := by decide +kernel
theorem d46_10 : dc 46 10 = some (.dload 134, 13) := by decide +kernel
theorem d46_13 : dc 46 13 = some (.aload_n 0, 14) := by decide +kernel
theorem d46_14 : dc 46 14 = some (.getfield 133, 17) := by decide +kernel
theorem d46_17 : dc 46 17 = some (.iload_n 1, 18) := by decide +kernel
theorem d46_18 : dc 46 18 = some (.bastore, 19) := by decide +kernel
theorem d46_19 : dc 46 19 = some (.aload_n 0, 20) := by decide +kernel
theorem d46_20 : dc 46 20 = some (.dload 135, 23) := by decide +kernel
theorem d46_23 : dc 46 23 = some (.aload_n 0, 24) := by decide +kernel
theorem d46_24 : dc 46 24 = some (.getfield 133, 27) := by decide +kernel
theorem d46_27 : dc 46 27 = some (.lload_n 2, 28) := by decide +kernel
theorem d46_28 : dc 46 28 = some (.lastore, 29) := by decide +kernel
theorem d46_29 : dc 46 29 = some (.aload_n 0, 30) := by decide +kernel
theorem d46_30 : dc 46 30 = some (.dload 136, 33) := by decide +kernel
theorem d46_33 : dc 46 33 = some (.aload_n 0, 34) := by decide +kernel
theorem d46_34 : dc 46 34 = some (.getfield 133, 37) := by decide +kernel
theorem d46_37 : dc 46 37 = some (.lload 4, 39) := by decide +kernel
theorem d46_39 : dc 46 39 = some (.lastore, 40) := by decide +kernel
theorem d46_40 : dc 46 40 = some (.aload_n 0, 41) := by decide +kernel
theorem d46_41 : dc 46 41 = some (.dup, 42) := by decide +kernel
theorem d46_42 : dc 46 42 = some (.getfield 133, 45) := by decide +kernel
theorem d46_45 : dc 46 45 = some (.iconst 1, 46) := by decide +kernel
theorem d46_46 : dc 46 46 = some (.iadd, 47) := by decide +kernel
theorem d46_47 : dc 46 47 = some (.putfield 133, 50) := by decide +kernel
theorem d46_50 : dc 46 50 = some (.return_, 51) := by decide +kernel
theorem k_Def_addInput {S : Shp} {G : Nat → Option Nat} {d : Nat} {h : Hp} {Q : Option MV → Hp → Prop} {a : Nat} {o : Int} {x : Int64} {y : Int64}  (ok : Ok S h) (h1 : 0 ≤ d) (ha : sK S a = 2) {n : List Nat} {b : Bool} {t : TgV} {tx : List Nat} (D : DefC S h a t tx) (hl : (tgI t).length < 6) (ho : o = b2i b) (hn : okP n) (hb : b = true → okN n) (hx : x = hd n) (hy : y = tl n)
    (kk : ∀ h', Mo S (U S a) h h' → DefC S h' a (tgN t, tgR t, tgW t, tgI t ++ [(b, n)], tgC t, tgK t) tx → FI h' 128 a = FI h 128 a → Q none h') : Cl G d 46 [vR (some a), vI o, vJ x, vJ y] h Q := by
  show Wp G d 46 0 [some (vR (some a)), some (vI o), some (vJ x), none, some (vJ y), none] [] h Q
  obtain ⟨d1, d2, d3, d4, d5, d6, d7, d8, d9, o1, o2, o3, o4, o5, o6⟩ := D
  have o40 := o4.1
  have b1 := b2i_01 b
  refine w_aload_n d46_0 rfl ?_
  refine w_getI (x := ((tgI t).length : Int)) d46_1 (ok.kd ha) d5 ?_
  refine w_bipush d46_4 (by decide) ?_
  refine w_icmpge d46_6 (fun c6 => ?_) (fun c6 => ?_)
  · omega
  · refine w_aload_n d46_9 rfl ?_
    refine w_dloadS d46_10 (ok.kd ha) (fr134 ok ha) ?_
    refine w_aload_n d46_13 rfl ?_
    refine w_getI (x := ((tgI t).length : Int)) d46_14 (ok.kd ha) d5 ?_
    refine w_iload_n d46_17 rfl ?_
    refine wa134 d46_18 ok ha (by omega) (by omega) (fun h18 e18 m18 => ?_)
    have e18 : h18 = sAI h (sT S 134 a) (tgI t).length o := e18
    have ok18 := m18.ok
    have M18 := Mo.tr ok (Mo.refl (A := (fun x => U S a x)) ok) m18 (fun x e => (e ▸ (ok.so.uT (by decide) U_refl)))
    refine w_aload_n d46_19 rfl ?_
    refine w_dloadS d46_20 (ok18.kd ha) (fr135 ok18 ha) ?_
    refine w_aload_n d46_23 rfl ?_
    refine w_getI (x := ((tgI t).length : Int)) d46_24 (ok18.kd ha) (by rw [e18]; exact d5) ?_
    refine w_lload_n d46_27 rfl ?_
    refine wa135 d46_28 ok18 ha (by omega) (fun h28 e28 m28 => ?_)
    have e28 : h28 = sAL h18 (sT S 135 a) (tgI t).length x := e28
    have ok28 := m28.ok
    have M28 := Mo.tr ok M18 m28 (fun x e => (e ▸ (ok.so.uT (by decide) U_refl)))
    refine w_aload_n d46_29 rfl ?_
    refine w_dloadS d46_30 (ok28.kd ha) (fr136 ok28 ha) ?_
    refine w_aload_n d46_33 rfl ?_
    refine w_getI (x := ((tgI t).length : Int)) d46_34 (ok28.kd ha) (by rw [e28, e18]; exact d5) ?_
    refine w_lload d46_37 rfl ?_
    refine wa136 d46_39 ok28 ha (by omega) (fun h39 e39 m39 => ?_)
    have e39 : h39 = sAL h28 (sT S 136 a) (tgI t).length y := e39
    have ok39 := m39.ok
    have M39 := Mo.tr ok M28 m39 (fun x e => (e ▸ (ok.so.uT (by decide) U_refl)))
    refine w_aload_n d46_40 rfl ?_
    refine w_dupR d46_41 ?_
    refine w_getI (x := ((tgI t).length : Int)) d46_42 (ok39.kd ha) (by rw [e39, e28, e18]; exact d5) ?_
    refine w_iconst d46_45 (by decide) ?_
    refine w_iadd d46_46 (by constructor <;> omega) ?_
    refine wf133 d46_47 ok39 ha (by omega) (fun h47 e47 m47 => ?_)
    have ok47 := m47.ok
    have M47 := Mo.tr ok M39 m47 (fun x e => (e ▸ U_refl))
    refine w_return d46_50 ?_
    have ne : ∀ f g, f < 4096 → g < 4096 → f ≠ g → sT S f a ≠ sT S g a := fun f g hf hg hfg q => hfg ((ok.so.inj hf hg).mp q).1
    have n45 := ne 134 135 (by decide) (by decide) (by decide)
    have n46 := ne 134 136 (by decide) (by decide) (by decide)
    have n56 := ne 135 136 (by decide) (by decide) (by decide)
    refine kk _ M47 ⟨?_, ?_, ?_, ?_, ?_, (fun i hi => ?_), ?_, ?_, ?_, o1, o2, o3, ⟨?_, fun i hi => ?_⟩, o5, o6⟩ ?_
    · simp [e47, e39, e28, e18, FI_sFI, FL_sFI, FR_sFI, AI_sFI, AL_sFI, AR_sFI, FI_sFL, FL_sFL, FR_sFL, AI_sFL, AL_sFL, AR_sFL, FI_sFR, FL_sFR, FR_sFR, AI_sFR, AL_sFR, AR_sFR, FI_sAI, FL_sAI, FR_sAI, AI_sAI, AL_sAI, AR_sAI, FI_sAL, FL_sAL, FR_sAL, AI_sAL, AL_sAL, AR_sAL, FI_sAR, FL_sAR, FR_sAR, AI_sAR, AL_sAR, AR_sAR, FI_cpI, FL_cpI, FR_cpI, AI_cpI, AL_cpI, AR_cpI, FI_cpL, FL_cpL, FR_cpL, AI_cpL, AL_cpL, AR_cpL, d1]; rfl
    · simp [e47, e39, e28, e18, FI_sFI, FL_sFI, FR_sFI, AI_sFI, AL_sFI, AR_sFI, FI_sFL, FL_sFL, FR_sFL, AI_sFL, AL_sFL, AR_sFL, FI_sFR, FL_sFR, FR_sFR, AI_sFR, AL_sFR, AR_sFR, FI_sAI, FL_sAI, FR_sAI, AI_sAI, AL_sAI, AR_sAI, FI_sAL, FL_sAL, FR_sAL, AI_sAL, AL_sAL, AR_sAL, FI_sAR, FL_sAR, FR_sAR, AI_sAR, AL_sAR, AR_sAR, FI_cpI, FL_cpI, FR_cpI, AI_cpI, AL_cpI, AR_cpI, FI_cpL, FL_cpL, FR_cpL, AI_cpL, AL_cpL, AR_cpL, d2]; rfl
    · simp [e47, e39, e28, e18, FI_sFI, FL_sFI, FR_sFI, AI_sFI, AL_sFI, AR_sFI, FI_sFL, FL_sFL, FR_sFL, AI_sFL, AL_sFL, AR_sFL, FI_sFR, FL_sFR, FR_sFR, AI_sFR, AL_sFR, AR_sFR, FI_sAI, FL_sAI, FR_sAI, AI_sAI, AL_sAI, AR_sAI, FI_sAL, FL_sAL, FR_sAL, AI_sAL, AL_sAL, AR_sAL, FI_sAR, FL_sAR, FR_sAR, AI_sAR, AL_sAR, AR_sAR, FI_cpI, FL_cpI, FR_cpI, AI_cpI, AL_cpI, AR_cpI, FI_cpL, FL_cpL, FR_cpL, AI_cpL, AL_cpL, AR_cpL, d3]; rfl
    · simp [e47, e39, e28, e18, FI_sFI, FL_sFI, FR_sFI, AI_sFI, AL_sFI, AR_sFI, FI_sFL, FL_sFL, FR_sFL, AI_sFL, AL_sFL, AR_sFL, FI_sFR, FL_sFR, FR_sFR, AI_sFR, AL_sFR, AR_sFR, FI_sAI, FL_sAI, FR_sAI, AI_sAI, AL_sAI, AR_sAI, FI_sAL, FL_sAL, FR_sAL, AI_sAL, AL_sAL, AR_sAL, FI_sAR, FL_sAR, FR_sAR, AI_sAR, AL_sAR, AR_sAR, FI_cpI, FL_cpI, FR_cpI, AI_cpI, AL_cpI, AR_cpI, FI_cpL, FL_cpL, FR_cpL, AI_cpL, AL_cpL, AR_cpL, d4]; rfl
    · simp [e47, e39, e28, e18, FI_sFI, FL_sFI, FR_sFI, AI_sFI, AL_sFI, AR_sFI, FI_sFL, FL_sFL, FR_sFL, AI_sFL, AL_sFL, AR_sFL, FI_sFR, FL_sFR, FR_sFR, AI_sFR, AL_sFR, AR_sFR, FI_sAI, FL_sAI, FR_sAI, AI_sAI, AL_sAI, AR_sAI, FI_sAL, FL_sAL, FR_sAL, AI_sAL, AL_sAL, AR_sAL, FI_sAR, FL_sAR, FR_sAR, AI_sAR, AL_sAR, AR_sAR, FI_cpI, FL_cpI, FR_cpI, AI_cpI, AL_cpI, AR_cpI, FI_cpL, FL_cpL, FR_cpL, AI_cpL, AL_cpL, AR_cpL, tgI]
    · have hi : i < (tgI t).length + 1 := by simpa [tgI] using hi
      show _ = b2i (inB (tgI t ++ [(b, n)]) i) ∧ _ = hd (inN (tgI t ++ [(b, n)]) i) ∧ _ = tl (inN (tgI t ++ [(b, n)]) i)
      rw [inB_snoc, inN_snoc]
      simp only [e47, e39, e28, e18, FI_sFI, FL_sFI, FR_sFI, AI_sFI, AL_sFI, AR_sFI, FI_sFL, FL_sFL, FR_sFL, AI_sFL, AL_sFL, AR_sFL, FI_sFR, FL_sFR, FR_sFR, AI_sFR, AL_sFR, AR_sFR, FI_sAI, FL_sAI, FR_sAI, AI_sAI, AL_sAI, AR_sAI, FI_sAL, FL_sAL, FR_sAL, AI_sAL, AL_sAL, AR_sAL, FI_sAR, FL_sAR, FR_sAR, AI_sAR, AL_sAR, AR_sAR, FI_cpI, FL_cpI, FR_cpI, AI_cpI, AL_cpI, AR_cpI, FI_cpL, FL_cpL, FR_cpL, AI_cpL, AL_cpL, AR_cpL]
      by_cases q : i < (tgI t).length
      · obtain ⟨a1, a2, a3⟩ := d6 i q
        have qn : i ≠ (tgI t).length := by omega
        simp [q, qn, a1, a2, a3, n45, n46, n56, n45.symm, n46.symm, n56.symm]
      · have qe : i = (tgI t).length := by omega
        simp [qe, ho, hx, hy, n45, n46, n56, n45.symm, n46.symm, n56.symm]
    · simp [e47, e39, e28, e18, FI_sFI, FL_sFI, FR_sFI, AI_sFI, AL_sFI, AR_sFI, FI_sFL, FL_sFL, FR_sFL, AI_sFL, AL_sFL, AR_sFL, FI_sFR, FL_sFR, FR_sFR, AI_sFR, AL_sFR, AR_sFR, FI_sAI, FL_sAI, FR_sAI, AI_sAI, AL_sAI, AR_sAI, FI_sAL, FL_sAL, FR_sAL, AI_sAL, AL_sAL, AR_sAL, FI_sAR, FL_sAR, FR_sAR, AI_sAR, AL_sAR, AR_sAR, FI_cpI, FL_cpI, FR_cpI, AI_cpI, AL_cpI, AR_cpI, FI_cpL, FL_cpL, FR_cpL, AI_cpL, AL_cpL, AR_cpL, d7]; rfl
    · simp [e47, e39, e28, e18, FI_sFI, FL_sFI, FR_sFI, AI_sFI, AL_sFI, AR_sFI, FI_sFL, FL_sFL, FR_sFL, AI_sFL, AL_sFL, AR_sFL, FI_sFR, FL_sFR, FR_sFR, AI_sFR, AL_sFR, AR_sFR, FI_sAI, FL_sAI, FR_sAI, AI_sAI, AL_sAI, AR_sAI, FI_sAL, FL_sAL, FR_sAL, AI_sAL, AL_sAL, AR_sAL, FI_sAR, FL_sAR, FR_sAR, AI_sAR, AL_sAR, AR_sAR, FI_cpI, FL_cpI, FR_cpI, AI_cpI, AL_cpI, AR_cpI, FI_cpL, FL_cpL, FR_cpL, AI_cpL, AL_cpL, AR_cpL, d8]; rfl
    · rw [m47.rb ok39 (kT139 ok ha) (fun q => by have := kT139 ok ha; rw [q] at this; omega), m39.rb ok28 (kT139 ok ha) (fun q => absurd q (ne 139 136 (by decide) (by decide) (by decide))), m28.rb ok18 (kT139 ok ha) (fun q => absurd q (ne 139 135 (by decide) (by decide) (by decide))), m18.rb ok (kT139 ok ha) (fun q => absurd q (ne 139 134 (by decide) (by decide) (by decide)))]; exact d9
    · simp [tgI] at *; omega
    · have hi : i < (tgI t).length + 1 := by simpa [tgI] using hi
      show okP (inN (tgI t ++ [(b, n)]) i) ∧ (inB (tgI t ++ [(b, n)]) i = true → okN (inN (tgI t ++ [(b, n)]) i))
      rw [inB_snoc, inN_snoc]
      by_cases q : i < (tgI t).length
      · rw [if_pos q, if_pos q]; exact o4.2 i q
      · rw [if_neg q, if_neg q, if_pos (by omega), if_pos (by omega)]; exact ⟨hn, hb⟩
    · simp [e47, e39, e28, e18, FI_sFI, FL_sFI, FR_sFI, AI_sFI, AL_sFI, AR_sFI, FI_sFL, FL_sFL, FR_sFL, AI_sFL, AL_sFL, AR_sFL, FI_sFR, FL_sFR, FR_sFR, AI_sFR, AL_sFR, AR_sFR, FI_sAI, FL_sAI, FR_sAI, AI_sAI, AL_sAI, AR_sAI, FI_sAL, FL_sAL, FR_sAL, AI_sAL, AL_sAL, AR_sAL, FI_sAR, FL_sAR, FR_sAR, AI_sAR, AL_sAR, AR_sAR, FI_cpI, FL_cpI, FR_cpI, AI_cpI, AL_cpI, AR_cpI, FI_cpL, FL_cpL, FR_cpL, AI_cpL, AL_cpL, AR_cpL]
