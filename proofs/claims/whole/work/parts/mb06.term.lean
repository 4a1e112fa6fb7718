/-! the reference: values, factors, products -/
theorem sl_eq {l : List Nat} {a b n : Nat} (ha : a + n ≤ l.length) (hb : b + n ≤ l.length) (h : ∀ j, j < n → l.getD (a + j) 0 = l.getD (b + j) 0) : sl l a (a + n) = sl l b (b + n) := by
  refine list_ext (by rw [sl_len ⟨by omega, ha⟩, sl_len ⟨by omega, hb⟩]; omega) (fun j hj => ?_)
  rw [sl_len ⟨by omega, ha⟩] at hj
  rw [sl_gd (by omega), sl_gd (by omega)]
  exact h j (by omega)
theorem Yin.sl {l y : List Nat} {f a b : Nat} (h : Yin l f y) (hab : a ≤ b ∧ b ≤ y.length) : sl l (f + a) (f + b) = sl y a b := by
  have := h.1
  refine list_ext (by rw [sl_len ⟨by omega, by omega⟩, sl_len hab]; omega) (fun j hj => ?_)
  rw [sl_len ⟨by omega, by omega⟩] at hj
  rw [sl_gd (by omega), sl_gd (by omega), ← h.2 (a + j) (by omega), Nat.add_assoc]
theorem okN_word {y : List Nat} {p : Nat} (hp : p ≤ y.length) : okN (sl y p (wordE y p 8 48)) := by
  have r := wordE_rg (l := y) (a := p) (m := 8) (lo := 48) hp
  refine ⟨by rw [sl_len ⟨r.1, r.2.1⟩]; omega, fun c hc => ?_⟩
  obtain ⟨j, j1, j2, j3⟩ := sl_mem hc
  rw [← j3]
  exact wordE_all (by decide) j1 j2
/-- a factor that is not right -/
def BadF (ss : List SrV) (fs : List FaV) (y : List Nat) (p : Nat) : Prop := rsA y p = p + 1 ∨ rsX ss fs y p < 0 ∨ nsAt y (rsA y p)
theorem BadF.bad {ss : List SrV} {fs : List FaV} {y : List Nat} {a n p s q : Nat} (h : BadF ss fs y p) (hp : p < y.length) (ha : a ≤ p) (hn : 0 < n) : rsG ss fs y y.length a n p s q = none := by
  by_cases c : rsA y p = p + 1 ∨ rsX ss fs y p < 0 ∨ (p ≠ a ∧ atv y (p : Nat) ≠ 43 ∧ atv y (p : Nat) ≠ 42)
  · exact rsG_bad hp c
  · have nb : ∀ n s q, rsG ss fs y y.length a n (rsA y p) s q = none := fun n s q => by
      have z := (h.resolve_left (fun z => c (Or.inl z))).resolve_left (fun z => c (Or.inr (Or.inl z)))
      have ge : p + 1 ≤ rsA y p := by
        unfold rsA
        split
        · exact (wordE_rg (by omega)).1
        · exact (numE_rg (by omega)).1
      refine rsG_bad z.1 (Or.inr (Or.inr ⟨by omega, ?_, ?_⟩))
      · intro e
        rw [atvI, if_pos z.1] at e
        have e : y.getD (rsA y p) 0 = 43 := by omega
        have := z.2
        rw [e] at this
        exact absurd this (by decide)
      · intro e
        rw [atvI, if_pos z.1] at e
        have e : y.getD (rsA y p) 0 = 42 := by omega
        have := z.2
        rw [e] at this
        exact absurd this (by decide)
    by_cases d : atv y (p : Nat) = 42
    · rw [rsG_mul hn hp c d]; exact nb _ _ _
    · rw [rsG_add hn hp c d]; exact nb _ _ _
/-- factors so far -/
def TmI (ss : List SrV) (fs : List FaV) (y : List Nat) (a n p s q : Nat) (z : Bool) (p2 v : Nat) (w : Bool) : Prop := (w = false ∧ p < p2 ∧ (z = true → atv y (p2 : Nat) ≠ 42) ∧ ∃ n2, y.length - p2 < n2 ∧ rsG ss fs y y.length a n p s q = rsG ss fs y y.length a n2 p2 ((s + q) % 10000) v) ∨ (w = true ∧ rsG ss fs y y.length a n p s q = none)
theorem d280_0 : dc 280 0 = some (.iload_n 3, 1) := by decide +kernel
theorem d280_1 : dc 280 1 = some (.iload 4, 3) := by decide +kernel
theorem d280_3 : dc 280 3 = some (.if_icmp .ne ((10 : Nat) : Int), 6) := by decide +kernel
theorem d280_6 : dc 280 6 = some (.iconst 1, 7) := by decide +kernel
theorem d280_7 : dc 280 7 = some (.goto ((11 : Nat) : Int), 10) := by decide +kernel
theorem d280_10 : dc 280 10 = some (.iconst 0, 11) := by decide +kernel
theorem d280_11 : dc 280 11 = some (.istore 5, 13) := by decide +kernel
theorem d280_13 : dc 280 13 = some (.iconst 0, 14) := by decide +kernel
theorem d280_14 : dc 280 14 = some (.istore 6, 16) := by decide +kernel
theorem d280_16 : dc 280 16 = some (.iload 6, 18) := by decide +kernel
theorem d280_18 : dc 280 18 = some (.iload_n 3, 19) := by decide +kernel
theorem d280_19 : dc 280 19 = some (.if_icmp .ge ((61 : Nat) : Int), 22) := by decide +kernel
theorem d280_22 : dc 280 22 = some (.iload 5, 24) := by decide +kernel
theorem d280_24 : dc 280 24 = some (.ifCond .eq ((61 : Nat) : Int), 27) := by decide +kernel
theorem d280_27 : dc 280 27 = some (.aload_n 0, 28) := by decide +kernel
theorem d280_28 : dc 280 28 = some (.dload 1681, 31) := by decide +kernel
theorem d280_31 : dc 280 31 = some (.iload_n 1, 32) := by decide +kernel
theorem d280_32 : dc 280 32 = some (.iload 6, 34) := by decide +kernel
theorem d280_34 : dc 280 34 = some (.iadd, 35) := by decide +kernel
theorem d280_35 : dc 280 35 = some (.iaload, 36) := by decide +kernel
theorem d280_36 : dc 280 36 = some (.aload_n 0, 37) := by decide +kernel
theorem d280_37 : dc 280 37 = some (.dload 1681, 40) := by decide +kernel
theorem d280_40 : dc 280 40 = some (.iload_n 2, 41) := by decide +kernel
theorem d280_41 : dc 280 41 = some (.iload 6, 43) := by decide +kernel
theorem d280_43 : dc 280 43 = some (.iadd, 44) := by decide +kernel
theorem d280_44 : dc 280 44 = some (.iaload, 45) := by decide +kernel
theorem d280_45 : dc 280 45 = some (.if_icmp .ne ((52 : Nat) : Int), 48) := by decide +kernel
theorem d280_48 : dc 280 48 = some (.iconst 1, 49) := by decide +kernel
theorem d280_49 : dc 280 49 = some (.goto ((53 : Nat) : Int), 52) := by decide +kernel
theorem d280_52 : dc 280 52 = some (.iconst 0, 53) := by decide +kernel
theorem d280_53 : dc 280 53 = some (.istore 5, 55) := by decide +kernel
theorem d280_55 : dc 280 55 = some (.iinc 6 1, 58) := by decide +kernel
theorem d280_58 : dc 280 58 = some (.goto ((16 : Nat) : Int), 61) := by decide +kernel
theorem d280_61 : dc 280 61 = some (.iload 5, 63) := by decide +kernel
theorem d280_63 : dc 280 63 = some (.freturn, 64) := by decide +kernel
theorem k_M_isSameName {S : Shp} {G : Nat → Option Nat} {d : Nat} {h : Hp} {Q : Option MV → Hp → Prop} {m : Nat} {a : Nat} {b : Nat} {n : Nat} {k : Nat} {l : List Nat} (ok : Ok S h) (h1 : 0 ≤ d) (hm : sK S m = 14) (AL : AlR S h m l) (ha : a + n ≤ l.length) (hb : b + k ≤ l.length)
    (kk : Q (some (vI (b2i (decide (sl l a (a + n) = sl l b (b + k)))))) h) : Cl G d 280 [vR (some m), vI (a : Nat), vI (b : Nat), vI (n : Nat), vI (k : Nat)] h Q := by
  show Wp G d 280 0 [some (vR (some m)), some (vI (a : Nat)), some (vI (b : Nat)), some (vI (n : Nat)), some (vI (k : Nat)), none, none] [] h Q
  have AL_0 := AL
  have l3 : l.length ≤ 3600 := by have sl := sLT ok (f := 1681) (n := 3600) hm (by decide) rfl (by decide); have := AL.2.2.1; omega
  have la := sl_len (l := l) (f := a) (e := a + n) ⟨by omega, ha⟩
  have lb := sl_len (l := l) (f := b) (e := b + k) ⟨by omega, hb⟩
  refine w_iload_n d280_0 rfl ?_
  refine w_iload d280_1 rfl ?_
  refine w_icmpne d280_3 (fun c3 => ?_) (fun c3 => ?_)
  · have nk : ¬ n = k := by omega
    refine w_iconst d280_10 (by decide) ?_
    refine w_istore5 d280_11 rfl ?_
    refine w_iconst d280_13 (by decide) ?_
    refine w_istore6 d280_14 rfl ?_
    have L16 : ∀ (m16 : Nat) (i : Nat) (c : Bool), n - i = m16 → (i ≤ n) → ((c = true → n = k ∧ ∀ j, j < i → l.getD (a + j) 0 = l.getD (b + j) 0) ∧ (c = false → ¬ sl l a (a + n) = sl l b (b + k))) → Wp G d 280 16 [some (vR (some m)), some (vI (a : Nat)), some (vI (b : Nat)), some (vI (n : Nat)), some (vI (k : Nat)), some (vI (b2i c)), some (vI (i : Nat))] [] h Q := by
      intro m16
      induction m16 using Nat.strongRecOn with | ind m16 IH16 => ?_
      intro i c hm16 il hc
      refine w_iload d280_16 rfl ?_
      refine w_iload_n d280_18 rfl ?_
      refine w_icmpge d280_19 (fun c19 => ?_) (fun c19 => ?_)
      · have ei : i = n := by omega
        refine w_iload d280_61 rfl ?_
        have e : b2i (decide (sl l a (a + n) = sl l b (b + k))) = b2i c := by
          cases hz : c with
          | true => exact b2i_dec (by
              have hh := hc.1 hz
              rw [← hh.1]
              exact sl_eq ha (by omega) (fun j hj => hh.2 j (by first | omega | (rw [hz] at zc; exact absurd zc (by decide)))))
          | false => exact b2i_decN (hc.2 hz)
        rw [e] at kk
        refine w_zreturn d280_63 (by cases c <;> decide) ?_
        exact kk
      · have hi : i < n := by omega
        refine w_iload d280_22 rfl ?_
        refine w_ifeq d280_24 (fun c24 => ?_) (fun c24 => ?_)
        · have zc : c = false := by
            cases c with
            | true => exact absurd c24 (by decide)
            | false => rfl
          refine w_iload d280_61 rfl ?_
          have e : b2i (decide (sl l a (a + n) = sl l b (b + k))) = b2i c := by
            cases hz : c with
            | true => exact b2i_dec (by
                have hh := hc.1 hz
                rw [← hh.1]
                exact sl_eq ha (by omega) (fun j hj => hh.2 j (by first | omega | (rw [hz] at zc; exact absurd zc (by decide)))))
            | false => exact b2i_decN (hc.2 hz)
          rw [e] at kk
          refine w_zreturn d280_63 (by cases c <;> decide) ?_
          exact kk
        · have zc : c = true := by
            cases c with
            | true => rfl
            | false => exact absurd rfl c24
          have hk := (hc.1 zc).1
          refine w_aload_n d280_27 rfl ?_
          refine w_dloadS d280_28 (ok.kd hm) (fr1681 ok hm) ?_
          refine w_iload_n d280_31 rfl ?_
          refine w_iload d280_32 rfl ?_
          refine w_iadd d280_34 (by constructor <;> omega) ?_
          rw [show ((a : Nat) : Int) + ((i : Nat) : Int) = ((a + i : Nat) : Int) by omega]
          refine w_ialoadV (x := ((l.getD (a + i) 0 : Nat) : Int)) d280_35 (by have := AL.2.g ok (k := a + i) (by omega); rwa [show (((0 : Nat) : Int) + ((a + i : Nat) : Int)) = ((a + i : Nat) : Int) by omega] at this) ((AL.2.at0 (by omega)).trans (congrArg _ (rfl))) ?_
          refine w_aload_n d280_36 rfl ?_
          refine w_dloadS d280_37 (ok.kd hm) (fr1681 ok hm) ?_
          refine w_iload_n d280_40 rfl ?_
          refine w_iload d280_41 rfl ?_
          refine w_iadd d280_43 (by constructor <;> omega) ?_
          rw [show ((b : Nat) : Int) + ((i : Nat) : Int) = ((b + i : Nat) : Int) by omega]
          refine w_ialoadV (x := ((l.getD (b + i) 0 : Nat) : Int)) d280_44 (by have := AL.2.g ok (k := b + i) (by omega); rwa [show (((0 : Nat) : Int) + ((b + i : Nat) : Int)) = ((b + i : Nat) : Int) by omega] at this) ((AL.2.at0 (by omega)).trans (congrArg _ (rfl))) ?_
          refine w_icmpne d280_45 (fun c45 => ?_) (fun c45 => ?_)
          · have ne : ¬ l.getD (a + i) 0 = l.getD (b + i) 0 := by omega
            refine w_iconst d280_52 (by decide) ?_
            refine w_istore5 d280_53 rfl ?_
            refine w_iinc6 d280_55 rfl (by constructor <;> omega) ?_
            refine w_goto d280_58 ?_
            rw [show ((i : Nat) : Int) + 1 = ((i + 1 : Nat) : Int) by omega]
            refine w_less ?_ (IH16 _ (by omega) (i + 1) false rfl (by omega) ⟨fun z => absurd z (by decide), fun _ z => ne (by have g1 := sl_gd (l := l) (f := a) (e := a + n) (i := i) (by omega); have g2 := sl_gd (l := l) (f := b) (e := b + k) (i := i) (by omega); rw [← g1, ← g2, z])⟩)
            exact ⟨Or.inr rfl, Or.inr rfl, Or.inr rfl, Or.inr rfl, Or.inr rfl, Or.inr rfl, Or.inr rfl, trivial⟩
          · have ne : l.getD (a + i) 0 = l.getD (b + i) 0 := by omega
            refine w_iconst d280_48 (by decide) ?_
            refine w_goto d280_49 ?_
            refine w_istore5 d280_53 rfl ?_
            refine w_iinc6 d280_55 rfl (by constructor <;> omega) ?_
            refine w_goto d280_58 ?_
            rw [show ((i : Nat) : Int) + 1 = ((i + 1 : Nat) : Int) by omega]
            refine w_less ?_ (IH16 _ (by omega) (i + 1) true rfl (by omega) ⟨fun _ => ⟨hk, fun j hj => by rcases Nat.lt_or_ge j i with y | y; exact (hc.1 zc).2 j y; rw [show j = i by omega]; exact ne⟩, fun z => absurd z (by decide)⟩)
            exact ⟨Or.inr rfl, Or.inr rfl, Or.inr rfl, Or.inr rfl, Or.inr rfl, Or.inr rfl, Or.inr rfl, trivial⟩
    refine w_less ?_ (L16 _ 0 false rfl (Nat.zero_le _) ⟨fun z => absurd z (by decide), fun _ z => nk (by rw [z] at la; omega)⟩)
    exact ⟨Or.inr rfl, Or.inr rfl, Or.inr rfl, Or.inr rfl, Or.inr rfl, Or.inr rfl, Or.inr rfl, trivial⟩
  · have nk : n = k := by omega
    refine w_iconst d280_6 (by decide) ?_
    refine w_goto d280_7 ?_
    refine w_istore5 d280_11 rfl ?_
    refine w_iconst d280_13 (by decide) ?_
    refine w_istore6 d280_14 rfl ?_
    have L16 : ∀ (m16 : Nat) (i : Nat) (c : Bool), n - i = m16 → (i ≤ n) → ((c = true → n = k ∧ ∀ j, j < i → l.getD (a + j) 0 = l.getD (b + j) 0) ∧ (c = false → ¬ sl l a (a + n) = sl l b (b + k))) → Wp G d 280 16 [some (vR (some m)), some (vI (a : Nat)), some (vI (b : Nat)), some (vI (n : Nat)), some (vI (k : Nat)), some (vI (b2i c)), some (vI (i : Nat))] [] h Q := by
      intro m16
      induction m16 using Nat.strongRecOn with | ind m16 IH16 => ?_
      intro i c hm16 il hc
      refine w_iload d280_16 rfl ?_
      refine w_iload_n d280_18 rfl ?_
      refine w_icmpge d280_19 (fun c19 => ?_) (fun c19 => ?_)
      · have ei : i = n := by omega
        refine w_iload d280_61 rfl ?_
        have e : b2i (decide (sl l a (a + n) = sl l b (b + k))) = b2i c := by
          cases hz : c with
          | true => exact b2i_dec (by
              have hh := hc.1 hz
              rw [← hh.1]
              exact sl_eq ha (by omega) (fun j hj => hh.2 j (by first | omega | (rw [hz] at zc; exact absurd zc (by decide)))))
          | false => exact b2i_decN (hc.2 hz)
        rw [e] at kk
        refine w_zreturn d280_63 (by cases c <;> decide) ?_
        exact kk
      · have hi : i < n := by omega
        refine w_iload d280_22 rfl ?_
        refine w_ifeq d280_24 (fun c24 => ?_) (fun c24 => ?_)
        · have zc : c = false := by
            cases c with
            | true => exact absurd c24 (by decide)
            | false => rfl
          refine w_iload d280_61 rfl ?_
          have e : b2i (decide (sl l a (a + n) = sl l b (b + k))) = b2i c := by
            cases hz : c with
            | true => exact b2i_dec (by
                have hh := hc.1 hz
                rw [← hh.1]
                exact sl_eq ha (by omega) (fun j hj => hh.2 j (by first | omega | (rw [hz] at zc; exact absurd zc (by decide)))))
            | false => exact b2i_decN (hc.2 hz)
          rw [e] at kk
          refine w_zreturn d280_63 (by cases c <;> decide) ?_
          exact kk
        · have zc : c = true := by
            cases c with
            | true => rfl
            | false => exact absurd rfl c24
          have hk := (hc.1 zc).1
          refine w_aload_n d280_27 rfl ?_
          refine w_dloadS d280_28 (ok.kd hm) (fr1681 ok hm) ?_
          refine w_iload_n d280_31 rfl ?_
          refine w_iload d280_32 rfl ?_
          refine w_iadd d280_34 (by constructor <;> omega) ?_
          rw [show ((a : Nat) : Int) + ((i : Nat) : Int) = ((a + i : Nat) : Int) by omega]
          refine w_ialoadV (x := ((l.getD (a + i) 0 : Nat) : Int)) d280_35 (by have := AL.2.g ok (k := a + i) (by omega); rwa [show (((0 : Nat) : Int) + ((a + i : Nat) : Int)) = ((a + i : Nat) : Int) by omega] at this) ((AL.2.at0 (by omega)).trans (congrArg _ (rfl))) ?_
          refine w_aload_n d280_36 rfl ?_
          refine w_dloadS d280_37 (ok.kd hm) (fr1681 ok hm) ?_
          refine w_iload_n d280_40 rfl ?_
          refine w_iload d280_41 rfl ?_
          refine w_iadd d280_43 (by constructor <;> omega) ?_
          rw [show ((b : Nat) : Int) + ((i : Nat) : Int) = ((b + i : Nat) : Int) by omega]
          refine w_ialoadV (x := ((l.getD (b + i) 0 : Nat) : Int)) d280_44 (by have := AL.2.g ok (k := b + i) (by omega); rwa [show (((0 : Nat) : Int) + ((b + i : Nat) : Int)) = ((b + i : Nat) : Int) by omega] at this) ((AL.2.at0 (by omega)).trans (congrArg _ (rfl))) ?_
          refine w_icmpne d280_45 (fun c45 => ?_) (fun c45 => ?_)
          · have ne : ¬ l.getD (a + i) 0 = l.getD (b + i) 0 := by omega
            refine w_iconst d280_52 (by decide) ?_
            refine w_istore5 d280_53 rfl ?_
            refine w_iinc6 d280_55 rfl (by constructor <;> omega) ?_
            refine w_goto d280_58 ?_
            rw [show ((i : Nat) : Int) + 1 = ((i + 1 : Nat) : Int) by omega]
            refine w_less ?_ (IH16 _ (by omega) (i + 1) false rfl (by omega) ⟨fun z => absurd z (by decide), fun _ z => ne (by have g1 := sl_gd (l := l) (f := a) (e := a + n) (i := i) (by omega); have g2 := sl_gd (l := l) (f := b) (e := b + k) (i := i) (by omega); rw [← g1, ← g2, z])⟩)
            exact ⟨Or.inr rfl, Or.inr rfl, Or.inr rfl, Or.inr rfl, Or.inr rfl, Or.inr rfl, Or.inr rfl, trivial⟩
          · have ne : l.getD (a + i) 0 = l.getD (b + i) 0 := by omega
            refine w_iconst d280_48 (by decide) ?_
            refine w_goto d280_49 ?_
            refine w_istore5 d280_53 rfl ?_
            refine w_iinc6 d280_55 rfl (by constructor <;> omega) ?_
            refine w_goto d280_58 ?_
            rw [show ((i : Nat) : Int) + 1 = ((i + 1 : Nat) : Int) by omega]
            refine w_less ?_ (IH16 _ (by omega) (i + 1) true rfl (by omega) ⟨fun _ => ⟨hk, fun j hj => by rcases Nat.lt_or_ge j i with y | y; exact (hc.1 zc).2 j y; rw [show j = i by omega]; exact ne⟩, fun z => absurd z (by decide)⟩)
            exact ⟨Or.inr rfl, Or.inr rfl, Or.inr rfl, Or.inr rfl, Or.inr rfl, Or.inr rfl, Or.inr rfl, trivial⟩
    refine w_less ?_ (L16 _ 0 true rfl (Nat.zero_le _) ⟨fun _ => ⟨nk, fun j hj => absurd hj (Nat.not_lt_zero _)⟩, fun z => absurd z (by decide)⟩)
    exact ⟨Or.inr rfl, Or.inr rfl, Or.inr rfl, Or.inr rfl, Or.inr rfl, Or.inr rfl, Or.inr rfl, trivial⟩
theorem d279_0 : dc 279 0 = some (.iconst 0, 1) := by decide +kernel
theorem d279_1 : dc 279 1 = some (.istore_n 3, 2) := by decide +kernel
theorem d279_2 : dc 279 2 = some (.iload_n 3, 3) := by decide +kernel
theorem d279_3 : dc 279 3 = some (.aload_n 0, 4) := by decide +kernel
theorem d279_4 : dc 279 4 = some (.getfield 1693, 7) := by decide +kernel
theorem d279_7 : dc 279 7 = some (.if_icmp .ge ((44 : Nat) : Int), 10) := by decide +kernel
theorem d279_10 : dc 279 10 = some (.aload_n 0, 11) := by decide +kernel
theorem d279_11 : dc 279 11 = some (.aload_n 0, 12) := by decide +kernel
theorem d279_12 : dc 279 12 = some (.dload 1689, 15) := by decide +kernel
theorem d279_15 : dc 279 15 = some (.iload_n 3, 16) := by decide +kernel
theorem d279_16 : dc 279 16 = some (.iaload, 17) := by decide +kernel
theorem d279_17 : dc 279 17 = some (.iload_n 1, 18) := by decide +kernel
theorem d279_18 : dc 279 18 = some (.aload_n 0, 19) := by decide +kernel
theorem d279_19 : dc 279 19 = some (.dload 1690, 22) := by decide +kernel
theorem d279_22 : dc 279 22 = some (.iload_n 3, 23) := by decide +kernel
theorem d279_23 : dc 279 23 = some (.iaload, 24) := by decide +kernel
theorem d279_24 : dc 279 24 = some (.iload_n 2, 25) := by decide +kernel
theorem d279_25 : dc 279 25 = some (.invokevirtual 280, 28) := by decide +kernel
theorem d279_28 : dc 279 28 = some (.ifCond .eq ((38 : Nat) : Int), 31) := by decide +kernel
theorem d279_31 : dc 279 31 = some (.aload_n 0, 32) := by decide +kernel
theorem d279_32 : dc 279 32 = some (.dload 1691, 35) := by decide +kernel
theorem d279_35 : dc 279 35 = some (.iload_n 3, 36) := by decide +kernel
theorem d279_36 : dc 279 36 = some (.iaload, 37) := by decide +kernel
theorem d279_37 : dc 279 37 = some (.ireturn, 38) := by decide +kernel
theorem d279_38 : dc 279 38 = some (.iinc 3 1, 41) := by decide +kernel
theorem d279_41 : dc 279 41 = some (.goto ((2 : Nat) : Int), 44) := by decide +kernel
theorem d279_44 : dc 279 44 = some (.aload_n 0, 45) := by decide +kernel
theorem d279_45 : dc 279 45 = some (.getfield 1697, 48) := by decide +kernel
theorem d279_48 : dc 279 48 = some (.iconst 1, 49) := by decide +kernel
theorem d279_49 : dc 279 49 = some (.isub, 50) := by decide +kernel
theorem d279_50 : dc 279 50 = some (.istore_n 3, 51) := by decide +kernel
theorem d279_51 : dc 279 51 = some (.iload_n 3, 52) := by decide +kernel
theorem d279_52 : dc 279 52 = some (.ifCond .lt ((89 : Nat) : Int), 55) := by decide +kernel
theorem d279_55 : dc 279 55 = some (.aload_n 0, 56) := by decide +kernel
theorem d279_56 : dc 279 56 = some (.aload_n 0, 57) := by decide +kernel
theorem d279_57 : dc 279 57 = some (.dload 1694, 60) := by decide +kernel
theorem d279_60 : dc 279 60 = some (.iload_n 3, 61) := by decide +kernel
theorem d279_61 : dc 279 61 = some (.iaload, 62) := by decide +kernel
theorem d279_62 : dc 279 62 = some (.iload_n 1, 63) := by decide +kernel
theorem d279_63 : dc 279 63 = some (.aload_n 0, 64) := by decide +kernel
theorem d279_64 : dc 279 64 = some (.dload 1695, 67) := by decide +kernel
theorem d279_67 : dc 279 67 = some (.iload_n 3, 68) := by decide +kernel
theorem d279_68 : dc 279 68 = some (.iaload, 69) := by decide +kernel
theorem d279_69 : dc 279 69 = some (.iload_n 2, 70) := by decide +kernel
theorem d279_70 : dc 279 70 = some (.invokevirtual 280, 73) := by decide +kernel
theorem d279_73 : dc 279 73 = some (.ifCond .eq ((83 : Nat) : Int), 76) := by decide +kernel
theorem d279_76 : dc 279 76 = some (.aload_n 0, 77) := by decide +kernel
theorem d279_77 : dc 279 77 = some (.dload 1696, 80) := by decide +kernel
theorem d279_80 : dc 279 80 = some (.iload_n 3, 81) := by decide +kernel
theorem d279_81 : dc 279 81 = some (.iaload, 82) := by decide +kernel
theorem d279_82 : dc 279 82 = some (.ireturn, 83) := by decide +kernel
theorem d279_83 : dc 279 83 = some (.iinc 3 (-1), 86) := by decide +kernel
theorem d279_86 : dc 279 86 = some (.goto ((51 : Nat) : Int), 89) := by decide +kernel
theorem d279_89 : dc 279 89 = some (.aload_n 0, 90) := by decide +kernel
theorem d279_90 : dc 279 90 = some (.iconst 1, 91) := by decide +kernel
theorem d279_91 : dc 279 91 = some (.putstatic 1700, 94) := by decide +kernel
theorem d279_94 : dc 279 94 = some (.iconst 0, 95) := by decide +kernel
theorem d279_95 : dc 279 95 = some (.ireturn, 96) := by decide +kernel
theorem k_M_valueOf {S : Shp} {G : Nat → Option Nat} {d : Nat} {h : Hp} {Q : Option MV → Hp → Prop} {m : Nat} {a : Nat} {n : Nat} {f p : Nat} {y l : List Nat} {w : Bool} {ss : List SrV} {fs : List FaV} (ok : Ok S h) (h1 : 1 ≤ d) (hm : sK S m = 14) (AT : AtR S h m f y p w) (AL : AlR S h m l) (SR : SrM S h m l ss) (FC : FcM S h m l fs) (ha : a + n ≤ l.length) (hok : okN (sl l a (a + n)))
    (kk : ∀ h' w' v, Fr S m [1700] h h' → AtR S h' m f y p w' → v ≤ 9999 → ((w' = w ∧ vOf ss fs (hd (sl l a (a + n))) = ((v : Nat) : Int)) ∨ (w' = true ∧ vOf ss fs (hd (sl l a (a + n))) < 0)) → Q (some (vI ((v : Nat) : Int))) h') : Cl G d 279 [vR (some m), vI (a : Nat), vI (n : Nat)] h Q := by
  show Wp G d 279 0 [some (vR (some m)), some (vI (a : Nat)), some (vI (n : Nat)), none] [] h Q
  have AT_0 := AT
  have AL_0 := AL
  have SR_0 := SR
  have FC_0 := FC
  have l3 : l.length ≤ 3600 := by have sl := sLT ok (f := 1681) (n := 3600) hm (by decide) rfl (by decide); have := AL.2.2.1; omega
  have nss := SR.2.1
  have nfs := FC.2.1
  refine w_iconst d279_0 (by decide) ?_
  refine w_istore3 d279_1 rfl ?_
  have L2 : ∀ (m2 : Nat) (i : Nat), ss.length - i = m2 → (srF (fun i => sN ss i == hd (sl l a (a + n))) ss.length i = sAt ss (hd (sl l a (a + n)))) → Wp G d 279 2 [some (vR (some m)), some (vI (a : Nat)), some (vI (n : Nat)), some (vI (i : Nat))] [] h Q := by
    intro m2
    induction m2 using Nat.strongRecOn with | ind m2 IH2 => ?_
    intro i hm2 hp
    refine w_iload_n d279_2 rfl ?_
    refine w_aload_n d279_3 rfl ?_
    refine w_getI (x := ((ss.length : Nat) : Int)) d279_4 (ok.kd hm) SR.1 ?_
    refine w_icmpge d279_7 (fun c7 => ?_) (fun c7 => ?_)
    · have sn : sAt ss (hd (sl l a (a + n))) = -1 := by rw [← hp, srF_end (by omega)]
      refine w_aload_n d279_44 rfl ?_
      refine w_getI (x := ((fs.length : Nat) : Int)) d279_45 (ok.kd hm) FC.1 ?_
      refine w_iconst d279_48 (by decide) ?_
      refine w_isub d279_49 (by constructor <;> omega) ?_
      refine w_istore3 d279_50 rfl ?_
      have L51 : ∀ (m51 : Nat) (j : Nat), j = m51 → (j ≤ fs.length) → (ltF (fun i => fN fs i == hd (sl l a (a + n))) j = ltF (fun i => fN fs i == hd (sl l a (a + n))) fs.length) → Wp G d 279 51 [some (vR (some m)), some (vI (a : Nat)), some (vI (n : Nat)), some (vI (((j : Nat) : Int) - 1))] [] h Q := by
        intro m51
        induction m51 using Nat.strongRecOn with | ind m51 IH51 => ?_
        intro j hm51 jl hq
        refine w_iload_n d279_51 rfl ?_
        refine w_iflt d279_52 (fun c52 => ?_) (fun c52 => ?_)
        · have j0 : j = 0 := by omega
          refine w_aload_n d279_89 rfl ?_
          refine w_iconst d279_90 (by decide) ?_
          have AT_p := AT
          refine wf1700 d279_91 ok hm (by omega) (fun h91 e91 m91 => ?_)
          have f91 : Fr S m [1700] _ _ := Fr.wF ok m91 (FK.pI e91)
          have ok91 := f91.ok
          have FR91 := Fr.le (F := [1700]) f91 (by decide)
          have AL := AL.r f91 hm
          have SR := SR.r f91 hm
          have FC := FC.r f91 hm
          have AT : AtR S h91 m f y (p) true := ⟨(f91.i 1698).trans AT_p.1, (f91.i 1699).trans AT_p.2.1, by rw [e91, FI_sFI, if_pos ⟨rfl, rfl⟩]; rfl⟩
          refine w_iconst d279_94 (by decide) ?_
          refine w_ireturn d279_95 ?_
          refine kk h91 true 0 FR91 AT (by decide) (Or.inr ⟨rfl, ?_⟩)
          unfold vOf
          rw [sn, if_neg (by decide), ← hq, j0, ltF, if_neg (by decide)]
          decide
        · have hj : j - 1 < fs.length := by omega
          obtain ⟨a2, n2, s1, s2, s3, s4, s5, s6, s7⟩ := FC.2.2 (j - 1) hj
          rw [show ((j : Nat) : Int) - 1 = ((j - 1 : Nat) : Int) by omega]
          have lf : ltF (fun i => fN fs i == hd (sl l a (a + n))) j = if (fN fs (j - 1) == hd (sl l a (a + n))) = true then ((j - 1 : Nat) : Int) else ltF (fun i => fN fs i == hd (sl l a (a + n))) (j - 1) := by
            obtain ⟨k, rfl⟩ : ∃ k, j = k + 1 := ⟨j - 1, by omega⟩
            rw [ltF]
            rfl
          refine w_aload_n d279_55 rfl ?_
          refine w_aload_n d279_56 rfl ?_
          refine w_dloadS d279_57 (ok.kd hm) (fr1694 ok hm) ?_
          refine w_iload_n d279_60 rfl ?_
          refine w_ialoadV (x := ((a2 : Nat) : Int)) d279_61 (gi1694 ok hm (by omega)) s1 ?_
          refine w_iload_n d279_62 rfl ?_
          refine w_aload_n d279_63 rfl ?_
          refine w_dloadS d279_64 (ok.kd hm) (fr1695 ok hm) ?_
          refine w_iload_n d279_67 rfl ?_
          refine w_ialoadV (x := ((n2 : Nat) : Int)) d279_68 (gi1695 ok hm (by omega)) s2 ?_
          refine w_iload_n d279_69 rfl ?_
          refine w_callv5 d279_70 (by omega) rfl (ok.kd hm) (by simp) (Nat.le_of_ble_eq_true rfl) ?_
          refine k_M_isSameName ok (by omega) hm AL s3 ha ?_
          refine w_ifeq d279_73 (fun c73 => ?_) (fun c73 => ?_)
          · have nq : ¬ (sl l a2 (a2 + n2) = sl l a (a + n)) := fun z => by rw [decide_eq_true z] at c73; exact absurd c73 (by decide)
            rw [if_neg (fun z => nq ((hd_inj s4 hok).mp (s5.symm.trans (beq_iff_eq.mp z))))] at lf
            refine w_iinc3 d279_83 rfl (by constructor <;> omega) ?_
            rw [show ((j - 1 : Nat) : Int) + (-1) = (((j - 1 : Nat) : Nat) : Int) - 1 by omega]
            refine w_goto d279_86 ?_
            refine w_less ?_ (IH51 _ (by omega) (j - 1) rfl (by omega) (lf.symm.trans hq))
            exact ⟨Or.inr rfl, Or.inr rfl, Or.inr rfl, Or.inr rfl, trivial⟩
          · have yq : sl l a2 (a2 + n2) = sl l a (a + n) := by
              by_cases z : sl l a2 (a2 + n2) = sl l a (a + n)
              · exact z
              · rw [decide_eq_false z] at c73; exact absurd rfl c73
            rw [if_pos (beq_iff_eq.mpr (s5.trans (congrArg hd yq)))] at lf
            refine w_aload_n d279_76 rfl ?_
            refine w_dloadS d279_77 (ok.kd hm) (fr1696 ok hm) ?_
            refine w_iload_n d279_80 rfl ?_
            refine w_ialoadV (x := ((fV fs (j - 1) : Nat) : Int)) d279_81 (gi1696 ok hm (by omega)) s6 ?_
            refine w_ireturn d279_82 ?_
            refine kk h w (fV fs (j - 1)) (Fr.refl ok) AT s7 (Or.inl ⟨rfl, ?_⟩)
            unfold vOf
            rw [sn, if_neg (by decide), show ltF (fun i => fN fs i == hd (sl l a (a + n))) fs.length = ((j - 1 : Nat) : Int) from hq.symm.trans lf, if_pos (by omega)]
            rfl
      refine w_less ?_ (L51 _ fs.length rfl (Nat.le_refl _) rfl)
      exact ⟨Or.inr rfl, Or.inr rfl, Or.inr rfl, Or.inr rfl, trivial⟩
    · have hi : i < ss.length := by omega
      obtain ⟨a2, n2, s1, s2, s3, s4, s5, s6, s7, s8⟩ := SR.2.2 i hi
      refine w_aload_n d279_10 rfl ?_
      refine w_aload_n d279_11 rfl ?_
      refine w_dloadS d279_12 (ok.kd hm) (fr1689 ok hm) ?_
      refine w_iload_n d279_15 rfl ?_
      refine w_ialoadV (x := ((a2 : Nat) : Int)) d279_16 (gi1689 ok hm (by omega)) s1 ?_
      refine w_iload_n d279_17 rfl ?_
      refine w_aload_n d279_18 rfl ?_
      refine w_dloadS d279_19 (ok.kd hm) (fr1690 ok hm) ?_
      refine w_iload_n d279_22 rfl ?_
      refine w_ialoadV (x := ((n2 : Nat) : Int)) d279_23 (gi1690 ok hm (by omega)) s2 ?_
      refine w_iload_n d279_24 rfl ?_
      refine w_callv5 d279_25 (by omega) rfl (ok.kd hm) (by simp) (Nat.le_of_ble_eq_true rfl) ?_
      refine k_M_isSameName ok (by omega) hm AL s3 ha ?_
      refine w_ifeq d279_28 (fun c28 => ?_) (fun c28 => ?_)
      · have nq : ¬ (sl l a2 (a2 + n2) = sl l a (a + n)) := fun z => by rw [decide_eq_true z] at c28; exact absurd c28 (by decide)
        have ff : (fun i => sN ss i == hd (sl l a (a + n))) i = false := beq_eq_false_iff_ne.mpr (fun z => nq ((hd_inj s4 hok).mp (s5.symm.trans z)))
        rw [srF_no hi ff] at hp
        refine w_iinc3 d279_38 rfl (by constructor <;> omega) ?_
        refine w_goto d279_41 ?_
        rw [show ((i : Nat) : Int) + 1 = ((i + 1 : Nat) : Int) by omega]
        refine w_less ?_ (IH2 _ (by omega) (i + 1) rfl hp)
        exact ⟨Or.inr rfl, Or.inr rfl, Or.inr rfl, Or.inr rfl, trivial⟩
      · have yq : sl l a2 (a2 + n2) = sl l a (a + n) := by
          by_cases z : sl l a2 (a2 + n2) = sl l a (a + n)
          · exact z
          · rw [decide_eq_false z] at c28; exact absurd rfl c28
        have ff : (fun i => sN ss i == hd (sl l a (a + n))) i = true := beq_iff_eq.mpr (s5.trans (congrArg hd yq))
        rw [srF_yes hi ff] at hp
        refine w_aload_n d279_31 rfl ?_
        refine w_dloadS d279_32 (ok.kd hm) (fr1691 ok hm) ?_
        refine w_iload_n d279_35 rfl ?_
        refine w_ialoadV (x := ((sV ss i : Nat) : Int)) d279_36 (gi1691 ok hm (by omega)) s6 ?_
        refine w_ireturn d279_37 ?_
        refine kk h w (sV ss i) (Fr.refl ok) AT s7 (Or.inl ⟨rfl, ?_⟩)
        unfold vOf
        rw [show sAt ss (hd (sl l a (a + n))) = (i : Int) from hp.symm, if_pos (by omega)]
        rfl
  refine w_less ?_ (L2 _ 0 rfl rfl)
  exact ⟨Or.inr rfl, Or.inr rfl, Or.inr rfl, Or.inr rfl, trivial⟩
theorem d278_0 : dc 278 0 = some (.aload_n 0, 1) := by decide +kernel
theorem d278_1 : dc 278 1 = some (.invokevirtual 273, 4) := by decide +kernel
theorem d278_4 : dc 278 4 = some (.bipush 48, 6) := by decide +kernel
theorem d278_6 : dc 278 6 = some (.bipush 57, 8) := by decide +kernel
theorem d278_8 : dc 278 8 = some (.invokevirtual 206, 11) := by decide +kernel
theorem d278_11 : dc 278 11 = some (.ifCond .eq ((23 : Nat) : Int), 14) := by decide +kernel
theorem d278_14 : dc 278 14 = some (.aload_n 0, 15) := by decide +kernel
theorem d278_15 : dc 278 15 = some (.invokevirtual 275, 18) := by decide +kernel
theorem d278_18 : dc 278 18 = some (.sipush 10000, 21) := by decide +kernel
theorem d278_21 : dc 278 21 = some (.irem, 22) := by decide +kernel
theorem d278_22 : dc 278 22 = some (.ireturn, 23) := by decide +kernel
theorem d278_23 : dc 278 23 = some (.aload_n 0, 24) := by decide +kernel
theorem d278_24 : dc 278 24 = some (.getfield 1698, 27) := by decide +kernel
theorem d278_27 : dc 278 27 = some (.istore_n 1, 28) := by decide +kernel
theorem d278_28 : dc 278 28 = some (.aload_n 0, 29) := by decide +kernel
theorem d278_29 : dc 278 29 = some (.invokevirtual 272, 32) := by decide +kernel
theorem d278_32 : dc 278 32 = some (.istore_n 2, 33) := by decide +kernel
theorem d278_33 : dc 278 33 = some (.aload_n 0, 34) := by decide +kernel
theorem d278_34 : dc 278 34 = some (.getfield 1700, 37) := by decide +kernel
theorem d278_37 : dc 278 37 = some (.ifCond .eq ((44 : Nat) : Int), 40) := by decide +kernel
theorem d278_40 : dc 278 40 = some (.iconst 0, 41) := by decide +kernel
theorem d278_41 : dc 278 41 = some (.goto ((50 : Nat) : Int), 44) := by decide +kernel
theorem d278_44 : dc 278 44 = some (.aload_n 0, 45) := by decide +kernel
theorem d278_45 : dc 278 45 = some (.iload_n 1, 46) := by decide +kernel
theorem d278_46 : dc 278 46 = some (.iload_n 2, 47) := by decide +kernel
theorem d278_47 : dc 278 47 = some (.invokevirtual 279, 50) := by decide +kernel
theorem d278_50 : dc 278 50 = some (.ireturn, 51) := by decide +kernel
theorem k_M_factor {S : Shp} {G : Nat → Option Nat} {d : Nat} {h : Hp} {Q : Option MV → Hp → Prop} {m : Nat} {f p : Nat} {y l : List Nat} {ss : List SrV} {fs : List FaV} (ok : Ok S h) (h1 : 3 ≤ d) (hm : sK S m = 14) (AT : AtR S h m f y (p + 1) false) (AL : AlR S h m l) (SR : SrM S h m l ss) (FC : FcM S h m l fs) (hy : Yin l f y) (hp : p + 1 ≤ y.length)
    (kk : ∀ h' q w' v, Fr S m [1698, 1700] h h' → AtR S h' m f y q w' → (p + 1 ≤ q ∧ q ≤ y.length) → v ≤ 9999 → ((w' = false ∧ q = rsA y p ∧ q ≠ p + 1 ∧ rsX ss fs y p = ((v : Nat) : Int)) ∨ (w' = true ∧ BadF ss fs y p)) → Q (some (vI ((v : Nat) : Int))) h') : Cl G d 278 [vR (some m)] h Q := by
  show Wp G d 278 0 [some (vR (some m)), none, none] [] h Q
  have AT_0 := AT
  have AL_0 := AL
  have SR_0 := SR
  have FC_0 := FC
  have l3 : l.length ≤ 3600 := by have sl := sLT ok (f := 1681) (n := 3600) hm (by decide) rfl (by decide); have := AL.2.2.1; omega
  refine w_aload_n d278_0 rfl ?_
  refine w_callv1 d278_1 (by omega) rfl (ok.kd hm) (by simp) (Nat.le_of_ble_eq_true rfl) ?_
  refine k_M_hereInLine ok (by omega) hm AT AL hy hp ?_
  refine w_bipush d278_4 (by decide) ?_
  refine w_bipush d278_6 (by decide) ?_
  refine w_calls3 d278_8 (by omega) rfl rfl (by simp) (Nat.le_of_ble_eq_true rfl) ?_
  refine k_M_in (by omega) ?_
  refine w_ifeq d278_11 (fun c11 => ?_) (fun c11 => ?_)
  · have nd : ¬ dgAt y (p + 1) := fun z => by rw [decide_eq_true (dig_at.mpr z)] at c11; exact absurd c11 (by decide)
    have n1 := num_no nd
    have ra : rsA y p = wordE y (p + 1) 8 48 := if_pos n1
    have rx : rsX ss fs y p = vOf ss fs (nameV y (p + 1) (wordE y (p + 1) 8 48)) := if_pos n1
    have wr := wordE_rg (l := y) (a := p + 1) (m := 8) (lo := 48) hp
    refine w_aload_n d278_23 rfl ?_
    refine w_getI (x := ((f + (p + 1) : Nat) : Int)) d278_24 (ok.kd hm) AT.1 ?_
    refine w_istore1 d278_27 rfl ?_
    refine w_aload_n d278_28 rfl ?_
    refine w_callv1 d278_29 (by omega) rfl (ok.kd hm) (by simp) (Nat.le_of_ble_eq_true rfl) ?_
    refine k_M_lineName ok (by omega) hm AT AL hy hp (fun h29 q29 w29 f29 AT aq29 ac29 => ?_)
    have ok29 := f29.ok
    have FR29 := Fr.le (F := [1698, 1700]) f29 (by decide)
    have AL := AL.r f29 hm
    have SR := SR.r f29 hm
    have FC := FC.r f29 hm
    refine w_istore2 d278_32 rfl ?_
    refine w_aload_n d278_33 rfl ?_
    refine w_getI (x := (b2i w29)) d278_34 (ok29.kd hm) AT.2.2 ?_
    refine w_ifeq d278_37 (fun c37 => ?_) (fun c37 => ?_)
    · have wf : w29 = false := by
        cases hz : w29 with
        | true => rw [hz] at c37; exact absurd c37 (by decide)
        | false => rfl
      have ag : q29 = wordE y (p + 1) 8 48 ∧ q29 ≠ p + 1 := by
        rcases ac29 with z | z
        · exact z.2
        · rw [wf] at z; exact absurd z.1 (by decide)
      subst wf
      have es := hy.sl (a := p + 1) (b := q29) aq29
      have oe : okN (sl l (f + (p + 1)) (f + (p + 1) + (q29 - (p + 1)))) := by rw [show f + (p + 1) + (q29 - (p + 1)) = f + q29 by omega, es, ag.1]; exact okN_word hp
      refine w_aload_n d278_44 rfl ?_
      refine w_iload_n d278_45 rfl ?_
      refine w_iload_n d278_46 rfl ?_
      refine w_callv3 d278_47 (by omega) rfl (ok29.kd hm) (by simp) (Nat.le_of_ble_eq_true rfl) ?_
      refine k_M_valueOf ok29 (by omega) hm AT AL SR FC (by have := hy.1; omega) oe (fun h47 w47 v47 f47 AT av47 ac47 => ?_)
      have ok47 := f47.ok
      have FR47 := Fr.tr (F := [1698, 1700]) FR29 f47 (by decide) (by decide)
      have AL := AL.r f47 hm
      have SR := SR.r f47 hm
      have FC := FC.r f47 hm
      refine w_ireturn d278_50 ?_
      refine kk h47 q29 w47 v47 FR47 AT aq29 av47 ?_
      rw [show f + (p + 1) + (q29 - (p + 1)) = f + q29 by omega, es, ag.1, ← hd_sl wr.2.1 wr.1, ← rx] at ac47
      rcases ac47 with z | z
      · exact Or.inl ⟨z.1, by rw [ra]; exact ag.1, ag.2, z.2⟩
      · exact Or.inr ⟨z.1, Or.inr (Or.inl z.2)⟩
    · have wt : w29 = true := by
        cases hz : w29 with
        | true => rfl
        | false => rw [hz] at c37; exact absurd rfl c37
      have bf : BadF ss fs y p := by
        rcases ac29 with z | z
        · rw [wt] at z; exact absurd z.1 (by decide)
        · rcases z.2 with z | z
          · exact Or.inl (ra.trans z)
          · exact Or.inr (Or.inr (by rw [ra]; exact z))
      refine w_iconst d278_40 (by decide) ?_
      refine w_goto d278_41 ?_
      refine w_ireturn d278_50 ?_
      exact kk h29 q29 w29 0 FR29 AT aq29 (by decide) (Or.inr ⟨wt, bf⟩)
  · have dg : p + 1 < y.length ∧ isDig (y.getD (p + 1) 0) = true := dig_at.mp (by
      by_cases z : (48 ≤ atv y ((p + 1 : Nat) : Nat) ∧ atv y ((p + 1 : Nat) : Nat) ≤ 57)
      · exact z
      · rw [decide_eq_false z] at c11; exact absurd rfl c11)
    refine w_aload_n d278_14 rfl ?_
    refine w_callv1 d278_15 (by omega) rfl (ok.kd hm) (by simp) (Nat.le_of_ble_eq_true rfl) ?_
    refine k_M_lineNumber ok (by omega) hm AT AL hy hp (fun h15 q15 w15 v15 f15 AT aq15 av15 ac15 => ?_)
    have ok15 := f15.ok
    have FR15 := Fr.le (F := [1698, 1700]) f15 (by decide)
    have AL := AL.r f15 hm
    have SR := SR.r f15 hm
    have FC := FC.r f15 hm
    refine w_sipush d278_18 (by decide) ?_
    refine w_irem d278_21 (by decide) ?_
    rw [show ((v15 : Nat) : Int).tmod 10000 = ((v15 % 10000 : Nat) : Int) from rfl, Nat.mod_eq_of_lt (by omega)]
    refine w_ireturn d278_22 ?_
    refine kk h15 q15 w15 v15 FR15 AT aq15 av15 ?_
    rcases ac15 with ⟨z1, z2, z3, z4⟩ | ⟨z1, z2⟩
    · have nn : ¬ numE y (p + 1) = p + 1 := by omega
      refine Or.inl ⟨z1, ?_, z3, ?_⟩
      · unfold rsA; rw [if_neg nn]; exact z2
      · unfold rsX; rw [if_neg nn, ← z2, ← z4]
    · refine Or.inr ⟨z1, ?_⟩
      by_cases nn : numE y (p + 1) = p + 1
      · exfalso
        have : p + 1 < numE y (p + 1) := by
          unfold numE
          split
          · rw [scan_go (n := 0) dg.1 dg.2]; exact Nat.lt_of_lt_of_le (Nat.lt_succ_self _) (scan_ge _ _ _ _)
          · rw [scan_go (n := 3) dg.1 dg.2]; exact Nat.lt_of_lt_of_le (Nat.lt_succ_self _) (scan_ge _ _ _ _)
        omega
      · refine Or.inr (Or.inr ?_)
        unfold rsA
        rw [if_neg nn]
        have := z2.resolve_left nn
        exact ⟨this.1, dig_later this.2⟩
theorem d277_0 : dc 277 0 = some (.aload_n 0, 1) := by decide +kernel
theorem d277_1 : dc 277 1 = some (.invokevirtual 278, 4) := by decide +kernel
theorem d277_4 : dc 277 4 = some (.istore_n 1, 5) := by decide +kernel
theorem d277_5 : dc 277 5 = some (.aload_n 0, 6) := by decide +kernel
theorem d277_6 : dc 277 6 = some (.getfield 1700, 9) := by decide +kernel
theorem d277_9 : dc 277 9 = some (.ifCond .ne ((45 : Nat) : Int), 12) := by decide +kernel
theorem d277_12 : dc 277 12 = some (.aload_n 0, 13) := by decide +kernel
theorem d277_13 : dc 277 13 = some (.invokevirtual 273, 16) := by decide +kernel
theorem d277_16 : dc 277 16 = some (.bipush 42, 18) := by decide +kernel
theorem d277_18 : dc 277 18 = some (.if_icmp .ne ((45 : Nat) : Int), 21) := by decide +kernel
theorem d277_21 : dc 277 21 = some (.aload_n 0, 22) := by decide +kernel
theorem d277_22 : dc 277 22 = some (.dup, 23) := by decide +kernel
theorem d277_23 : dc 277 23 = some (.getfield 1698, 26) := by decide +kernel
theorem d277_26 : dc 277 26 = some (.iconst 1, 27) := by decide +kernel
theorem d277_27 : dc 277 27 = some (.iadd, 28) := by decide +kernel
theorem d277_28 : dc 277 28 = some (.putfield 1698, 31) := by decide +kernel
theorem d277_31 : dc 277 31 = some (.iload_n 1, 32) := by decide +kernel
theorem d277_32 : dc 277 32 = some (.aload_n 0, 33) := by decide +kernel
theorem d277_33 : dc 277 33 = some (.invokevirtual 278, 36) := by decide +kernel
theorem d277_36 : dc 277 36 = some (.imul, 37) := by decide +kernel
theorem d277_37 : dc 277 37 = some (.sipush 10000, 40) := by decide +kernel
theorem d277_40 : dc 277 40 = some (.irem, 41) := by decide +kernel
theorem d277_41 : dc 277 41 = some (.istore_n 1, 42) := by decide +kernel
theorem d277_42 : dc 277 42 = some (.goto ((5 : Nat) : Int), 45) := by decide +kernel
theorem d277_45 : dc 277 45 = some (.iload_n 1, 46) := by decide +kernel
theorem d277_46 : dc 277 46 = some (.ireturn, 47) := by decide +kernel
theorem k_M_term {S : Shp} {G : Nat → Option Nat} {d : Nat} {h : Hp} {Q : Option MV → Hp → Prop} {m : Nat} {f p a n s q : Nat} {y l : List Nat} {ss : List SrV} {fs : List FaV} (ok : Ok S h) (h1 : 4 ≤ d) (hm : sK S m = 14) (AT : AtR S h m f y (p + 1) false) (AL : AlR S h m l) (SR : SrM S h m l ss) (FC : FcM S h m l fs) (hy : Yin l f y) (hp : p + 1 ≤ y.length) (hap : a ≤ p) (hop : (p = a ∧ atv y (a : Nat) ≠ 42) ∨ atv y (p : Nat) = 43) (hn : y.length - p < n)
    (kk : ∀ h' p2 w' v, Fr S m [1698, 1700] h h' → AtR S h' m f y p2 w' → (p + 1 ≤ p2 ∧ p2 ≤ y.length) → v ≤ 9999 → (TmI ss fs y a n p s q true p2 v w') → Q (some (vI ((v : Nat) : Int))) h') : Cl G d 277 [vR (some m)] h Q := by
  show Wp G d 277 0 [some (vR (some m)), none] [] h Q
  have AT_0 := AT
  have AL_0 := AL
  have SR_0 := SR
  have FC_0 := FC
  have l3 : l.length ≤ 3600 := by have sl := sLT ok (f := 1681) (n := 3600) hm (by decide) rfl (by decide); have := AL.2.2.1; omega
  have hyl := hy.1
  have n42 : atv y (p : Nat) ≠ 42 := by
    rcases hop with z | z
    · rw [z.1]; exact z.2
    · omega
  refine w_aload_n d277_0 rfl ?_
  refine w_callv1 d277_1 (by omega) rfl (ok.kd hm) (by simp) (Nat.le_of_ble_eq_true rfl) ?_
  refine k_M_factor ok (by omega) hm AT AL SR FC hy hp (fun h1 q1 w1 v1 f1 AT aq1 av1 ac1 => ?_)
  have ok1 := f1.ok
  have FR1 := Fr.le (F := [1698, 1700]) f1 (by decide)
  have AL := AL.r f1 hm
  have SR := SR.r f1 hm
  have FC := FC.r f1 hm
  have i1 : TmI ss fs y a n p s q false q1 v1 w1 := by
    rcases ac1 with ⟨z1, z2, z3, z4⟩ | ⟨z1, z2⟩
    · refine Or.inl ⟨z1, by omega, (fun z => absurd z (by decide)), n - 1, by omega, ?_⟩
      rw [rsG_add (by omega) (by omega) (by
        rintro (c | c | c)
        · omega
        · omega
        · rcases hop with u | u
          · exact c.1 u.1
          · exact c.2.1 u) n42, ← z2, z4]
      rfl
    · exact Or.inr ⟨z1, z2.bad (by omega) hap (by omega)⟩
  refine w_istore1 d277_4 rfl ?_
  have L5 : ∀ (m5 : Nat) (g : Hp) (p2 v : Nat) (w : Bool), y.length - p2 = m5 → Fr S m [1698, 1700] h g → (p + 1 ≤ p2 ∧ p2 ≤ y.length) → (v ≤ 9999) → (AtR S g m f y p2 w) → (TmI ss fs y a n p s q false p2 v w) → Wp G d 277 5 [some (vR (some m)), some (vI (v : Nat))] [] g Q := by
    intro m5
    induction m5 using Nat.strongRecOn with | ind m5 IH5 => ?_
    intro g p2 v w hm5 FRg pl vl AT iv
    have okg := FRg.ok
    have AL := AL_0.r FRg hm
    have SR := SR_0.r FRg hm
    have FC := FC_0.r FRg hm
    refine w_aload_n d277_5 rfl ?_
    refine w_getI (x := (b2i w)) d277_6 (okg.kd hm) AT.2.2 ?_
    refine w_ifne d277_9 (fun c9 => ?_) (fun c9 => ?_)
    · have wt : w = true := by
        cases hz : w with
        | true => rfl
        | false => rw [hz] at c9; exact absurd rfl c9
      refine w_iload_n d277_45 rfl ?_
      refine w_ireturn d277_46 ?_
      first | exact kk g p2 w v FRg AT pl vl (Or.inr (iv.resolve_left (fun z => by rw [wt] at z; exact absurd z.1 (by decide)))) | exact kk g p2 false v FRg AT pl vl (Or.inl ⟨rfl, pp, fun _ => by omega, n2, nl, rg⟩)
    · have wf : w = false := by
        cases hz : w with
        | true => rw [hz] at c9; exact absurd c9 (by decide)
        | false => rfl
      have ig : p < p2 ∧ ∃ n2, y.length - p2 < n2 ∧ rsG ss fs y y.length a n p s q = rsG ss fs y y.length a n2 p2 ((s + q) % 10000) v := by
        rcases iv with z | z
        · exact ⟨z.2.1, z.2.2.2⟩
        · rw [wf] at z; exact absurd z.1 (by decide)
      obtain ⟨pp, n2, nl, rg⟩ := ig
      subst wf
      refine w_aload_n d277_12 rfl ?_
      refine w_callv1 d277_13 (by omega) rfl (okg.kd hm) (by simp) (Nat.le_of_ble_eq_true rfl) ?_
      refine k_M_hereInLine okg (by omega) hm AT AL hy pl.2 ?_
      refine w_bipush d277_16 (by decide) ?_
      refine w_icmpne d277_18 (fun c18 => ?_) (fun c18 => ?_)
      · refine w_iload_n d277_45 rfl ?_
        refine w_ireturn d277_46 ?_
        first | exact kk g p2 w v FRg AT pl vl (Or.inr (iv.resolve_left (fun z => by rw [wt] at z; exact absurd z.1 (by decide)))) | exact kk g p2 false v FRg AT pl vl (Or.inl ⟨rfl, pp, fun _ => by omega, n2, nl, rg⟩)
      · have e42 : atv y (p2 : Nat) = 42 := by omega
        have pl2 : p2 < y.length := by
          rw [atvI] at e42
          by_cases z : p2 < y.length
          · exact z
          · rw [if_neg z] at e42; omega
        refine w_aload_n d277_21 rfl ?_
        refine w_dupR d277_22 ?_
        refine w_getI (x := ((f + p2 : Nat) : Int)) d277_23 (okg.kd hm) AT.1 ?_
        refine w_iconst d277_26 (by decide) ?_
        refine w_iadd d277_27 (by constructor <;> omega) ?_
        have AT_p := AT
        refine wf1698 d277_28 okg hm (by omega) (fun h28 e28 m28 => ?_)
        have f28 : Fr S m [1698] _ _ := Fr.wF okg m28 (FK.pI e28)
        have ok28 := f28.ok
        have FR28 := Fr.tr (F := [1698, 1700]) FRg f28 (by decide) (by decide)
        have AL := AL.r f28 hm
        have SR := SR.r f28 hm
        have FC := FC.r f28 hm
        have AT : AtR S h28 m f y (p2 + 1) false := ⟨by rw [e28, FI_sFI, if_pos ⟨rfl, rfl⟩]; omega, (f28.i 1699).trans AT_p.2.1, (f28.i 1700).trans AT_p.2.2⟩
        refine w_iload_n d277_31 rfl ?_
        refine w_aload_n d277_32 rfl ?_
        refine w_callv1 d277_33 (by omega) rfl (ok28.kd hm) (by simp) (Nat.le_of_ble_eq_true rfl) ?_
        refine k_M_factor ok28 (by omega) hm AT AL SR FC hy pl2 (fun h33 q33 w33 v33 f33 AT aq33 av33 ac33 => ?_)
        have ok33 := f33.ok
        have FR33 := Fr.tr (F := [1698, 1700]) FR28 f33 (by decide) (by decide)
        have AL := AL.r f33 hm
        have SR := SR.r f33 hm
        have FC := FC.r f33 hm
        have mb : v * v33 ≤ 9999 * 9999 := Nat.mul_le_mul vl av33
        refine w_imul d277_36 (by rw [← Int.natCast_mul]; constructor <;> omega) ?_
        rw [← Int.natCast_mul]
        refine w_sipush d277_37 (by decide) ?_
        refine w_irem d277_40 (by decide) ?_
        rw [show ((v * v33 : Nat) : Int).tmod 10000 = ((v * v33 % 10000 : Nat) : Int) from rfl]
        refine w_istore1 d277_41 rfl ?_
        refine w_goto d277_42 ?_
        have i2 : TmI ss fs y a n p s q false q33 (v * v33 % 10000) w33 := by
          rcases ac33 with ⟨z1, z2, z3, z4⟩ | ⟨z1, z2⟩
          · refine Or.inl ⟨z1, by omega, (fun z => absurd z (by decide)), n2 - 1, by omega, ?_⟩
            rw [rg, rsG_mul (by omega) pl2 (by
              rintro (c | c | c)
              · omega
              · omega
              · exact c.2.2 e42) e42, ← z2, z4]
            rfl
          · exact Or.inr ⟨z1, by rw [rg]; exact z2.bad pl2 (by omega) (by omega)⟩
        refine w_less ?_ (IH5 _ (by omega) h33 q33 (v * v33 % 10000) w33 rfl FR33 ⟨by omega, aq33.2⟩ (by omega) AT i2)
        exact ⟨Or.inr rfl, Or.inr rfl, trivial⟩
  refine w_less ?_ (L5 _ h1 q1 v1 w1 rfl FR1 aq1 av1 AT i1)
  exact ⟨Or.inr rfl, Or.inr rfl, trivial⟩
