/-! the reference: a request's rule; circles -/
theorem knm_inj : ∀ i j : Fin 8, knm i.val = knm j.val → i = j := by decide +kernel
theorem rix_hit {n : List Nat} {r : Nat} (hr : r < 8) (e : knm r = n) : rix n = (r : Int) := by
  have g : ∀ k, k ≤ 8 → r < k → rixK n k = (r : Int) := fun k => by
    induction k with
    | zero => intro _ h; omega
    | succ k ih =>
      intro h8 h
      rw [rixK]
      by_cases q : knm k = n
      · have e := congrArg Fin.val (knm_inj ⟨k, by omega⟩ ⟨r, hr⟩ (q.trans e.symm))
        have e : k = r := e
        rw [if_pos q, e]
      · rw [if_neg q]
        exact ih (by omega) (by rcases Nat.lt_or_ge r k with z | z; exact z; rw [show k = r by omega] at q; exact absurd e q)
  exact g 8 (Nat.le_refl _) hr
theorem rix_no {n : List Nat} (h : ∀ j, j < 8 → knm j ≠ n) : rix n = -1 := by
  have g : ∀ k, k ≤ 8 → rixK n k = -1 := fun k => by
    induction k with
    | zero => intro _; rfl
    | succ k ih => intro h8; rw [rixK, if_neg (h k (by omega))]; exact ih (by omega)
  exact g 8 (Nat.le_refl _)
theorem tat_neg {ts : List (Bool × TgV)} {n : List Nat} (h : tix ts n < 0) : tat ts n = -1 := by unfold tat ifH; rw [if_neg (fun z => by omega)]
theorem tat_no {ts : List (Bool × TgV)} {n : List Nat} {j : Nat} (h : tix ts n = (j : Int)) (h2 : tH ts j = false) : tat ts n = -1 := by
  unfold tat ifH
  rw [h, if_neg (fun z => by rw [Int.toNat_natCast, h2] at z; exact absurd z.2 (by decide))]
theorem tat_yes {ts : List (Bool × TgV)} {n : List Nat} {j : Nat} (h : tix ts n = (j : Int)) (h2 : tH ts j = true) : tat ts n = (j : Int) := by
  unfold tat ifH
  rw [h, if_pos ⟨by omega, by rw [Int.toNat_natCast]; exact h2⟩]
/-- what the signs of an area are -/
theorem SgC.any {S : Shp} {h : Hp} {m f e : Nat} (ok : Ok S h) (hm : sK S m = 14) (h1 : f ≤ e) (h2 : e ≤ 20020) : ∃ n, f + n.length = e ∧ SgC S h (sT S 1730 m) f n := by
  have sl := sLT ok (f := 1730) (n := 20020) hm (by decide) rfl (by decide)
  refine ⟨(List.range (e - f)).map (fun i => (AI h (sT S 1730 m) (f + i)).toNat), by simp; omega, kT1730 ok hm, by simp; omega, by omega, fun i hi => ?_⟩
  simp at hi
  have rc := ra1730 ok hm (f + i)
  rw [List.getD_eq_getElem?_getD, List.getElem?_eq_getElem (by simp; omega)]
  simp
  omega
theorem d227_0 : dc 227 0 = some (.iconst 0, 1) := by decide +kernel
theorem d227_1 : dc 227 1 = some (.istore_n 1, 2) := by decide +kernel
theorem d227_2 : dc 227 2 = some (.iconst 0, 3) := by decide +kernel
theorem d227_3 : dc 227 3 = some (.istore_n 2, 4) := by decide +kernel
theorem d227_4 : dc 227 4 = some (.iload_n 1, 5) := by decide +kernel
theorem d227_5 : dc 227 5 = some (.getstatic 92, 7) := by decide +kernel
theorem d227_7 : dc 227 7 = some (.invokevirtual 21, 10) := by decide +kernel
theorem d227_10 : dc 227 10 = some (.if_icmp .ge ((114 : Nat) : Int), 13) := by decide +kernel
theorem d227_13 : dc 227 13 = some (.getstatic 92, 15) := by decide +kernel
theorem d227_15 : dc 227 15 = some (.bipush 32, 17) := by decide +kernel
theorem d227_17 : dc 227 17 = some (.iload_n 1, 18) := by decide +kernel
theorem d227_18 : dc 227 18 = some (.invokevirtual 199, 21) := by decide +kernel
theorem d227_21 : dc 227 21 = some (.istore_n 3, 22) := by decide +kernel
theorem d227_22 : dc 227 22 = some (.iload_n 3, 23) := by decide +kernel
theorem d227_23 : dc 227 23 = some (.iload_n 1, 24) := by decide +kernel
theorem d227_24 : dc 227 24 = some (.isub, 25) := by decide +kernel
theorem d227_25 : dc 227 25 = some (.aload_n 0, 26) := by decide +kernel
theorem d227_26 : dc 227 26 = some (.getfield 1749, 29) := by decide +kernel
theorem d227_29 : dc 227 29 = some (.aload_n 0, 30) := by decide +kernel
theorem d227_30 : dc 227 30 = some (.getfield 1748, 33) := by decide +kernel
theorem d227_33 : dc 227 33 = some (.isub, 34) := by decide +kernel
theorem d227_34 : dc 227 34 = some (.if_icmp .ne ((41 : Nat) : Int), 37) := by decide +kernel
theorem d227_37 : dc 227 37 = some (.iconst 1, 38) := by decide +kernel
theorem d227_38 : dc 227 38 = some (.goto ((42 : Nat) : Int), 41) := by decide +kernel
theorem d227_41 : dc 227 41 = some (.iconst 0, 42) := by decide +kernel
theorem d227_42 : dc 227 42 = some (.istore 4, 44) := by decide +kernel
theorem d227_44 : dc 227 44 = some (.iconst 0, 45) := by decide +kernel
theorem d227_45 : dc 227 45 = some (.istore 5, 47) := by decide +kernel
theorem d227_47 : dc 227 47 = some (.iload 5, 49) := by decide +kernel
theorem d227_49 : dc 227 49 = some (.iload_n 3, 50) := by decide +kernel
theorem d227_50 : dc 227 50 = some (.iload_n 1, 51) := by decide +kernel
theorem d227_51 : dc 227 51 = some (.isub, 52) := by decide +kernel
theorem d227_52 : dc 227 52 = some (.if_icmp .ge ((97 : Nat) : Int), 55) := by decide +kernel
theorem d227_55 : dc 227 55 = some (.iload 4, 57) := by decide +kernel
theorem d227_57 : dc 227 57 = some (.ifCond .eq ((97 : Nat) : Int), 60) := by decide +kernel
theorem d227_60 : dc 227 60 = some (.aload_n 0, 61) := by decide +kernel
theorem d227_61 : dc 227 61 = some (.dload 1730, 64) := by decide +kernel
theorem d227_64 : dc 227 64 = some (.aload_n 0, 65) := by decide +kernel
theorem d227_65 : dc 227 65 = some (.getfield 1748, 68) := by decide +kernel
theorem d227_68 : dc 227 68 = some (.iload 5, 70) := by decide +kernel
theorem d227_70 : dc 227 70 = some (.iadd, 71) := by decide +kernel
theorem d227_71 : dc 227 71 = some (.iaload, 72) := by decide +kernel
theorem d227_72 : dc 227 72 = some (.getstatic 92, 74) := by decide +kernel
theorem d227_74 : dc 227 74 = some (.iload_n 1, 75) := by decide +kernel
theorem d227_75 : dc 227 75 = some (.iload 5, 77) := by decide +kernel
theorem d227_77 : dc 227 77 = some (.iadd, 78) := by decide +kernel
theorem d227_78 : dc 227 78 = some (.invokevirtual 24, 81) := by decide +kernel
theorem d227_81 : dc 227 81 = some (.if_icmp .ne ((88 : Nat) : Int), 84) := by decide +kernel
theorem d227_84 : dc 227 84 = some (.iconst 1, 85) := by decide +kernel
theorem d227_85 : dc 227 85 = some (.goto ((89 : Nat) : Int), 88) := by decide +kernel
theorem d227_88 : dc 227 88 = some (.iconst 0, 89) := by decide +kernel
theorem d227_89 : dc 227 89 = some (.istore 4, 91) := by decide +kernel
theorem d227_91 : dc 227 91 = some (.iinc 5 1, 94) := by decide +kernel
theorem d227_94 : dc 227 94 = some (.goto ((47 : Nat) : Int), 97) := by decide +kernel
theorem d227_97 : dc 227 97 = some (.iload 4, 99) := by decide +kernel
theorem d227_99 : dc 227 99 = some (.ifCond .eq ((104 : Nat) : Int), 102) := by decide +kernel
theorem d227_102 : dc 227 102 = some (.iload_n 2, 103) := by decide +kernel
theorem d227_103 : dc 227 103 = some (.ireturn, 104) := by decide +kernel
theorem d227_104 : dc 227 104 = some (.iload_n 3, 105) := by decide +kernel
theorem d227_105 : dc 227 105 = some (.iconst 1, 106) := by decide +kernel
theorem d227_106 : dc 227 106 = some (.iadd, 107) := by decide +kernel
theorem d227_107 : dc 227 107 = some (.istore_n 1, 108) := by decide +kernel
theorem d227_108 : dc 227 108 = some (.iinc 2 1, 111) := by decide +kernel
theorem d227_111 : dc 227 111 = some (.goto ((4 : Nat) : Int), 114) := by decide +kernel
theorem d227_114 : dc 227 114 = some (.iconst (-1), 115) := by decide +kernel
theorem d227_115 : dc 227 115 = some (.ireturn, 116) := by decide +kernel
theorem k_M_ruleOf {S : Shp} {G : Nat → Option Nat} {d : Nat} {h : Hp} {Q : Option MV → Hp → Prop} {m : Nat} {rf rt : Nat} {n : List Nat} (ok : Ok S h) (h1 : 8 ≤ d) (hm : sK S m = 14) (RU : RuR h m rf rt) (tg : Tg S G) (sr : SgC S h (sT S 1730 m) rf n) (hr : rf + n.length = rt)
    (kk : Q (some (vI (rix n))) h) : Cl G d 227 [vR (some m)] h Q := by
  show Wp G d 227 0 [some (vR (some m)), none, none, none, none, none] [] h Q
  have RU_0 := RU
  have sb := sr.2.1
  have sb2 := sr.2.2.1
  refine w_iconst d227_0 (by decide) ?_
  refine w_istore1 d227_1 rfl ?_
  refine w_iconst d227_2 (by decide) ?_
  refine w_istore2 d227_3 rfl ?_
  have L4 : ∀ (m4 : Nat) (r : Nat), 8 - r = m4 → (r ≤ 8) → (∀ j, j < r → knm j ≠ n) → Wp G d 227 4 [some (vR (some m)), some (vI (nmP.getD r 0 : Nat)), some (vI (r : Nat)), none, none, none] [] h Q := by
    intro m4
    induction m4 using Nat.strongRecOn with | ind m4 IH4 => ?_
    intro r hm4 r8 hno
    refine w_iload_n d227_4 rfl ?_
    obtain ⟨g5, v5, s5⟩ := tg.al ok 42 (by decide)
    refine w_getstaticS d227_5 v5 ?_
    refine w_callv1 d227_7 (by omega) rfl (s5 _ ok).1 (by simp) (Nat.le_of_ble_eq_true rfl) ?_
    refine c_Str_length (by omega) (s5 _ ok) ?_
    rw [txt42]
    refine w_icmpge d227_10 (fun c10 => ?_) (fun c10 => ?_)
    · have e8 : r = 8 := by
        rcases Nat.lt_or_ge r 8 with z | z
        · have g := (nmP_go ⟨r, z⟩).2.2.1
          have g2 : nmP.getD (r + 1) 0 ≤ 47 := (nmP_go ⟨r, z⟩).2.1
          have g : nmP.getD r 0 + (knm r).length + 1 = nmP.getD (r + 1) 0 := g
          omega
        · omega
      rw [e8] at hno
      refine w_iconst d227_114 (by decide) ?_
      refine w_ireturn d227_115 ?_
      rw [rix_no hno] at kk
      exact kk
    · have h8 : r < 8 := by
        rcases Nat.lt_or_ge r 8 with z | z
        · exact z
        · rw [show r = 8 by omega] at c10; exact absurd c10 (by decide)
      obtain ⟨q1, q2, q3, q4⟩ := nmP_go ⟨r, h8⟩
      have at_ := fun i hi => nmP_at ⟨r, h8⟩ ⟨i, hi⟩
      change idxF (txt 42) 32 (txt 42).length (nmP.getD r 0) = ((nmP.getD (r + 1) 0 : Nat) : Int) - 1 at q1
      change nmP.getD (r + 1) 0 ≤ 47 at q2
      change nmP.getD r 0 + (knm r).length + 1 = nmP.getD (r + 1) 0 at q3
      change (knm r).length ≤ 8 at q4
      change ∀ i, i < 9 → (i < (knm r).length → (txt 42).getD (nmP.getD r 0 + i) 0 = (knm r).getD i 0 ∧ (knm r).getD i 0 ≠ 32 ∧ (knm r).getD i 0 < 128) ∧ (i = (knm r).length → (txt 42).getD (nmP.getD r 0 + i) 0 = 32) at at_
      obtain ⟨g13, v13, s13⟩ := tg.al ok 42 (by decide)
      refine w_getstaticS d227_13 v13 ?_
      refine w_bipush d227_15 (by decide) ?_
      refine w_iload_n d227_17 rfl ?_
      refine w_callv3 d227_18 (by omega) rfl (s13 _ ok).1 (by simp) (Nat.le_of_ble_eq_true rfl) ?_
      refine c_Str_indexOf (c := 32) (f := nmP.getD r 0) (by omega) (by omega) (s13 _ ok) ?_
      rw [q1]
      rw [show ((nmP.getD (r + 1) 0 : Nat) : Int) - 1 = ((nmP.getD r 0 + (knm r).length : Nat) : Int) by omega]
      refine w_istore3 d227_21 rfl ?_
      have L47 : ∀ (m47 : Nat) (k : Nat) (b : Bool), (knm r).length - k = m47 → (k ≤ (knm r).length) → (b = true ↔ n.length = (knm r).length ∧ ∀ j, j < k → n.getD j 0 = (knm r).getD j 0) → Wp G d 227 47 [some (vR (some m)), some (vI (nmP.getD r 0 : Nat)), some (vI (r : Nat)), some (vI (nmP.getD r 0 + (knm r).length : Nat)), some (vI (b2i b)), some (vI (k : Nat))] [] h Q := by
        intro m47
        induction m47 using Nat.strongRecOn with | ind m47 IH47 => ?_
        intro k b hm47 kl iff
        refine w_iload d227_47 rfl ?_
        refine w_iload_n d227_49 rfl ?_
        refine w_iload_n d227_50 rfl ?_
        refine w_isub d227_51 (by constructor <;> omega) ?_
        refine w_icmpge d227_52 (fun c52 => ?_) (fun c52 => ?_)
        · have ek : k = (knm r).length := by omega
          refine w_iload d227_97 rfl ?_
          refine w_ifeq d227_99 (fun c99 => ?_) (fun c99 => ?_)
          · have bf : b = false := by
              cases hz : b with
              | true => rw [hz] at c99; exact absurd c99 (by decide)
              | false => rfl
            have nx : knm r ≠ n := fun z => by rw [iff.mpr ⟨by rw [z], fun j _ => by rw [z]⟩] at bf; exact absurd bf (by decide)
            refine w_iload_n d227_104 rfl ?_
            refine w_iconst d227_105 (by decide) ?_
            refine w_iadd d227_106 (by constructor <;> omega) ?_
            refine w_istore1 d227_107 rfl ?_
            refine w_iinc2 d227_108 rfl (by constructor <;> omega) ?_
            refine w_goto d227_111 ?_
            rw [show ((nmP.getD r 0 + (knm r).length : Nat) : Int) + 1 = ((nmP.getD (r + 1) 0 : Nat) : Int) by omega]
            rw [show ((r : Nat) : Int) + 1 = ((r + 1 : Nat) : Int) by omega]
            refine w_less ?_ (IH4 _ (by omega) (r + 1) rfl (by omega) (fun j hj => by rcases Nat.lt_or_ge j r with z | z; exact hno j z; rw [show j = r by omega]; exact nx))
            exact ⟨Or.inr rfl, Or.inr rfl, Or.inr rfl, Or.inl rfl, Or.inl rfl, Or.inl rfl, trivial⟩
          · have bt : b = true := by
              cases hz : b with
              | true => rfl
              | false => rw [hz] at c99; exact absurd rfl c99
            have ib := iff.mp bt
            have en : knm r = n := by
              refine List.ext_getElem ib.1.symm (fun j j1 j2 => ?_)
              have y := ib.2 j (by omega)
              rw [List.getD_eq_getElem?_getD, List.getD_eq_getElem?_getD, List.getElem?_eq_getElem j1, List.getElem?_eq_getElem j2] at y
              exact y.symm
            refine w_iload_n d227_102 rfl ?_
            refine w_ireturn d227_103 ?_
            rw [rix_hit h8 en] at kk
            exact kk
        · have hk : k < (knm r).length := by omega
          refine w_iload d227_55 rfl ?_
          refine w_ifeq d227_57 (fun c57 => ?_) (fun c57 => ?_)
          · have bf : b = false := by
              cases hz : b with
              | true => rw [hz] at c57; exact absurd c57 (by decide)
              | false => rfl
            refine w_iload d227_97 rfl ?_
            refine w_ifeq d227_99 (fun c99 => ?_) (fun c99 => ?_)
            · have nx : knm r ≠ n := fun z => by rw [iff.mpr ⟨by rw [z], fun j _ => by rw [z]⟩] at bf; exact absurd bf (by decide)
              refine w_iload_n d227_104 rfl ?_
              refine w_iconst d227_105 (by decide) ?_
              refine w_iadd d227_106 (by constructor <;> omega) ?_
              refine w_istore1 d227_107 rfl ?_
              refine w_iinc2 d227_108 rfl (by constructor <;> omega) ?_
              refine w_goto d227_111 ?_
              rw [show ((nmP.getD r 0 + (knm r).length : Nat) : Int) + 1 = ((nmP.getD (r + 1) 0 : Nat) : Int) by omega]
              rw [show ((r : Nat) : Int) + 1 = ((r + 1 : Nat) : Int) by omega]
              refine w_less ?_ (IH4 _ (by omega) (r + 1) rfl (by omega) (fun j hj => by rcases Nat.lt_or_ge j r with z | z; exact hno j z; rw [show j = r by omega]; exact nx))
              exact ⟨Or.inr rfl, Or.inr rfl, Or.inr rfl, Or.inl rfl, Or.inl rfl, Or.inl rfl, trivial⟩
            · rw [bf] at c99; exact absurd rfl c99
          · have bt : b = true := by
              cases hz : b with
              | true => rfl
              | false => rw [hz] at c57; exact absurd rfl c57
            have ib := iff.mp bt
            have hk2 : k < n.length := by omega
            obtain ⟨y1, y2, y3⟩ := (at_ k (by omega)).1 hk
            have rc := ra1730 ok hm (rf + k)
            refine w_aload_n d227_60 rfl ?_
            refine w_dloadS d227_61 (ok.kd hm) (fr1730 ok hm) ?_
            refine w_aload_n d227_64 rfl ?_
            refine w_getI (x := ((rf : Nat) : Int)) d227_65 (ok.kd hm) RU.1 ?_
            refine w_iload d227_68 rfl ?_
            refine w_iadd d227_70 (by constructor <;> omega) ?_
            refine w_ialoadV (x := ((n.getD k 0 : Nat) : Int)) d227_71 (sr.g ok hk2) (sr.at hk2) ?_
            obtain ⟨g72, v72, s72⟩ := tg.al ok 42 (by decide)
            refine w_getstaticS d227_72 v72 ?_
            refine w_iload_n d227_74 rfl ?_
            refine w_iload d227_75 rfl ?_
            refine w_iadd d227_77 (by constructor <;> omega) ?_
            rw [show ((nmP.getD r 0 : Nat) : Int) + ((k : Nat) : Int) = ((nmP.getD r 0 + k : Nat) : Int) by omega]
            refine w_callv2 d227_78 (by omega) rfl (s72 _ ok).1 (by simp) (Nat.le_of_ble_eq_true rfl) ?_
            refine r_charAtN (S := S) (i := nmP.getD r 0 + k) (by omega) (s72 _ ok) (by rw [txt42]; omega) ?_
            rw [y1]
            refine w_icmpne d227_81 (fun c81 => ?_) (fun c81 => ?_)
            · have eb : (0 : Int) = b2i false := rfl
              have iff1 : false = true ↔ n.length = (knm r).length ∧ ∀ j, j < k + 1 → n.getD j 0 = (knm r).getD j 0 := ⟨fun z => absurd z (by decide), fun z => by have := z.2 k (by omega); omega⟩
              refine w_iconst d227_88 (by decide) ?_
              refine w_istore4 d227_89 rfl ?_
              refine w_iinc5 d227_91 rfl (by constructor <;> omega) ?_
              refine w_goto d227_94 ?_
              rw [show ((k : Nat) : Int) + 1 = ((k + 1 : Nat) : Int) by omega]
              rw [eb]
              refine w_less ?_ (IH47 _ (by omega) (k + 1) _ rfl (by omega) iff1)
              exact ⟨Or.inr rfl, Or.inr rfl, Or.inr rfl, Or.inr rfl, Or.inr rfl, Or.inr rfl, trivial⟩
            · have eb : (1 : Int) = b2i true := rfl
              have iff1 : true = true ↔ n.length = (knm r).length ∧ ∀ j, j < k + 1 → n.getD j 0 = (knm r).getD j 0 := ⟨fun _ => ⟨ib.1, fun j hj => by rcases Nat.lt_or_ge j k with z | z; exact ib.2 j z; rw [show j = k by omega]; omega⟩, fun _ => rfl⟩
              refine w_iconst d227_84 (by decide) ?_
              refine w_goto d227_85 ?_
              refine w_istore4 d227_89 rfl ?_
              refine w_iinc5 d227_91 rfl (by constructor <;> omega) ?_
              refine w_goto d227_94 ?_
              rw [show ((k : Nat) : Int) + 1 = ((k + 1 : Nat) : Int) by omega]
              rw [eb]
              refine w_less ?_ (IH47 _ (by omega) (k + 1) _ rfl (by omega) iff1)
              exact ⟨Or.inr rfl, Or.inr rfl, Or.inr rfl, Or.inr rfl, Or.inr rfl, Or.inr rfl, trivial⟩
      refine w_iload_n d227_22 rfl ?_
      refine w_iload_n d227_23 rfl ?_
      refine w_isub d227_24 (by constructor <;> omega) ?_
      refine w_aload_n d227_25 rfl ?_
      refine w_getI (x := ((rt : Nat) : Int)) d227_26 (ok.kd hm) RU.2 ?_
      refine w_aload_n d227_29 rfl ?_
      refine w_getI (x := ((rf : Nat) : Int)) d227_30 (ok.kd hm) RU.1 ?_
      refine w_isub d227_33 (by constructor <;> omega) ?_
      refine w_icmpne d227_34 (fun c34 => ?_) (fun c34 => ?_)
      · have eb : (0 : Int) = b2i false := rfl
        have iff0 : false = true ↔ n.length = (knm r).length ∧ ∀ j, j < 0 → n.getD j 0 = (knm r).getD j 0 := ⟨fun z => absurd z (by decide), fun z => by omega⟩
        refine w_iconst d227_41 (by decide) ?_
        refine w_istore4 d227_42 rfl ?_
        refine w_iconst d227_44 (by decide) ?_
        refine w_istore5 d227_45 rfl ?_
        rw [eb]
        refine w_less ?_ (L47 _ 0 _ rfl (Nat.zero_le _) iff0)
        exact ⟨Or.inr rfl, Or.inr rfl, Or.inr rfl, Or.inr rfl, Or.inr rfl, Or.inr rfl, trivial⟩
      · have eb : (1 : Int) = b2i true := rfl
        have iff0 : true = true ↔ n.length = (knm r).length ∧ ∀ j, j < 0 → n.getD j 0 = (knm r).getD j 0 := ⟨fun _ => ⟨by omega, fun j hj => absurd hj (Nat.not_lt_zero _)⟩, fun _ => rfl⟩
        refine w_iconst d227_37 (by decide) ?_
        refine w_goto d227_38 ?_
        refine w_istore4 d227_42 rfl ?_
        refine w_iconst d227_44 (by decide) ?_
        refine w_istore5 d227_45 rfl ?_
        rw [eb]
        refine w_less ?_ (L47 _ 0 _ rfl (Nat.zero_le _) iff0)
        exact ⟨Or.inr rfl, Or.inr rfl, Or.inr rfl, Or.inr rfl, Or.inr rfl, Or.inr rfl, trivial⟩
  refine w_less ?_ (L4 _ 0 rfl (by decide) (fun j hj => absurd hj (Nat.not_lt_zero _)))
  exact ⟨Or.inr rfl, Or.inr rfl, Or.inr rfl, Or.inl rfl, Or.inl rfl, Or.inl rfl, trivial⟩
theorem d221_0 : dc 221 0 = some (.aload_n 0, 1) := by decide +kernel
theorem d221_1 : dc 221 1 = some (.aload_n 0, 2) := by decide +kernel
theorem d221_2 : dc 221 2 = some (.getfield 1742, 5) := by decide +kernel
theorem d221_5 : dc 221 5 = some (.aload_n 0, 6) := by decide +kernel
theorem d221_6 : dc 221 6 = some (.getfield 1743, 9) := by decide +kernel
theorem d221_9 : dc 221 9 = some (.invokevirtual 222, 12) := by decide +kernel
theorem d221_12 : dc 221 12 = some (.istore_n 1, 13) := by decide +kernel
theorem d221_13 : dc 221 13 = some (.iload_n 1, 14) := by decide +kernel
theorem d221_14 : dc 221 14 = some (.ifCond .lt ((33 : Nat) : Int), 17) := by decide +kernel
theorem d221_17 : dc 221 17 = some (.aload_n 0, 18) := by decide +kernel
theorem d221_18 : dc 221 18 = some (.dload 1664, 21) := by decide +kernel
theorem d221_21 : dc 221 21 = some (.dload 1420, 24) := by decide +kernel
theorem d221_24 : dc 221 24 = some (.iload_n 1, 25) := by decide +kernel
theorem d221_25 : dc 221 25 = some (.baload, 26) := by decide +kernel
theorem d221_26 : dc 221 26 = some (.ifCond .eq ((33 : Nat) : Int), 29) := by decide +kernel
theorem d221_29 : dc 221 29 = some (.iload_n 1, 30) := by decide +kernel
theorem d221_30 : dc 221 30 = some (.goto ((34 : Nat) : Int), 33) := by decide +kernel
theorem d221_33 : dc 221 33 = some (.iconst (-1), 34) := by decide +kernel
theorem d221_34 : dc 221 34 = some (.ireturn, 35) := by decide +kernel
theorem k_M_target {S : Shp} {G : Nat → Option Nat} {d : Nat} {h : Hp} {Q : Option MV → Hp → Prop} {m : Nat} {N0 : PlV} {n : List Nat} {f e : Nat} (ok : Ok S h) (h1 : 3 ≤ d) (hm : sK S m = 14) (NF : DfC S h (sT S 1664 m) N0) (NM : NmR h m f e) (hn : f + n.length = e) (sg : SgC S h (sT S 1730 m) f n)
    (kk : Q (some (vI (tat N0.2.2 n))) h) : Cl G d 221 [vR (some m)] h Q := by
  show Wp G d 221 0 [some (vR (some m)), none] [] h Q
  have NF_0 := NF
  have NM_0 := NM
  have r := tix_rg N0.2.2 n
  have hd0 := kT1664 ok hm
  have hl14 := NF.2.2.2.1
  refine w_aload_n d221_0 rfl ?_
  refine w_aload_n d221_1 rfl ?_
  refine w_getI (x := ((f : Nat) : Int)) d221_2 (ok.kd hm) NM.1 ?_
  refine w_aload_n d221_5 rfl ?_
  refine w_getI (x := ((e : Nat) : Int)) d221_6 (ok.kd hm) NM.2 ?_
  refine w_callv3 d221_9 (by omega) rfl (ok.kd hm) (by simp) (Nat.le_of_ble_eq_true rfl) ?_
  refine k_M_numberOf ok (by omega) hm NF hn sg ?_
  refine w_istore1 d221_12 rfl ?_
  refine w_iload_n d221_13 rfl ?_
  refine w_iflt d221_14 (fun c14 => ?_) (fun c14 => ?_)
  · rw [tat_neg (by omega)] at kk
    refine w_iconst d221_33 (by decide) ?_
    refine w_ireturn d221_34 ?_
    exact kk
  · obtain ⟨j, hj⟩ : ∃ j : Nat, tix N0.2.2 n = (j : Int) := ⟨(tix N0.2.2 n).toNat, by omega⟩
    rw [hj] at r
    rw [hj]
    refine w_aload_n d221_17 rfl ?_
    refine w_dloadS d221_18 (ok.kd hm) (fr1664 ok hm) ?_
    refine w_dloadS d221_21 (ok.kd (kT1664 ok hm)) (fr1420 ok (kT1664 ok hm)) ?_
    refine w_iload_n d221_24 rfl ?_
    refine w_baloadV (x := (b2i (tH N0.2.2 j))) d221_25 (gi1420 ok (kT1664 ok hm) (by omega)) (NF.2.2.2.2 j (by omega)).2.2.2.1 ?_
    refine w_ifeq d221_26 (fun c26 => ?_) (fun c26 => ?_)
    · have tf : (tH N0.2.2 j) = false := by
        cases hz : (tH N0.2.2 j) with
        | true => rw [hz] at c26; exact absurd c26 (by decide)
        | false => rfl
      rw [tat_no hj tf] at kk
      refine w_iconst d221_33 (by decide) ?_
      refine w_ireturn d221_34 ?_
      exact kk
    · have tt : (tH N0.2.2 j) = true := by
        cases hz : (tH N0.2.2 j) with
        | true => rfl
        | false => rw [hz] at c26; exact absurd rfl c26
      rw [tat_yes hj tt] at kk
      refine w_iload_n d221_29 rfl ?_
      refine w_goto d221_30 ?_
      refine w_ireturn d221_34 ?_
      exact kk
theorem d229_0 : dc 229 0 = some (.aload_n 0, 1) := by decide +kernel
theorem d229_1 : dc 229 1 = some (.dload 1664, 4) := by decide +kernel
theorem d229_4 : dc 229 4 = some (.iload_n 1, 5) := by decide +kernel
theorem d229_5 : dc 229 5 = some (.invokevirtual 230, 8) := by decide +kernel
theorem d229_8 : dc 229 8 = some (.istore_n 3, 9) := by decide +kernel
theorem d229_9 : dc 229 9 = some (.iconst 0, 10) := by decide +kernel
theorem d229_10 : dc 229 10 = some (.istore 4, 12) := by decide +kernel
theorem d229_12 : dc 229 12 = some (.iload 4, 14) := by decide +kernel
theorem d229_14 : dc 229 14 = some (.aload_n 0, 15) := by decide +kernel
theorem d229_15 : dc 229 15 = some (.dload 1664, 18) := by decide +kernel
theorem d229_18 : dc 229 18 = some (.getfield 1417, 21) := by decide +kernel
theorem d229_21 : dc 229 21 = some (.if_icmp .ge ((128 : Nat) : Int), 24) := by decide +kernel
theorem d229_24 : dc 229 24 = some (.iload_n 3, 25) := by decide +kernel
theorem d229_25 : dc 229 25 = some (.iload 4, 27) := by decide +kernel
theorem d229_27 : dc 229 27 = some (.ishr, 28) := by decide +kernel
theorem d229_28 : dc 229 28 = some (.iconst 1, 29) := by decide +kernel
theorem d229_29 : dc 229 29 = some (.iand, 30) := by decide +kernel
theorem d229_30 : dc 229 30 = some (.ifCond .ne ((36 : Nat) : Int), 33) := by decide +kernel
theorem d229_33 : dc 229 33 = some (.goto ((122 : Nat) : Int), 36) := by decide +kernel
theorem d229_36 : dc 229 36 = some (.iconst 0, 37) := by decide +kernel
theorem d229_37 : dc 229 37 = some (.istore 5, 39) := by decide +kernel
theorem d229_39 : dc 229 39 = some (.iload 5, 41) := by decide +kernel
theorem d229_41 : dc 229 41 = some (.aload_n 0, 42) := by decide +kernel
theorem d229_42 : dc 229 42 = some (.dload 1664, 45) := by decide +kernel
theorem d229_45 : dc 229 45 = some (.dload 1424, 48) := by decide +kernel
theorem d229_48 : dc 229 48 = some (.iload 4, 50) := by decide +kernel
theorem d229_50 : dc 229 50 = some (.iaload, 51) := by decide +kernel
theorem d229_51 : dc 229 51 = some (.if_icmp .ge ((122 : Nat) : Int), 54) := by decide +kernel
theorem d229_54 : dc 229 54 = some (.bipush 6, 56) := by decide +kernel
theorem d229_56 : dc 229 56 = some (.iload 4, 58) := by decide +kernel
theorem d229_58 : dc 229 58 = some (.imul, 59) := by decide +kernel
theorem d229_59 : dc 229 59 = some (.iload 5, 61) := by decide +kernel
theorem d229_61 : dc 229 61 = some (.iadd, 62) := by decide +kernel
theorem d229_62 : dc 229 62 = some (.istore 6, 64) := by decide +kernel
theorem d229_64 : dc 229 64 = some (.aload_n 0, 65) := by decide +kernel
theorem d229_65 : dc 229 65 = some (.dload 1664, 68) := by decide +kernel
theorem d229_68 : dc 229 68 = some (.dload 1425, 71) := by decide +kernel
theorem d229_71 : dc 229 71 = some (.iload 6, 73) := by decide +kernel
theorem d229_73 : dc 229 73 = some (.baload, 74) := by decide +kernel
theorem d229_74 : dc 229 74 = some (.ifCond .eq ((116 : Nat) : Int), 77) := by decide +kernel
theorem d229_77 : dc 229 77 = some (.aload_n 0, 78) := by decide +kernel
theorem d229_78 : dc 229 78 = some (.dload 1664, 81) := by decide +kernel
theorem d229_81 : dc 229 81 = some (.dload 1426, 84) := by decide +kernel
theorem d229_84 : dc 229 84 = some (.bipush 12, 86) := by decide +kernel
theorem d229_86 : dc 229 86 = some (.iload 6, 88) := by decide +kernel
theorem d229_88 : dc 229 88 = some (.imul, 89) := by decide +kernel
theorem d229_89 : dc 229 89 = some (.aload_n 0, 90) := by decide +kernel
theorem d229_90 : dc 229 90 = some (.dload 1664, 93) := by decide +kernel
theorem d229_93 : dc 229 93 = some (.dload 1427, 96) := by decide +kernel
theorem d229_96 : dc 229 96 = some (.iload 6, 98) := by decide +kernel
theorem d229_98 : dc 229 98 = some (.iaload, 99) := by decide +kernel
theorem d229_99 : dc 229 99 = some (.aload_n 0, 100) := by decide +kernel
theorem d229_100 : dc 229 100 = some (.dload 1730, 103) := by decide +kernel
theorem d229_103 : dc 229 103 = some (.aload_n 0, 104) := by decide +kernel
theorem d229_104 : dc 229 104 = some (.getfield 1742, 107) := by decide +kernel
theorem d229_107 : dc 229 107 = some (.iload_n 2, 108) := by decide +kernel
theorem d229_108 : dc 229 108 = some (.invokevirtual 224, 111) := by decide +kernel
theorem d229_111 : dc 229 111 = some (.ifCond .eq ((116 : Nat) : Int), 114) := by decide +kernel
theorem d229_114 : dc 229 114 = some (.iconst 1, 115) := by decide +kernel
theorem d229_115 : dc 229 115 = some (.freturn, 116) := by decide +kernel
theorem d229_116 : dc 229 116 = some (.iinc 5 1, 119) := by decide +kernel
theorem d229_119 : dc 229 119 = some (.goto ((39 : Nat) : Int), 122) := by decide +kernel
theorem d229_122 : dc 229 122 = some (.iinc 4 1, 125) := by decide +kernel
theorem d229_125 : dc 229 125 = some (.goto ((12 : Nat) : Int), 128) := by decide +kernel
theorem d229_128 : dc 229 128 = some (.iconst 0, 129) := by decide +kernel
theorem d229_129 : dc 229 129 = some (.freturn, 130) := by decide +kernel
theorem k_M_reaches {S : Shp} {G : Nat → Option Nat} {d : Nat} {h : Hp} {Q : Option MV → Hp → Prop} {m : Nat} {u : Nat} {q : Nat} {N0 : PlV} {n : List Nat} {f e : Nat} (ok : Ok S h) (h1 : 4 ≤ d) (hm : sK S m = 14) (NF : DfC S h (sT S 1664 m) N0) (NM : NmR h m f e) (hq : q = n.length) (sg : SgC S h (sT S 1730 m) f n) (hu : u < N0.2.2.length) (hH : tH N0.2.2 u = true)
    (kk : ∀ b : Bool, (b = true ↔ ∃ z, z < N0.2.2.length ∧ Rc N0.2.2 u z ∧ namesT (tgI (tD N0.2.2 z)) n = true) → Q (some (vI (b2i b))) h) : Cl G d 229 [vR (some m), vI (u : Nat), vI (q : Nat)] h Q := by
  show Wp G d 229 0 [some (vR (some m)), some (vI (u : Nat)), some (vI (q : Nat)), none, none, none, none] [] h Q
  have NF_0 := NF
  have NM_0 := NM
  have hl14 := NF.2.2.2.1
  have hd0 := kT1664 ok hm
  refine w_aload_n d229_0 rfl ?_
  refine w_dloadS d229_1 (ok.kd hm) (fr1664 ok hm) ?_
  refine w_iload_n d229_4 rfl ?_
  refine w_callv2 d229_5 (by omega) rfl (ok.kd (kT1664 ok hm)) (by simp) (Nat.le_of_ble_eq_true rfl) ?_
  refine k_D_needs ok (by omega) (kT1664 ok hm) NF.2.2 hu hH (fun n5 nl5 nb5 => ?_)
  refine w_istore3 d229_8 rfl ?_
  refine w_iconst d229_9 (by decide) ?_
  refine w_istore4 d229_10 rfl ?_
  have L12 : ∀ (m12 : Nat) (z : Nat), N0.2.2.length - z = m12 → (z ≤ N0.2.2.length) → (∀ y, y < z → ¬ (Rc N0.2.2 u y ∧ namesT (tgI (tD N0.2.2 y)) n = true)) → Wp G d 229 12 [some (vR (some m)), some (vI (u : Nat)), some (vI (q : Nat)), some (vI (n5 : Nat)), some (vI (z : Nat)), none, none] [] h Q := by
    intro m12
    induction m12 using Nat.strongRecOn with | ind m12 IH12 => ?_
    intro z hm12 zl iz
    refine w_iload d229_12 rfl ?_
    refine w_aload_n d229_14 rfl ?_
    refine w_dloadS d229_15 (ok.kd hm) (fr1664 ok hm) ?_
    refine w_getI (x := ((N0.2.2.length : Nat) : Int)) d229_18 (ok.kd (kT1664 ok hm)) NF.2.2.1 ?_
    refine w_icmpge d229_21 (fun c21 => ?_) (fun c21 => ?_)
    · have ez : z = N0.2.2.length := by omega
      refine w_iconst d229_128 (by decide) ?_
      refine w_zreturn d229_129 (by decide) ?_
      exact kk false ⟨fun y => absurd y (by decide), fun ⟨y, y1, y2⟩ => absurd y2 (iz y (by omega))⟩
    · have hz : z < N0.2.2.length := by omega
      refine w_iload_n d229_24 rfl ?_
      refine w_iload d229_25 rfl ?_
      refine w_ishr d229_27 ?_
      rw [shr_n (n := n5) (u := z) (by omega) (by omega)]
      refine w_iconst d229_28 (by decide) ?_
      refine w_iand d229_29 ?_
      rw [and_1 (a := n5 / 2 ^ z) (div_lt (by omega))]
      refine w_ifne d229_30 (fun c30 => ?_) (fun c30 => ?_)
      · have bz : Rc N0.2.2 u z := (nb5 z).mp (by unfold bt; have := bt_v n5 z; omega)
        refine w_iconst d229_36 (by decide) ?_
        refine w_istore5 d229_37 rfl ?_
        have L39 : ∀ (m39 : Nat) (k : Nat), (tgI (tD N0.2.2 z)).length - k = m39 → (k ≤ (tgI (tD N0.2.2 z)).length) → (∀ j, j < k → isTg (tgI (tD N0.2.2 z)) n j = false) → Wp G d 229 39 [some (vR (some m)), some (vI (u : Nat)), some (vI (q : Nat)), some (vI (n5 : Nat)), some (vI (z : Nat)), some (vI (k : Nat)), none] [] h Q := by
          intro m39
          induction m39 using Nat.strongRecOn with | ind m39 IH39 => ?_
          intro k hm39 kl ik
          refine w_iload d229_39 rfl ?_
          refine w_aload_n d229_41 rfl ?_
          refine w_dloadS d229_42 (ok.kd hm) (fr1664 ok hm) ?_
          refine w_dloadS d229_45 (ok.kd (kT1664 ok hm)) (fr1424 ok (kT1664 ok hm)) ?_
          refine w_iload d229_48 rfl ?_
          refine w_ialoadV (x := (((tgI (tD N0.2.2 z)).length : Nat) : Int)) d229_50 (gi1424 ok (kT1664 ok hm) (by omega)) (NF.2.2.2.2 z hz).2.2.2.2.2.2.2.2.2.1 ?_
          refine w_icmpge d229_51 (fun c51 => ?_) (fun c51 => ?_)
          · have nz : ¬ (Rc N0.2.2 u z ∧ namesT (tgI (tD N0.2.2 z)) n = true) := fun y => by
              obtain ⟨j, -, j2, j3⟩ := anyF_iff.mp y.2
              rw [ik j (by omega)] at j3
              exact absurd j3 (by decide)
            refine w_iinc4 d229_122 rfl (by constructor <;> omega) ?_
            refine w_goto d229_125 ?_
            rw [show ((z : Nat) : Int) + 1 = ((z + 1 : Nat) : Int) by omega]
            refine w_less ?_ (IH12 _ (by omega) (z + 1) rfl (by omega) (fun y hy => by rcases Nat.lt_or_ge y z with x | x; exact iz y x; rw [show y = z by omega]; exact nz))
            exact ⟨Or.inr rfl, Or.inr rfl, Or.inr rfl, Or.inr rfl, Or.inr rfl, Or.inl rfl, Or.inl rfl, trivial⟩
          · have hk : k < (tgI (tD N0.2.2 z)).length := by omega
            have hk6 : k < 6 := by have := (NF.2.2.2.2 z hz).2.2.2.2.2.2.2.2.2.2.1; omega
            refine w_bipush d229_54 (by decide) ?_
            refine w_iload d229_56 rfl ?_
            refine w_imul d229_58 (by constructor <;> omega) ?_
            rw [show (6 : Int) * ((z : Nat) : Int) = ((6 * z : Nat) : Int) by omega]
            refine w_iload d229_59 rfl ?_
            refine w_iadd d229_61 (by constructor <;> omega) ?_
            rw [show ((6 * z : Nat) : Int) + ((k : Nat) : Int) = ((6 * z + k : Nat) : Int) by omega]
            refine w_istore6 d229_62 rfl ?_
            refine w_aload_n d229_64 rfl ?_
            refine w_dloadS d229_65 (ok.kd hm) (fr1664 ok hm) ?_
            refine w_dloadS d229_68 (ok.kd (kT1664 ok hm)) (fr1425 ok (kT1664 ok hm)) ?_
            refine w_iload d229_71 rfl ?_
            refine w_baloadV (x := (b2i (inB (tgI (tD N0.2.2 z)) k))) d229_73 (gi1425 ok (kT1664 ok hm) (by omega)) (((NF.2.2.2.2 z hz).2.2.2.2.2.2.2.2.2.2.2.1 k hk).1) ?_
            refine w_ifeq d229_74 (fun c74 => ?_) (fun c74 => ?_)
            · have ib : (inB (tgI (tD N0.2.2 z)) k) = false := by
                cases hz : (inB (tgI (tD N0.2.2 z)) k) with
                | true => rw [hz] at c74; exact absurd c74 (by decide)
                | false => rfl
              have tk : (isTg (tgI (tD N0.2.2 z)) n k) = false := by unfold isTg; rw [ib]; rfl
              refine w_iinc5 d229_116 rfl (by constructor <;> omega) ?_
              refine w_goto d229_119 ?_
              rw [show ((k : Nat) : Int) + 1 = ((k + 1 : Nat) : Int) by omega]
              refine w_less ?_ (IH39 _ (by omega) (k + 1) rfl (by omega) (fun y hy => by rcases Nat.lt_or_ge y k with x | x; exact ik y x; rw [show y = k by omega]; exact tk))
              exact ⟨Or.inr rfl, Or.inr rfl, Or.inr rfl, Or.inr rfl, Or.inr rfl, Or.inr rfl, Or.inl rfl, trivial⟩
            · have ib : (inB (tgI (tD N0.2.2 z)) k) = true := by
                cases hz : (inB (tgI (tD N0.2.2 z)) k) with
                | true => rfl
                | false => rw [hz] at c74; exact absurd rfl c74
              refine w_aload_n d229_77 rfl ?_
              refine w_dloadS d229_78 (ok.kd hm) (fr1664 ok hm) ?_
              refine w_dloadS d229_81 (ok.kd (kT1664 ok hm)) (fr1426 ok (kT1664 ok hm)) ?_
              refine w_bipush d229_84 (by decide) ?_
              refine w_iload d229_86 rfl ?_
              refine w_imul d229_88 (by constructor <;> omega) ?_
              rw [show (12 : Int) * (((6 * z + k) : Nat) : Int) = ((12 * (6 * z + k) : Nat) : Int) by omega]
              refine w_aload_n d229_89 rfl ?_
              refine w_dloadS d229_90 (ok.kd hm) (fr1664 ok hm) ?_
              refine w_dloadS d229_93 (ok.kd (kT1664 ok hm)) (fr1427 ok (kT1664 ok hm)) ?_
              refine w_iload d229_96 rfl ?_
              refine w_ialoadV (x := ((inN (tgI (tD N0.2.2 z)) k).length : Int)) d229_98 (gi1427 ok (kT1664 ok hm) (by omega)) (((NF.2.2.2.2 z hz).2.2.2.2.2.2.2.2.2.2.2.1 k hk).2.1) ?_
              refine w_aload_n d229_99 rfl ?_
              refine w_dloadS d229_100 (ok.kd hm) (fr1730 ok hm) ?_
              refine w_aload_n d229_103 rfl ?_
              refine w_getI (x := ((f : Nat) : Int)) d229_104 (ok.kd hm) NM.1 ?_
              refine w_iload_n d229_107 rfl ?_
              refine w_calls6 d229_108 (by omega) rfl rfl (by simp) (Nat.le_of_ble_eq_true rfl) ?_
              refine k_D_isSame ok (by omega) rfl hq (((NF.2.2.2.2 z hz).2.2.2.2.2.2.2.2.2.2.2.1 k hk).2.2.2) sg ?_
              refine w_ifeq d229_111 (fun c111 => ?_) (fun c111 => ?_)
              · have tk : (isTg (tgI (tD N0.2.2 z)) n k) = false := by
                  cases hy : (isTg (tgI (tD N0.2.2 z)) n k) with
                  | false => rfl
                  | true =>
                    unfold isTg at hy
                    simp only [Bool.and_eq_true, beq_iff_eq] at hy
                    rw [decide_eq_true hy.2] at c111
                    exact absurd c111 (by decide)
                refine w_iinc5 d229_116 rfl (by constructor <;> omega) ?_
                refine w_goto d229_119 ?_
                rw [show ((k : Nat) : Int) + 1 = ((k + 1 : Nat) : Int) by omega]
                refine w_less ?_ (IH39 _ (by omega) (k + 1) rfl (by omega) (fun y hy => by rcases Nat.lt_or_ge y k with x | x; exact ik y x; rw [show y = k by omega]; exact tk))
                exact ⟨Or.inr rfl, Or.inr rfl, Or.inr rfl, Or.inr rfl, Or.inr rfl, Or.inr rfl, Or.inl rfl, trivial⟩
              · have tk : (isTg (tgI (tD N0.2.2 z)) n k) = true := by
                  unfold isTg
                  rw [ib]
                  simp only [Bool.true_and, beq_iff_eq]
                  by_cases y : inN (tgI (tD N0.2.2 z)) k = n
                  · exact y
                  · rw [decide_eq_false y] at c111; exact absurd rfl c111
                refine w_iconst d229_114 (by decide) ?_
                refine w_zreturn d229_115 (by decide) ?_
                exact kk true ⟨fun _ => ⟨z, hz, bz, anyF_iff.mpr ⟨k, Nat.zero_le _, hk, tk⟩⟩, fun _ => rfl⟩
        refine w_less ?_ (L39 _ 0 rfl (Nat.zero_le _) (fun y hy => absurd hy (Nat.not_lt_zero _)))
        exact ⟨Or.inr rfl, Or.inr rfl, Or.inr rfl, Or.inr rfl, Or.inr rfl, Or.inr rfl, Or.inl rfl, trivial⟩
      · have nz : ¬ (Rc N0.2.2 u z ∧ namesT (tgI (tD N0.2.2 z)) n = true) := fun y => by have := (nb5 z).mpr y.1; unfold bt at this; omega
        refine w_goto d229_33 ?_
        refine w_iinc4 d229_122 rfl (by constructor <;> omega) ?_
        refine w_goto d229_125 ?_
        rw [show ((z : Nat) : Int) + 1 = ((z + 1 : Nat) : Int) by omega]
        refine w_less ?_ (IH12 _ (by omega) (z + 1) rfl (by omega) (fun y hy => by rcases Nat.lt_or_ge y z with x | x; exact iz y x; rw [show y = z by omega]; exact nz))
        exact ⟨Or.inr rfl, Or.inr rfl, Or.inr rfl, Or.inr rfl, Or.inr rfl, Or.inl rfl, Or.inl rfl, trivial⟩
  refine w_less ?_ (L12 _ 0 rfl (Nat.zero_le _) (fun y hy => absurd hy (Nat.not_lt_zero _)))
  exact ⟨Or.inr rfl, Or.inr rfl, Or.inr rfl, Or.inr rfl, Or.inr rfl, Or.inl rfl, Or.inl rfl, trivial⟩
/-- input k of a definition makes a circle -/
def cirK (ts : List (Bool × TgV)) (I : List InV) (n : List Nat) (k : Nat) : Prop := isTg I n k = true ∨ (inB I k = true ∧ 0 ≤ tat ts (inN I k) ∧ ∃ z, z < ts.length ∧ (tH ts z = true ∧ namesT (tgI (tD ts z)) n = true) ∧ Rc ts (tat ts (inN I k)).toNat z)
theorem cir_iff {ts : List (Bool × TgV)} {D : TgV} : circV ts D ↔ ∃ k, k < (tgI D).length ∧ cirK ts (tgI D) (tgN D) k := by
  unfold circV cirK
  constructor
  · rintro (h | ⟨i, h1, h2⟩)
    · obtain ⟨j, -, j2, j3⟩ := anyF_iff.mp h
      exact ⟨j, j2, Or.inl j3⟩
    · exact ⟨i, h1, Or.inr h2⟩
  · rintro ⟨k, h1, h2 | h2⟩
    · exact Or.inl (anyF_iff.mpr ⟨k, Nat.zero_le _, h1, h2⟩)
    · exact Or.inr ⟨k, h1, h2⟩
theorem d228_0 : dc 228 0 = some (.aload_n 0, 1) := by decide +kernel
theorem d228_1 : dc 228 1 = some (.getfield 1743, 4) := by decide +kernel
theorem d228_4 : dc 228 4 = some (.aload_n 0, 5) := by decide +kernel
theorem d228_5 : dc 228 5 = some (.getfield 1742, 8) := by decide +kernel
theorem d228_8 : dc 228 8 = some (.isub, 9) := by decide +kernel
theorem d228_9 : dc 228 9 = some (.istore_n 1, 10) := by decide +kernel
theorem d228_10 : dc 228 10 = some (.iconst 0, 11) := by decide +kernel
theorem d228_11 : dc 228 11 = some (.istore_n 2, 12) := by decide +kernel
theorem d228_12 : dc 228 12 = some (.iload_n 2, 13) := by decide +kernel
theorem d228_13 : dc 228 13 = some (.aload_n 0, 14) := by decide +kernel
theorem d228_14 : dc 228 14 = some (.getfield 1752, 17) := by decide +kernel
theorem d228_17 : dc 228 17 = some (.if_icmp .ge ((122 : Nat) : Int), 20) := by decide +kernel
theorem d228_20 : dc 228 20 = some (.aload_n 0, 21) := by decide +kernel
theorem d228_21 : dc 228 21 = some (.dload 1753, 24) := by decide +kernel
theorem d228_24 : dc 228 24 = some (.iload_n 2, 25) := by decide +kernel
theorem d228_25 : dc 228 25 = some (.baload, 26) := by decide +kernel
theorem d228_26 : dc 228 26 = some (.ifCond .ne ((32 : Nat) : Int), 29) := by decide +kernel
theorem d228_29 : dc 228 29 = some (.goto ((116 : Nat) : Int), 32) := by decide +kernel
theorem d228_32 : dc 228 32 = some (.aload_n 0, 33) := by decide +kernel
theorem d228_33 : dc 228 33 = some (.dload 1730, 36) := by decide +kernel
theorem d228_36 : dc 228 36 = some (.aload_n 0, 37) := by decide +kernel
theorem d228_37 : dc 228 37 = some (.dload 1754, 40) := by decide +kernel
theorem d228_40 : dc 228 40 = some (.iload_n 2, 41) := by decide +kernel
theorem d228_41 : dc 228 41 = some (.iaload, 42) := by decide +kernel
theorem d228_42 : dc 228 42 = some (.aload_n 0, 43) := by decide +kernel
theorem d228_43 : dc 228 43 = some (.dload 1755, 46) := by decide +kernel
theorem d228_46 : dc 228 46 = some (.iload_n 2, 47) := by decide +kernel
theorem d228_47 : dc 228 47 = some (.iaload, 48) := by decide +kernel
theorem d228_48 : dc 228 48 = some (.aload_n 0, 49) := by decide +kernel
theorem d228_49 : dc 228 49 = some (.dload 1754, 52) := by decide +kernel
theorem d228_52 : dc 228 52 = some (.iload_n 2, 53) := by decide +kernel
theorem d228_53 : dc 228 53 = some (.iaload, 54) := by decide +kernel
theorem d228_54 : dc 228 54 = some (.isub, 55) := by decide +kernel
theorem d228_55 : dc 228 55 = some (.aload_n 0, 56) := by decide +kernel
theorem d228_56 : dc 228 56 = some (.dload 1730, 59) := by decide +kernel
theorem d228_59 : dc 228 59 = some (.aload_n 0, 60) := by decide +kernel
theorem d228_60 : dc 228 60 = some (.getfield 1742, 63) := by decide +kernel
theorem d228_63 : dc 228 63 = some (.iload_n 1, 64) := by decide +kernel
theorem d228_64 : dc 228 64 = some (.invokevirtual 224, 67) := by decide +kernel
theorem d228_67 : dc 228 67 = some (.ifCond .eq ((72 : Nat) : Int), 70) := by decide +kernel
theorem d228_70 : dc 228 70 = some (.iconst 1, 71) := by decide +kernel
theorem d228_71 : dc 228 71 = some (.freturn, 72) := by decide +kernel
theorem d228_72 : dc 228 72 = some (.aload_n 0, 73) := by decide +kernel
theorem d228_73 : dc 228 73 = some (.aload_n 0, 74) := by decide +kernel
theorem d228_74 : dc 228 74 = some (.dload 1754, 77) := by decide +kernel
theorem d228_77 : dc 228 77 = some (.iload_n 2, 78) := by decide +kernel
theorem d228_78 : dc 228 78 = some (.iaload, 79) := by decide +kernel
theorem d228_79 : dc 228 79 = some (.aload_n 0, 80) := by decide +kernel
theorem d228_80 : dc 228 80 = some (.dload 1755, 83) := by decide +kernel
theorem d228_83 : dc 228 83 = some (.iload_n 2, 84) := by decide +kernel
theorem d228_84 : dc 228 84 = some (.iaload, 85) := by decide +kernel
theorem d228_85 : dc 228 85 = some (.invokevirtual 222, 88) := by decide +kernel
theorem d228_88 : dc 228 88 = some (.istore_n 3, 89) := by decide +kernel
theorem d228_89 : dc 228 89 = some (.iload_n 3, 90) := by decide +kernel
theorem d228_90 : dc 228 90 = some (.ifCond .lt ((116 : Nat) : Int), 93) := by decide +kernel
theorem d228_93 : dc 228 93 = some (.aload_n 0, 94) := by decide +kernel
theorem d228_94 : dc 228 94 = some (.dload 1664, 97) := by decide +kernel
theorem d228_97 : dc 228 97 = some (.dload 1420, 100) := by decide +kernel
theorem d228_100 : dc 228 100 = some (.iload_n 3, 101) := by decide +kernel
theorem d228_101 : dc 228 101 = some (.baload, 102) := by decide +kernel
theorem d228_102 : dc 228 102 = some (.ifCond .eq ((116 : Nat) : Int), 105) := by decide +kernel
theorem d228_105 : dc 228 105 = some (.aload_n 0, 106) := by decide +kernel
theorem d228_106 : dc 228 106 = some (.iload_n 3, 107) := by decide +kernel
theorem d228_107 : dc 228 107 = some (.iload_n 1, 108) := by decide +kernel
theorem d228_108 : dc 228 108 = some (.invokevirtual 229, 111) := by decide +kernel
theorem d228_111 : dc 228 111 = some (.ifCond .eq ((116 : Nat) : Int), 114) := by decide +kernel
theorem d228_114 : dc 228 114 = some (.iconst 1, 115) := by decide +kernel
theorem d228_115 : dc 228 115 = some (.freturn, 116) := by decide +kernel
theorem d228_116 : dc 228 116 = some (.iinc 2 1, 119) := by decide +kernel
theorem d228_119 : dc 228 119 = some (.goto ((12 : Nat) : Int), 122) := by decide +kernel
theorem d228_122 : dc 228 122 = some (.iconst 0, 123) := by decide +kernel
theorem d228_123 : dc 228 123 = some (.freturn, 124) := by decide +kernel
theorem k_M_isCircle {S : Shp} {G : Nat → Option Nat} {d : Nat} {h : Hp} {Q : Option MV → Hp → Prop} {m : Nat} {N0 : PlV} {l n : List Nat} {D : TgV} {f e : Nat} (ok : Ok S h) (h1 : 5 ≤ d) (hm : sK S m = 14) (NF : DfC S h (sT S 1664 m) N0) (NM : NmR h m f e) (RQ : RqR S h m l) (IC : FI h 1752 m = (((tgI D).length : Nat) : Int)) (IA : InA S h m l (tgI D)) (hn : f + n.length = e) (sg : SgC S h (sT S 1730 m) f n) (hD : tgN D = n) (h6 : (tgI D).length ≤ 6)
    (kk : ∀ b : Bool, (b = true ↔ circV N0.2.2 D) → Q (some (vI (b2i b))) h) : Cl G d 228 [vR (some m)] h Q := by
  show Wp G d 228 0 [some (vR (some m)), none, none, none] [] h Q
  have NF_0 := NF
  have NM_0 := NM
  have RQ_0 := RQ
  have IC_0 := IC
  have IA_0 := IA
  have l9 := RQ.2.1
  have hl14 := NF.2.2.2.1
  have hd0 := kT1664 ok hm
  have := sg.2.1
  have := sg.2.2.1
  refine w_aload_n d228_0 rfl ?_
  refine w_getI (x := ((e : Nat) : Int)) d228_1 (ok.kd hm) NM.2 ?_
  refine w_aload_n d228_4 rfl ?_
  refine w_getI (x := ((f : Nat) : Int)) d228_5 (ok.kd hm) NM.1 ?_
  refine w_isub d228_8 (by constructor <;> omega) ?_
  rw [show ((e : Nat) : Int) - ((f : Nat) : Int) = ((n.length : Nat) : Int) by omega]
  refine w_istore1 d228_9 rfl ?_
  refine w_iconst d228_10 (by decide) ?_
  refine w_istore2 d228_11 rfl ?_
  have L12 : ∀ (m12 : Nat) (k : Nat), (tgI D).length - k = m12 → (k ≤ (tgI D).length) → (∀ j, j < k → ¬ cirK N0.2.2 (tgI D) n j) → Wp G d 228 12 [some (vR (some m)), some (vI (n.length : Nat)), some (vI (k : Nat)), none] [] h Q := by
    intro m12
    induction m12 using Nat.strongRecOn with | ind m12 IH12 => ?_
    intro k hm12 kl ih
    refine w_iload_n d228_12 rfl ?_
    refine w_aload_n d228_13 rfl ?_
    refine w_getI (x := (((tgI D).length : Nat) : Int)) d228_14 (ok.kd hm) IC ?_
    refine w_icmpge d228_17 (fun c17 => ?_) (fun c17 => ?_)
    · have ek : k = (tgI D).length := by omega
      refine w_iconst d228_122 (by decide) ?_
      refine w_zreturn d228_123 (by decide) ?_
      exact kk false ⟨fun y => absurd y (by decide), fun y => by obtain ⟨j, j1, j2⟩ := cir_iff.mp y; rw [hD] at j2; exact absurd j2 (ih j (by omega))⟩
    · have hk : k < (tgI D).length := by omega
      obtain ⟨i1, xf, xe, i2, i3, i4, i5, i6⟩ := IA k hk
      have xl := sl_len ⟨i4, i5⟩
      refine w_aload_n d228_20 rfl ?_
      refine w_dloadS d228_21 (ok.kd hm) (fr1753 ok hm) ?_
      refine w_iload_n d228_24 rfl ?_
      refine w_baloadV (x := (b2i (inB (tgI D) k))) d228_25 (gi1753 ok hm (by omega)) i1 ?_
      refine w_ifne d228_26 (fun c26 => ?_) (fun c26 => ?_)
      · have ib : (inB (tgI D) k) = true := by
          cases hz : (inB (tgI D) k) with
          | true => rfl
          | false => rw [hz] at c26; exact absurd rfl c26
        refine w_aload_n d228_32 rfl ?_
        refine w_dloadS d228_33 (ok.kd hm) (fr1730 ok hm) ?_
        refine w_aload_n d228_36 rfl ?_
        refine w_dloadS d228_37 (ok.kd hm) (fr1754 ok hm) ?_
        refine w_iload_n d228_40 rfl ?_
        refine w_ialoadV (x := ((xf : Nat) : Int)) d228_41 (gi1754 ok hm (by omega)) i2 ?_
        refine w_aload_n d228_42 rfl ?_
        refine w_dloadS d228_43 (ok.kd hm) (fr1755 ok hm) ?_
        refine w_iload_n d228_46 rfl ?_
        refine w_ialoadV (x := ((xe : Nat) : Int)) d228_47 (gi1755 ok hm (by omega)) i3 ?_
        refine w_aload_n d228_48 rfl ?_
        refine w_dloadS d228_49 (ok.kd hm) (fr1754 ok hm) ?_
        refine w_iload_n d228_52 rfl ?_
        refine w_ialoadV (x := ((xf : Nat) : Int)) d228_53 (gi1754 ok hm (by omega)) i2 ?_
        refine w_isub d228_54 (by constructor <;> omega) ?_
        rw [show ((xe : Nat) : Int) - ((xf : Nat) : Int) = ((xe - xf : Nat) : Int) by omega]
        refine w_aload_n d228_55 rfl ?_
        refine w_dloadS d228_56 (ok.kd hm) (fr1730 ok hm) ?_
        refine w_aload_n d228_59 rfl ?_
        refine w_getI (x := ((f : Nat) : Int)) d228_60 (ok.kd hm) NM.1 ?_
        refine w_iload_n d228_63 rfl ?_
        refine w_calls6 d228_64 (by omega) rfl rfl (by simp) (Nat.le_of_ble_eq_true rfl) ?_
        refine k_D_isSame ok (by omega) (l := inN (tgI D) k) (by rw [← i6, xl]) rfl (by rw [← i6]; exact RQ.2.2.sub ⟨i4, i5⟩) sg ?_
        refine w_ifeq d228_67 (fun c67 => ?_) (fun c67 => ?_)
        · have ne : inN (tgI D) k ≠ n := fun y => by rw [decide_eq_true y] at c67; exact absurd c67 (by decide)
          refine w_aload_n d228_72 rfl ?_
          refine w_aload_n d228_73 rfl ?_
          refine w_dloadS d228_74 (ok.kd hm) (fr1754 ok hm) ?_
          refine w_iload_n d228_77 rfl ?_
          refine w_ialoadV (x := ((xf : Nat) : Int)) d228_78 (gi1754 ok hm (by omega)) i2 ?_
          refine w_aload_n d228_79 rfl ?_
          refine w_dloadS d228_80 (ok.kd hm) (fr1755 ok hm) ?_
          refine w_iload_n d228_83 rfl ?_
          refine w_ialoadV (x := ((xe : Nat) : Int)) d228_84 (gi1755 ok hm (by omega)) i3 ?_
          refine w_callv3 d228_85 (by omega) rfl (ok.kd hm) (by simp) (Nat.le_of_ble_eq_true rfl) ?_
          refine k_M_numberOf (n := inN (tgI D) k) ok (by omega) hm NF (by rw [← i6, xl]; omega) (by rw [← i6]; exact RQ.2.2.sub ⟨i4, i5⟩) ?_
          refine w_istore3 d228_88 rfl ?_
          refine w_iload_n d228_89 rfl ?_
          refine w_iflt d228_90 (fun c90 => ?_) (fun c90 => ?_)
          · have nk : ¬ cirK N0.2.2 (tgI D) n k := fun y => by
              rcases y with y | y
              · unfold isTg at y
                simp only [Bool.and_eq_true, beq_iff_eq] at y
                exact ne y.2
              · rw [tat_neg (by omega)] at y; exact absurd y.2.1 (by decide)
            refine w_iinc2 d228_116 rfl (by constructor <;> omega) ?_
            refine w_goto d228_119 ?_
            rw [show ((k : Nat) : Int) + 1 = ((k + 1 : Nat) : Int) by omega]
            refine w_less ?_ (IH12 _ (by omega) (k + 1) rfl (by omega) (fun y hy => by rcases Nat.lt_or_ge y k with x | x; exact ih y x; rw [show y = k by omega]; exact nk))
            exact ⟨Or.inr rfl, Or.inr rfl, Or.inr rfl, Or.inl rfl, trivial⟩
          · have r := tix_rg N0.2.2 (inN (tgI D) k)
            obtain ⟨j, hj⟩ : ∃ j : Nat, tix N0.2.2 (inN (tgI D) k) = (j : Int) := ⟨(tix N0.2.2 (inN (tgI D) k)).toNat, by omega⟩
            rw [hj] at r
            rw [hj]
            refine w_aload_n d228_93 rfl ?_
            refine w_dloadS d228_94 (ok.kd hm) (fr1664 ok hm) ?_
            refine w_dloadS d228_97 (ok.kd (kT1664 ok hm)) (fr1420 ok (kT1664 ok hm)) ?_
            refine w_iload_n d228_100 rfl ?_
            refine w_baloadV (x := (b2i (tH N0.2.2 j))) d228_101 (gi1420 ok (kT1664 ok hm) (by omega)) (NF.2.2.2.2 j (by omega)).2.2.2.1 ?_
            refine w_ifeq d228_102 (fun c102 => ?_) (fun c102 => ?_)
            · have tf : (tH N0.2.2 j) = false := by
                cases hz : (tH N0.2.2 j) with
                | true => rw [hz] at c102; exact absurd c102 (by decide)
                | false => rfl
              have nk : ¬ cirK N0.2.2 (tgI D) n k := fun y => by
                rcases y with y | y
                · unfold isTg at y
                  simp only [Bool.and_eq_true, beq_iff_eq] at y
                  exact ne y.2
                · rw [tat_no hj tf] at y; exact absurd y.2.1 (by decide)
              refine w_iinc2 d228_116 rfl (by constructor <;> omega) ?_
              refine w_goto d228_119 ?_
              rw [show ((k : Nat) : Int) + 1 = ((k + 1 : Nat) : Int) by omega]
              refine w_less ?_ (IH12 _ (by omega) (k + 1) rfl (by omega) (fun y hy => by rcases Nat.lt_or_ge y k with x | x; exact ih y x; rw [show y = k by omega]; exact nk))
              exact ⟨Or.inr rfl, Or.inr rfl, Or.inr rfl, Or.inl rfl, trivial⟩
            · have tt : (tH N0.2.2 j) = true := by
                cases hz : (tH N0.2.2 j) with
                | true => rfl
                | false => rw [hz] at c102; exact absurd rfl c102
              have ej := tat_yes hj tt
              refine w_aload_n d228_105 rfl ?_
              refine w_iload_n d228_106 rfl ?_
              refine w_iload_n d228_107 rfl ?_
              refine w_callv3 d228_108 (by omega) rfl (ok.kd hm) (by simp) (Nat.le_of_ble_eq_true rfl) ?_
              refine k_M_reaches (n := n) ok (by omega) hm NF NM rfl sg (by omega) tt (fun b108 eb108 => ?_)
              refine w_ifeq d228_111 (fun c111 => ?_) (fun c111 => ?_)
              · have rf_ : b108 = false := by
                  cases hz : b108 with
                  | true => rw [hz] at c111; exact absurd c111 (by decide)
                  | false => rfl
                have nk : ¬ cirK N0.2.2 (tgI D) n k := fun y => by
                  rcases y with y | ⟨y1, y2, z, z1, z2, z3⟩
                  · unfold isTg at y
                    simp only [Bool.and_eq_true, beq_iff_eq] at y
                    exact ne y.2
                  · rw [ej, Int.toNat_natCast] at z3
                    rw [eb108.mpr ⟨z, z1, z3, z2.2⟩] at rf_
                    exact absurd rf_ (by decide)
                refine w_iinc2 d228_116 rfl (by constructor <;> omega) ?_
                refine w_goto d228_119 ?_
                rw [show ((k : Nat) : Int) + 1 = ((k + 1 : Nat) : Int) by omega]
                refine w_less ?_ (IH12 _ (by omega) (k + 1) rfl (by omega) (fun y hy => by rcases Nat.lt_or_ge y k with x | x; exact ih y x; rw [show y = k by omega]; exact nk))
                exact ⟨Or.inr rfl, Or.inr rfl, Or.inr rfl, Or.inl rfl, trivial⟩
              · have rt_ : b108 = true := by
                  cases hz : b108 with
                  | true => rfl
                  | false => rw [hz] at c111; exact absurd rfl c111
                obtain ⟨z, z1, z2, z3⟩ := eb108.mp rt_
                refine w_iconst d228_114 (by decide) ?_
                refine w_zreturn d228_115 (by decide) ?_
                exact kk true ⟨fun _ => cir_iff.mpr ⟨k, hk, Or.inr ⟨ib, by rw [ej]; omega, z, z1, ⟨Rc_H tt z2, by rw [hD]; exact z3⟩, by rw [ej, Int.toNat_natCast]; exact z2⟩⟩, fun _ => rfl⟩
        · have en : inN (tgI D) k = n := by
            by_cases y : inN (tgI D) k = n
            · exact y
            · rw [decide_eq_false y] at c67; exact absurd rfl c67
          refine w_iconst d228_70 (by decide) ?_
          refine w_zreturn d228_71 (by decide) ?_
          exact kk true ⟨fun _ => cir_iff.mpr ⟨k, hk, Or.inl (by unfold isTg; rw [ib, en, hD]; simp)⟩, fun _ => rfl⟩
      · have ib : (inB (tgI D) k) = false := by
          cases hz : (inB (tgI D) k) with
          | true => rw [hz] at c26; exact absurd c26 (by decide)
          | false => rfl
        have nk : ¬ cirK N0.2.2 (tgI D) n k := fun y => by
          rcases y with y | y
          · unfold isTg at y; rw [ib] at y; exact absurd (show false = true from y) (by decide)
          · rw [ib] at y; exact absurd y.1 (by decide)
        refine w_goto d228_29 ?_
        refine w_iinc2 d228_116 rfl (by constructor <;> omega) ?_
        refine w_goto d228_119 ?_
        rw [show ((k : Nat) : Int) + 1 = ((k + 1 : Nat) : Int) by omega]
        refine w_less ?_ (IH12 _ (by omega) (k + 1) rfl (by omega) (fun y hy => by rcases Nat.lt_or_ge y k with x | x; exact ih y x; rw [show y = k by omega]; exact nk))
        exact ⟨Or.inr rfl, Or.inr rfl, Or.inr rfl, Or.inl rfl, trivial⟩
  refine w_less ?_ (L12 _ 0 rfl (Nat.zero_le _) (fun y hy => absurd hy (Nat.not_lt_zero _)))
  exact ⟨Or.inr rfl, Or.inr rfl, Or.inr rfl, Or.inl rfl, trivial⟩
