/-! the reference: what fails ahead -/
theorem txl : (txt 1).length ≤ 10 ∧ (txt 2).length ≤ 10 ∧ (txt 3).length ≤ 10 ∧ txt 1 ≠ [] ∧ txt 2 ≠ [] ∧ txt 3 ≠ [] := by decide +kernel
theorem d249_0 : dc 249 0 = some (.aload_n 0, 1) := by decide +kernel
theorem d249_1 : dc 249 1 = some (.iload_n 1, 2) := by decide +kernel
theorem d249_2 : dc 249 2 = some (.invokevirtual 250, 5) := by decide +kernel
theorem d249_5 : dc 249 5 = some (.istore_n 3, 6) := by decide +kernel
theorem d249_6 : dc 249 6 = some (.aload_n 0, 7) := by decide +kernel
theorem d249_7 : dc 249 7 = some (.iload_n 1, 8) := by decide +kernel
theorem d249_8 : dc 249 8 = some (.invokevirtual 252, 11) := by decide +kernel
theorem d249_11 : dc 249 11 = some (.ifCond .ne ((23 : Nat) : Int), 14) := by decide +kernel
theorem d249_14 : dc 249 14 = some (.aload_n 2, 15) := by decide +kernel
theorem d249_15 : dc 249 15 = some (.getstatic 51, 18) := by decide +kernel
theorem d249_18 : dc 249 18 = some (.invokevirtual 253, 21) := by decide +kernel
theorem d249_21 : dc 249 21 = some (.iconst 1, 22) := by decide +kernel
theorem d249_22 : dc 249 22 = some (.freturn, 23) := by decide +kernel
theorem d249_23 : dc 249 23 = some (.iload_n 3, 24) := by decide +kernel
theorem d249_24 : dc 249 24 = some (.ifCond .ge ((29 : Nat) : Int), 27) := by decide +kernel
theorem d249_27 : dc 249 27 = some (.iconst 0, 28) := by decide +kernel
theorem d249_28 : dc 249 28 = some (.freturn, 29) := by decide +kernel
theorem d249_29 : dc 249 29 = some (.bipush 6, 31) := by decide +kernel
theorem d249_31 : dc 249 31 = some (.iload_n 1, 32) := by decide +kernel
theorem d249_32 : dc 249 32 = some (.imul, 33) := by decide +kernel
theorem d249_33 : dc 249 33 = some (.iload_n 3, 34) := by decide +kernel
theorem d249_34 : dc 249 34 = some (.iadd, 35) := by decide +kernel
theorem d249_35 : dc 249 35 = some (.istore 4, 37) := by decide +kernel
theorem d249_37 : dc 249 37 = some (.aload_n 2, 38) := by decide +kernel
theorem d249_38 : dc 249 38 = some (.aload_n 0, 39) := by decide +kernel
theorem d249_39 : dc 249 39 = some (.dload 1425, 42) := by decide +kernel
theorem d249_42 : dc 249 42 = some (.iload 4, 44) := by decide +kernel
theorem d249_44 : dc 249 44 = some (.baload, 45) := by decide +kernel
theorem d249_45 : dc 249 45 = some (.ifCond .eq ((54 : Nat) : Int), 48) := by decide +kernel
theorem d249_48 : dc 249 48 = some (.getstatic 52, 51) := by decide +kernel
theorem d249_51 : dc 249 51 = some (.goto ((57 : Nat) : Int), 54) := by decide +kernel
theorem d249_54 : dc 249 54 = some (.getstatic 53, 57) := by decide +kernel
theorem d249_57 : dc 249 57 = some (.invokevirtual 253, 60) := by decide +kernel
theorem d249_60 : dc 249 60 = some (.iconst 0, 61) := by decide +kernel
theorem d249_61 : dc 249 61 = some (.istore 5, 63) := by decide +kernel
theorem d249_63 : dc 249 63 = some (.iload 5, 65) := by decide +kernel
theorem d249_65 : dc 249 65 = some (.aload_n 0, 66) := by decide +kernel
theorem d249_66 : dc 249 66 = some (.dload 1427, 69) := by decide +kernel
theorem d249_69 : dc 249 69 = some (.iload 4, 71) := by decide +kernel
theorem d249_71 : dc 249 71 = some (.iaload, 72) := by decide +kernel
theorem d249_72 : dc 249 72 = some (.if_icmp .ge ((98 : Nat) : Int), 75) := by decide +kernel
theorem d249_75 : dc 249 75 = some (.aload_n 2, 76) := by decide +kernel
theorem d249_76 : dc 249 76 = some (.aload_n 0, 77) := by decide +kernel
theorem d249_77 : dc 249 77 = some (.dload 1426, 80) := by decide +kernel
theorem d249_80 : dc 249 80 = some (.bipush 12, 82) := by decide +kernel
theorem d249_82 : dc 249 82 = some (.iload 4, 84) := by decide +kernel
theorem d249_84 : dc 249 84 = some (.imul, 85) := by decide +kernel
theorem d249_85 : dc 249 85 = some (.iload 5, 87) := by decide +kernel
theorem d249_87 : dc 249 87 = some (.iadd, 88) := by decide +kernel
theorem d249_88 : dc 249 88 = some (.iaload, 89) := by decide +kernel
theorem d249_89 : dc 249 89 = some (.invokevirtual 255, 92) := by decide +kernel
theorem d249_92 : dc 249 92 = some (.iinc 5 1, 95) := by decide +kernel
theorem d249_95 : dc 249 95 = some (.goto ((63 : Nat) : Int), 98) := by decide +kernel
theorem d249_98 : dc 249 98 = some (.iconst 1, 99) := by decide +kernel
theorem d249_99 : dc 249 99 = some (.freturn, 100) := by decide +kernel
theorem k_M_failsAhead {S : Shp} {G : Nat → Option Nat} {d : Nat} {h : Hp} {Q : Option MV → Hp → Prop} {d0 t o : Nat} {fs : List (List Nat × List Nat)} {gs : List (List Nat × Nat)} {ts : List (Bool × TgV)} (ok : Ok S h) (h1 : 6 ≤ d) (tg : Tg S G) (hd0 : sK S d0 = 12) (ho : sK S o = 13) (DF : DFi S h d0 fs) (DG : DGs S h d0 gs) (DT : DTs S h d0 ts) (ht : t < ts.length) (nd : ∀ y, U S d0 y → ¬ U S o y)
    (k0 : ahead (fix fs) gs ts (tD ts t) = [] → Q (some (vI 0)) h) (k1 : ∀ h', Mo S (fun y => U S o y) h h' → ahead (fix fs) gs ts (tD ts t) ≠ [] → OmC S h' o ([], [], ahead (fix fs) gs ts (tD ts t)) → Q (some (vI 1)) h') : Cl G d 249 [vR (some d0), vI (t : Nat), vR (some o)] h Q := by
  show Wp G d 249 0 [some (vR (some d0)), some (vI (t : Nat)), some (vR (some o)), none, none, none] [] h Q
  obtain ⟨d1, d2, d3⟩ := id DT
  obtain ⟨a1, a2, a3, a4, a5, a6, a7, a8, a9, a10, a11, a12, a13, a14, a15, a16, a17⟩ := d3 t ht
  refine w_aload_n d249_0 rfl ?_
  refine w_iload_n d249_1 rfl ?_
  refine w_calls2 d249_2 (by omega) rfl rfl (by simp) (Nat.le_of_ble_eq_true rfl) ?_
  refine k_M_missing ok (by omega) hd0 DF DT ht ?_
  refine w_istore3 d249_5 rfl ?_
  refine w_aload_n d249_6 rfl ?_
  refine w_iload_n d249_7 rfl ?_
  refine w_callv2 d249_8 (by omega) rfl (ok.kd hd0) (by simp) (Nat.le_of_ble_eq_true rfl) ?_
  refine k_D_isMet ok (by omega) hd0 DG DT ht ?_
  refine w_ifne d249_11 (fun c11 => ?_) (fun c11 => ?_)
  · have um : ¬ (tgC (tD ts t) ≠ [] ∧ gval gs (tgC (tD ts t)) ≠ tgK (tD ts t)) := fun z => by
      rw [decide_eq_false (fun w => w.elim z.1 z.2)] at c11; exact c11 rfl
    refine w_iload_n d249_23 rfl ?_
    refine w_ifge d249_24 (fun c24 => ?_) (fun c24 => ?_)
    · have mr : misI (fix fs) ts (tD ts t) = -1 ∨ ∃ j, 0 ≤ j ∧ j < (tgI (tD ts t)).length ∧ misI (fix fs) ts (tD ts t) = (j : Int) ∧ _ := srF_rg (p := misP (fix fs) ts (tD ts t)) (n := (tgI (tD ts t)).length) (i := 0)
      obtain ⟨k, hk, hmk⟩ : ∃ k : Nat, k < (tgI (tD ts t)).length ∧ misI (fix fs) ts (tD ts t) = (k : Int) := by
        rcases mr with z | ⟨j, j1, j2, j3, j4⟩
        · omega
        · exact ⟨j, j2, j3⟩
      obtain ⟨b1, b2, b3, b4⟩ := a12 k hk
      have ea : ahead (fix fs) gs ts (tD ts t) = (if inB (tgI (tD ts t)) k = true then txt 2 else txt 3) ++ inN (tgI (tD ts t)) k := by unfold ahead; rw [if_neg um, if_neg (by omega), hmk]; rfl
      rw [hmk]
      refine w_bipush d249_29 (by decide) ?_
      refine w_iload_n d249_31 rfl ?_
      refine w_imul d249_32 (by constructor <;> omega) ?_
      rw [show (6 : Int) * ((t : Nat) : Int) = ((6 * t : Nat) : Int) by omega]
      refine w_iload_n d249_33 rfl ?_
      refine w_iadd d249_34 (by constructor <;> omega) ?_
      rw [show ((6 * t : Nat) : Int) + ((k : Nat) : Int) = ((6 * t + k : Nat) : Int) by omega]
      refine w_istore4 d249_35 rfl ?_
      refine w_aload_n d249_37 rfl ?_
      refine w_aload_n d249_38 rfl ?_
      refine w_dloadS d249_39 (ok.kd hd0) (fr1425 ok hd0) ?_
      refine w_iload d249_42 rfl ?_
      refine w_baloadV (x := (b2i (inB (tgI (tD ts t)) k))) d249_44 (gi1425 ok hd0 (by omega)) b1 ?_
      refine w_ifeq d249_45 (fun c45 => ?_) (fun c45 => ?_)
      · have q : ¬ inB (tgI (tD ts t)) k = true := fun z => by rw [z] at c45; exact absurd c45 (by decide)
        rw [if_neg q] at ea
        obtain ⟨g54, v54, s54⟩ := tg.al ok 3 (by decide)
        refine w_getstaticS d249_54 v54 ?_
        refine w_callv2 d249_57 (by omega) rfl (ok.kd ho) (by simp) (Nat.le_of_ble_eq_true rfl) ?_
        refine k_O_fails ok (by omega) ho s54 (by first | exact Nat.le_trans txl.2.1 (by decide) | exact Nat.le_trans txl.2.2.1 (by decide)) (fun h57 m57 OM => ?_)
        have ok57 := m57.ok
        have M57 := Mo.tr ok (Mo.refl (A := (fun ζ => U S o ζ)) ok) m57 (fun ζ u => (U_trans U_refl u))
        have hx : ∃ w, OmC S h57 o ([], [], w) ∧ ahead (fix fs) gs ts (tD ts t) = w ++ inN (tgI (tD ts t)) k ∧ w.length ≤ 10 ∧ w ≠ [] := ⟨_, OM, ea, by first | exact txl.2.1 | exact txl.2.2.1, by first | exact txl.2.2.2.2.1 | exact txl.2.2.2.2.2⟩
        obtain ⟨w, OM, ea, hw, hw0⟩ := hx
        refine w_iconst d249_60 (by decide) ?_
        refine w_istore5 d249_61 rfl ?_
        have L63 : ∀ (m63 : Nat) (g : Hp) (i : Nat), (inN (tgI (tD ts t)) k).length - i = m63 → Mo S (fun ζ => U S o ζ) h g → (OmC S g o ([], [], w ++ (inN (tgI (tD ts t)) k).take i)) → Wp G d 249 63 [some (vR (some d0)), some (vI (t : Nat)), some (vR (some o)), some (vI (k : Nat)), some (vI (6 * t + k : Nat)), some (vI (i : Nat))] [] g Q := by
          intro m63
          induction m63 using Nat.strongRecOn with | ind m63 IH63 => ?_
          intro g i hm63 Mg OM
          have okg := Mg.ok
          refine w_iload d249_63 rfl ?_
          refine w_aload_n d249_65 rfl ?_
          refine w_dloadS d249_66 (okg.kd hd0) (fr1427 okg hd0) ?_
          refine w_iload d249_69 rfl ?_
          refine w_ialoadV (x := ((inN (tgI (tD ts t)) k).length : Int)) d249_71 (gi1427 okg hd0 (by omega)) ((DT.u ok Mg hd0 nd).2.2 t ht |> fun D => (D.2.2.2.2.2.2.2.2.2.2.2.1 k hk).2.1) ?_
          refine w_icmpge d249_72 (fun c72 => ?_) (fun c72 => ?_)
          · rw [List.take_of_length_le (by omega)] at OM
            refine w_iconst d249_98 (by decide) ?_
            refine w_zreturn d249_99 (by decide) ?_
            refine k1 g Mg (by rw [ea]; intro z; exact hw0 (List.append_eq_nil_iff.mp z).1) (by rw [ea]; exact OM)
          · have hi : i < (inN (tgI (tD ts t)) k).length := by omega
            have bg := ((DT.u ok Mg hd0 nd).2.2 t ht |> fun D => (D.2.2.2.2.2.2.2.2.2.2.2.1 k hk).2.2.2)
            have rb := ra1426 okg hd0 (12 * (6 * t + k) + i)
            rw [bg.2.2.2 i hi] at rb
            refine w_aload_n d249_75 rfl ?_
            refine w_aload_n d249_76 rfl ?_
            refine w_dloadS d249_77 (okg.kd hd0) (fr1426 okg hd0) ?_
            refine w_bipush d249_80 (by decide) ?_
            refine w_iload d249_82 rfl ?_
            refine w_imul d249_84 (by constructor <;> omega) ?_
            rw [show (12 : Int) * (((6 * t + k) : Nat) : Int) = ((12 * (6 * t + k) : Nat) : Int) by omega]
            refine w_iload d249_85 rfl ?_
            refine w_iadd d249_87 (by constructor <;> omega) ?_
            refine w_ialoadV (x := (((inN (tgI (tD ts t)) k).getD i 0 : Nat) : Int)) d249_88 (bg.g okg hi) (bg.at hi) ?_
            refine w_callv2 d249_89 (by omega) rfl (okg.kd ho) (by simp) (Nat.le_of_ble_eq_true rfl) ?_
            refine k_O_why (c := (inN (tgI (tD ts t)) k).getD i 0) okg (by omega) ho OM (by show (w ++ (inN (tgI (tD ts t)) k).take i).length < 40; rw [List.length_append, List.length_take]; omega) (by omega) (fun h89 m89 OM => ?_)
            have ok89 := m89.ok
            have M89 := Mo.tr ok Mg m89 (fun ζ u => (U_trans U_refl u))
            refine w_iinc5 d249_92 rfl (by constructor <;> omega) ?_
            refine w_goto d249_95 ?_
            rw [show ((i : Nat) : Int) + 1 = ((i + 1 : Nat) : Int) by omega]
            rw [show (([], [], w ++ (inN (tgI (tD ts t)) k).take i) : OmV).2.2 ++ [(inN (tgI (tD ts t)) k).getD i 0] = w ++ (inN (tgI (tD ts t)) k).take (i + 1) by rw [take_succ hi, ← List.append_assoc]] at OM
            refine w_less ?_ (IH63 _ (by omega) h89 (i + 1) rfl M89 OM)
            exact ⟨Or.inr rfl, Or.inr rfl, Or.inr rfl, Or.inr rfl, Or.inr rfl, Or.inr rfl, trivial⟩
        refine w_less ?_ (L63 _ h57 0 rfl M57 (by rw [List.take_zero, List.append_nil]; exact OM))
        exact ⟨Or.inr rfl, Or.inr rfl, Or.inr rfl, Or.inr rfl, Or.inr rfl, Or.inr rfl, trivial⟩
      · have q : inB (tgI (tD ts t)) k = true := by
          rcases Bool.eq_false_or_eq_true (inB (tgI (tD ts t)) k) with z | z
          · exact z
          · rw [z] at c45; exact absurd rfl c45
        rw [if_pos q] at ea
        obtain ⟨g48, v48, s48⟩ := tg.al ok 2 (by decide)
        refine w_getstaticS d249_48 v48 ?_
        refine w_goto d249_51 ?_
        refine w_callv2 d249_57 (by omega) rfl (ok.kd ho) (by simp) (Nat.le_of_ble_eq_true rfl) ?_
        refine k_O_fails ok (by omega) ho s48 (by first | exact Nat.le_trans txl.2.1 (by decide) | exact Nat.le_trans txl.2.2.1 (by decide)) (fun h57 m57 OM => ?_)
        have ok57 := m57.ok
        have M57 := Mo.tr ok (Mo.refl (A := (fun ζ => U S o ζ)) ok) m57 (fun ζ u => (U_trans U_refl u))
        have hx : ∃ w, OmC S h57 o ([], [], w) ∧ ahead (fix fs) gs ts (tD ts t) = w ++ inN (tgI (tD ts t)) k ∧ w.length ≤ 10 ∧ w ≠ [] := ⟨_, OM, ea, by first | exact txl.2.1 | exact txl.2.2.1, by first | exact txl.2.2.2.2.1 | exact txl.2.2.2.2.2⟩
        obtain ⟨w, OM, ea, hw, hw0⟩ := hx
        refine w_iconst d249_60 (by decide) ?_
        refine w_istore5 d249_61 rfl ?_
        have L63 : ∀ (m63 : Nat) (g : Hp) (i : Nat), (inN (tgI (tD ts t)) k).length - i = m63 → Mo S (fun ζ => U S o ζ) h g → (OmC S g o ([], [], w ++ (inN (tgI (tD ts t)) k).take i)) → Wp G d 249 63 [some (vR (some d0)), some (vI (t : Nat)), some (vR (some o)), some (vI (k : Nat)), some (vI (6 * t + k : Nat)), some (vI (i : Nat))] [] g Q := by
          intro m63
          induction m63 using Nat.strongRecOn with | ind m63 IH63 => ?_
          intro g i hm63 Mg OM
          have okg := Mg.ok
          refine w_iload d249_63 rfl ?_
          refine w_aload_n d249_65 rfl ?_
          refine w_dloadS d249_66 (okg.kd hd0) (fr1427 okg hd0) ?_
          refine w_iload d249_69 rfl ?_
          refine w_ialoadV (x := ((inN (tgI (tD ts t)) k).length : Int)) d249_71 (gi1427 okg hd0 (by omega)) ((DT.u ok Mg hd0 nd).2.2 t ht |> fun D => (D.2.2.2.2.2.2.2.2.2.2.2.1 k hk).2.1) ?_
          refine w_icmpge d249_72 (fun c72 => ?_) (fun c72 => ?_)
          · rw [List.take_of_length_le (by omega)] at OM
            refine w_iconst d249_98 (by decide) ?_
            refine w_zreturn d249_99 (by decide) ?_
            refine k1 g Mg (by rw [ea]; intro z; exact hw0 (List.append_eq_nil_iff.mp z).1) (by rw [ea]; exact OM)
          · have hi : i < (inN (tgI (tD ts t)) k).length := by omega
            have bg := ((DT.u ok Mg hd0 nd).2.2 t ht |> fun D => (D.2.2.2.2.2.2.2.2.2.2.2.1 k hk).2.2.2)
            have rb := ra1426 okg hd0 (12 * (6 * t + k) + i)
            rw [bg.2.2.2 i hi] at rb
            refine w_aload_n d249_75 rfl ?_
            refine w_aload_n d249_76 rfl ?_
            refine w_dloadS d249_77 (okg.kd hd0) (fr1426 okg hd0) ?_
            refine w_bipush d249_80 (by decide) ?_
            refine w_iload d249_82 rfl ?_
            refine w_imul d249_84 (by constructor <;> omega) ?_
            rw [show (12 : Int) * (((6 * t + k) : Nat) : Int) = ((12 * (6 * t + k) : Nat) : Int) by omega]
            refine w_iload d249_85 rfl ?_
            refine w_iadd d249_87 (by constructor <;> omega) ?_
            refine w_ialoadV (x := (((inN (tgI (tD ts t)) k).getD i 0 : Nat) : Int)) d249_88 (bg.g okg hi) (bg.at hi) ?_
            refine w_callv2 d249_89 (by omega) rfl (okg.kd ho) (by simp) (Nat.le_of_ble_eq_true rfl) ?_
            refine k_O_why (c := (inN (tgI (tD ts t)) k).getD i 0) okg (by omega) ho OM (by show (w ++ (inN (tgI (tD ts t)) k).take i).length < 40; rw [List.length_append, List.length_take]; omega) (by omega) (fun h89 m89 OM => ?_)
            have ok89 := m89.ok
            have M89 := Mo.tr ok Mg m89 (fun ζ u => (U_trans U_refl u))
            refine w_iinc5 d249_92 rfl (by constructor <;> omega) ?_
            refine w_goto d249_95 ?_
            rw [show ((i : Nat) : Int) + 1 = ((i + 1 : Nat) : Int) by omega]
            rw [show (([], [], w ++ (inN (tgI (tD ts t)) k).take i) : OmV).2.2 ++ [(inN (tgI (tD ts t)) k).getD i 0] = w ++ (inN (tgI (tD ts t)) k).take (i + 1) by rw [take_succ hi, ← List.append_assoc]] at OM
            refine w_less ?_ (IH63 _ (by omega) h89 (i + 1) rfl M89 OM)
            exact ⟨Or.inr rfl, Or.inr rfl, Or.inr rfl, Or.inr rfl, Or.inr rfl, Or.inr rfl, trivial⟩
        refine w_less ?_ (L63 _ h57 0 rfl M57 (by rw [List.take_zero, List.append_nil]; exact OM))
        exact ⟨Or.inr rfl, Or.inr rfl, Or.inr rfl, Or.inr rfl, Or.inr rfl, Or.inr rfl, trivial⟩
    · have ea : ahead (fix fs) gs ts (tD ts t) = [] := by unfold ahead; rw [if_neg um, if_pos (by omega)]
      refine w_iconst d249_27 (by decide) ?_
      refine w_zreturn d249_28 (by decide) ?_
      exact k0 ea
  · have um : tgC (tD ts t) ≠ [] ∧ gval gs (tgC (tD ts t)) ≠ tgK (tD ts t) := by
      constructor <;> intro z
      · rw [decide_eq_true (Or.inl z)] at c11; exact absurd c11 (by decide)
      · rw [decide_eq_true (Or.inr z)] at c11; exact absurd c11 (by decide)
    have ea : ahead (fix fs) gs ts (tD ts t) = txt 1 := if_pos um
    refine w_aload_n d249_14 rfl ?_
    obtain ⟨g15, v15, s15⟩ := tg.al ok 1 (by decide)
    refine w_getstaticS d249_15 v15 ?_
    refine w_callv2 d249_18 (by omega) rfl (ok.kd ho) (by simp) (Nat.le_of_ble_eq_true rfl) ?_
    refine k_O_fails ok (by omega) ho s15 (Nat.le_trans txl.1 (by decide)) (fun h18 m18 OM => ?_)
    have ok18 := m18.ok
    have M18 := Mo.tr ok (Mo.refl (A := (fun ζ => U S o ζ)) ok) m18 (fun ζ u => (U_trans U_refl u))
    refine w_iconst d249_21 (by decide) ?_
    refine w_zreturn d249_22 (by decide) ?_
    refine k1 h18 M18 (by rw [ea]; exact txl.2.2.2.1) (by rw [ea]; exact OM)
