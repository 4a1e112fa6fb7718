/-! definitions: what they are, their methods -/
theorem lcmp0 {x y : Int64} : ((if x > y then (1 : Int) else if x = y then 0 else -1) = 0) ↔ x = y := by
  by_cases h : x > y
  · rw [if_pos h]
    constructor
    · intro q; cases q
    · intro q; subst q; exact absurd h Int64.lt_irrefl
  · rw [if_neg h]
    by_cases e : x = y
    · simp [e]
    · simp [e]
def b2i (b : Bool) : Int := if b then 1 else 0
theorem b2i_01 (b : Bool) : b2i b = 0 ∨ b2i b = 1 := by cases b <;> simp [b2i]
theorem b2i_t {b : Bool} : b2i b = 1 ↔ b = true := by cases b <;> simp [b2i]
theorem b2i_f {b : Bool} : b2i b = 0 ↔ b = false := by cases b <;> simp [b2i]
/-- a rule's eight signs in the table of rules -/
def krow (k : Nat) : List Nat := (List.range 8).map fun i => if (txt 0).getD (k * 8 + i) 0 = 32 then 0 else (txt 0).getD (k * 8 + i) 0
def knm (k : Nat) : List Nat := (krow k).filter (· != 0)
/-- the latest of the first k rules with this name -/
def rixJ (x : Int64) : Nat → Int
  | 0 => -1
  | k + 1 => if pk (krow k) = x then (k : Int) else rixJ x k
def rixK (n : List Nat) : Nat → Int
  | 0 => -1
  | k + 1 => if knm k = n then (k : Int) else rixK n k
def rix (n : List Nat) : Int := rixK n 8
theorem knm_ok : ∀ k : Fin 8, pk (krow k.val) = hd (knm k.val) ∧ (knm k.val).length ≤ 8 ∧ ∀ c ∈ knm k.val, 0 < c ∧ c < 128 := by decide +kernel
theorem rixJ_eq {n : List Nat} (o : okN n) : ∀ k, k ≤ 8 → rixJ (hd n) k = rixK n k
  | 0, _ => rfl
  | k + 1, hk => by
    have e := knm_ok ⟨k, by omega⟩
    have ih := rixJ_eq o k (by omega)
    unfold rixJ rixK
    rw [e.1, ih]
    by_cases q : knm k = n
    · rw [if_pos q, if_pos ((hd_inj ⟨e.2.1, e.2.2⟩ o).mpr q)]
    · rw [if_neg q, if_neg (fun z => q ((hd_inj ⟨e.2.1, e.2.2⟩ o).mp z))]
theorem rixJ_rg (x : Int64) : ∀ k, -1 ≤ rixJ x k ∧ rixJ x k < k
  | 0 => by unfold rixJ; omega
  | k + 1 => by
    have := rixJ_rg x k
    unfold rixJ
    split <;> omega
theorem lcmpE {x y : Int64} {v : Int} (h : v = (if x > y then (1 : Int) else if x = y then 0 else -1)) : v = 0 ↔ x = y := by rw [h]; exact lcmp0
abbrev InV : Type := Bool × List Nat
/-- name, rule, word, inputs, the condition's flag, its number -/
abbrev TgV : Type := List Nat × List Nat × List Nat × List InV × List Nat × Nat
def tgN (t : TgV) : List Nat := t.1
def tgR (t : TgV) : List Nat := t.2.1
def tgW (t : TgV) : List Nat := t.2.2.1
def tgI (t : TgV) : List InV := t.2.2.2.1
def tgC (t : TgV) : List Nat := t.2.2.2.2.1
def tgK (t : TgV) : Nat := t.2.2.2.2.2
def inB (l : List InV) (i : Nat) : Bool := (l.getD i (false, [])).1
def inN (l : List InV) (i : Nat) : List Nat := (l.getD i (false, [])).2
def okI (l : List InV) : Prop := l.length ≤ 6 ∧ ∀ i, i < l.length → okP (inN l i) ∧ (inB l i = true → okN (inN l i))
/-- the definition at a says t; its text is tx -/
def DefC (S : Shp) (h : Hp) (a : Nat) (t : TgV) (tx : List Nat) : Prop := FL h 129 a = hd (tgN t) ∧ FL h 130 a = hd (tgR t) ∧ FI h 131 a = rix (tgR t) ∧ FL h 132 a = hd (tgW t) ∧ FI h 133 a = (tgI t).length ∧
  (∀ i, i < (tgI t).length → AI h (sT S 134 a) i = b2i (inB (tgI t) i) ∧ AL h (sT S 135 a) i = hd (inN (tgI t) i) ∧ AL h (sT S 136 a) i = tl (inN (tgI t) i)) ∧ FL h 137 a = hd (tgC t) ∧ FI h 138 a = (tgK t : Nat) ∧ rl h (sT S 139 a) = tx ∧
  okN (tgN t) ∧ okN (tgR t) ∧ okN (tgW t) ∧ okI (tgI t) ∧ okN (tgC t) ∧ tgK t ≤ 9999
theorem DefC.mo {S : Shp} {h h' : Hp} {A : Nat → Prop} {a : Nat} {t : TgV} {tx : List Nat} (ok : Ok S h) (m : Mo S A h h') (ha : sK S a = 2) (hA : ∀ y, U S a y → ¬ A y) (D : DefC S h a t tx) : DefC S h' a t tx := by
  obtain ⟨d1, d2, d3, d4, d5, d6, d7, d8, d9, d10⟩ := D
  have na := hA a U_refl
  have n0 : sK S a ≠ 0 ∧ sK S a ≠ 6 := by omega
  have uT : ∀ f, f < 4096 → ¬ A (sT S f a) := fun f hf => hA _ (ok.so.uT hf U_refl)
  refine ⟨by rw [m.fl ok n0 na]; exact d1, by rw [m.fl ok n0 na]; exact d2, by rw [m.fi ok n0 na 131]; exact d3, by rw [m.fl ok n0 na]; exact d4, by rw [m.fi ok n0 na 133]; exact d5, fun i hi => ?_, by rw [m.fl ok n0 na]; exact d7, by rw [m.fi ok n0 na 138]; exact d8, by rw [m.rb ok (kT139 ok ha) (uT 139 (by decide))]; exact d9, d10⟩
  have k4 := kT134 ok ha
  have k5 := kT135 ok ha
  have k6 := kT136 ok ha
  rw [m.ai ok (by omega) (uT 134 (by decide)), m.al ok (by omega) (uT 135 (by decide)), m.al ok (by omega) (uT 136 (by decide))]
  exact d6 i hi
theorem t0_len : (txt 0).length = 64 := by decide +kernel
theorem sh8c : ((i32 8).toInt64 &&& 63) = 8 := by decide
theorem d71_0 : dc 71 0 = some (.aload_n 0, 1) := by decide +kernel
theorem d71_1 : dc 71 1 = some (.getfield 131, 4) := by decide +kernel
theorem d71_4 : dc 71 4 = some (.ifCond .lt ((11 : Nat) : Int), 7) := by decide +kernel
theorem d71_7 : dc 71 7 = some (.iconst 1, 8) := by decide +kernel
theorem d71_8 : dc 71 8 = some (.goto ((12 : Nat) : Int), 11) := by decide +kernel
theorem d71_11 : dc 71 11 = some (.iconst 0, 12) := by decide +kernel
theorem d71_12 : dc 71 12 = some (.freturn, 13) := by decide +kernel
theorem k_Def_hasRule {S : Shp} {G : Nat → Option Nat} {d : Nat} {h : Hp} {Q : Option MV → Hp → Prop} {a : Nat}  (ok : Ok S h) (h1 : 0 ≤ d) (ha : sK S a = 2) 
    (kk : Q (some (vI (if 0 ≤ FI h 131 a then 1 else 0))) h) : Cl G d 71 [vR (some a)] h Q := by
  show Wp G d 71 0 [some (vR (some a))] [] h Q
  refine w_aload_n d71_0 rfl ?_
  refine w_getfield d71_1 (ok.kd ha) ?_
  have r1 := rg131 ok ha
  refine w_iflt d71_4 (fun c4 => ?_) (fun c4 => ?_)
  · refine w_iconst d71_11 (by decide) ?_
    refine w_zreturn d71_12 (by decide) ?_
    exact qI (by rw [if_neg (by omega)]) kk
  · refine w_iconst d71_7 (by decide) ?_
    refine w_goto d71_8 ?_
    refine w_zreturn d71_12 (by decide) ?_
    exact qI (by rw [if_pos (by omega)]) kk
theorem d72_0 : dc 72 0 = some (.aload_n 0, 1) := by decide +kernel
theorem d72_1 : dc 72 1 = some (.getfield 131, 4) := by decide +kernel
theorem d72_4 : dc 72 4 = some (.iconst 4, 5) := by decide +kernel
theorem d72_5 : dc 72 5 = some (.if_icmp .ne ((12 : Nat) : Int), 8) := by decide +kernel
theorem d72_8 : dc 72 8 = some (.iconst 1, 9) := by decide +kernel
theorem d72_9 : dc 72 9 = some (.goto ((13 : Nat) : Int), 12) := by decide +kernel
theorem d72_12 : dc 72 12 = some (.iconst 0, 13) := by decide +kernel
theorem d72_13 : dc 72 13 = some (.aload_n 0, 14) := by decide +kernel
theorem d72_14 : dc 72 14 = some (.fload 132, 17) := by decide +kernel
theorem d72_17 : dc 72 17 = some (.lconst 0, 18) := by decide +kernel
theorem d72_18 : dc 72 18 = some (.lcmp, 19) := by decide +kernel
theorem d72_19 : dc 72 19 = some (.ifCond .eq ((26 : Nat) : Int), 22) := by decide +kernel
theorem d72_22 : dc 72 22 = some (.iconst 1, 23) := by decide +kernel
theorem d72_23 : dc 72 23 = some (.goto ((27 : Nat) : Int), 26) := by decide +kernel
theorem d72_26 : dc 72 26 = some (.iconst 0, 27) := by decide +kernel
theorem d72_27 : dc 72 27 = some (.if_icmp .ne ((34 : Nat) : Int), 30) := by decide +kernel
theorem d72_30 : dc 72 30 = some (.iconst 1, 31) := by decide +kernel
theorem d72_31 : dc 72 31 = some (.goto ((35 : Nat) : Int), 34) := by decide +kernel
theorem d72_34 : dc 72 34 = some (.iconst 0, 35) := by decide +kernel
theorem d72_35 : dc 72 35 = some (.freturn, 36) := by decide +kernel
theorem k_Def_hasItsWord {S : Shp} {G : Nat → Option Nat} {d : Nat} {h : Hp} {Q : Option MV → Hp → Prop} {a : Nat}  (ok : Ok S h) (h1 : 0 ≤ d) (ha : sK S a = 2) 
    (kk : Q (some (vI (if (FI h 131 a = 4 ↔ FL h 132 a ≠ 0) then 1 else 0))) h) : Cl G d 72 [vR (some a)] h Q := by
  show Wp G d 72 0 [some (vR (some a))] [] h Q
  refine w_aload_n d72_0 rfl ?_
  refine w_getfield d72_1 (ok.kd ha) ?_
  have r1 := rg131 ok ha
  refine w_iconst d72_4 (by decide) ?_
  refine w_icmpne d72_5 (fun c5 => ?_) (fun c5 => ?_)
  · refine w_iconst d72_12 (by decide) ?_
    refine w_aload_n d72_13 rfl ?_
    refine w_fload d72_14 (ok.kd ha) ?_
    refine w_lconst d72_17 ?_
    refine w_lcmp d72_18 ?_
    refine w_ifeq d72_19 (fun c19 => ?_) (fun c19 => ?_)
    · have z := lcmp0.mp c19
      refine w_iconst d72_26 (by decide) ?_
      refine w_icmpne d72_27 (fun c27 => ?_) (fun c27 => ?_)
      · refine w_iconst d72_34 (by decide) ?_
        refine w_zreturn d72_35 (by decide) ?_
        refine qI ?_ kk
        grind
      · refine w_iconst d72_30 (by decide) ?_
        refine w_goto d72_31 ?_
        refine w_zreturn d72_35 (by decide) ?_
        refine qI ?_ kk
        grind
    · have z : FL h 132 a ≠ 0 := fun q => c19 (lcmp0.mpr q)
      refine w_iconst d72_22 (by decide) ?_
      refine w_goto d72_23 ?_
      refine w_icmpne d72_27 (fun c27 => ?_) (fun c27 => ?_)
      · refine w_iconst d72_34 (by decide) ?_
        refine w_zreturn d72_35 (by decide) ?_
        refine qI ?_ kk
        grind
      · refine w_iconst d72_30 (by decide) ?_
        refine w_goto d72_31 ?_
        refine w_zreturn d72_35 (by decide) ?_
        refine qI ?_ kk
        grind
  · refine w_iconst d72_8 (by decide) ?_
    refine w_goto d72_9 ?_
    refine w_aload_n d72_13 rfl ?_
    refine w_fload d72_14 (ok.kd ha) ?_
    refine w_lconst d72_17 ?_
    refine w_lcmp d72_18 ?_
    refine w_ifeq d72_19 (fun c19 => ?_) (fun c19 => ?_)
    · have z := lcmp0.mp c19
      refine w_iconst d72_26 (by decide) ?_
      refine w_icmpne d72_27 (fun c27 => ?_) (fun c27 => ?_)
      · refine w_iconst d72_34 (by decide) ?_
        refine w_zreturn d72_35 (by decide) ?_
        refine qI ?_ kk
        grind
      · refine w_iconst d72_30 (by decide) ?_
        refine w_goto d72_31 ?_
        refine w_zreturn d72_35 (by decide) ?_
        refine qI ?_ kk
        grind
    · have z : FL h 132 a ≠ 0 := fun q => c19 (lcmp0.mpr q)
      refine w_iconst d72_22 (by decide) ?_
      refine w_goto d72_23 ?_
      refine w_icmpne d72_27 (fun c27 => ?_) (fun c27 => ?_)
      · refine w_iconst d72_34 (by decide) ?_
        refine w_zreturn d72_35 (by decide) ?_
        refine qI ?_ kk
        grind
      · refine w_iconst d72_30 (by decide) ?_
        refine w_goto d72_31 ?_
        refine w_zreturn d72_35 (by decide) ?_
        refine qI ?_ kk
        grind
theorem krow_at (k j : Nat) (hj : j < 8) : (krow k).take (j + 1) = (krow k).take j ++ [if (txt 0).getD (k * 8 + j) 0 = 32 then 0 else (txt 0).getD (k * 8 + j) 0] := by
  rw [List.take_succ]
  congr 1
  unfold krow
  rw [List.getElem?_map, List.getElem?_range hj]
  rfl
theorem d44_0 : dc 44 0 = some (.aload_n 0, 1) := by decide +kernel
theorem d44_1 : dc 44 1 = some (.lload_n 1, 2) := by decide +kernel
theorem d44_2 : dc 44 2 = some (.fstore 130, 5) := by decide +kernel
theorem d44_5 : dc 44 5 = some (.aload_n 0, 6) := by decide +kernel
theorem d44_6 : dc 44 6 = some (.iconst (-1), 7) := by decide +kernel
theorem d44_7 : dc 44 7 = some (.putfield 131, 10) := by decide +kernel
theorem d44_10 : dc 44 10 = some (.iconst 0, 11) := by decide +kernel
theorem d44_11 : dc 44 11 = some (.istore_n 3, 12) := by decide +kernel
theorem d44_12 : dc 44 12 = some (.iload_n 3, 13) := by decide +kernel
theorem d44_13 : dc 44 13 = some (.getstatic 50, 15) := by decide +kernel
theorem d44_15 : dc 44 15 = some (.invokevirtual 21, 18) := by decide +kernel
theorem d44_18 : dc 44 18 = some (.bipush 8, 20) := by decide +kernel
theorem d44_20 : dc 44 20 = some (.idiv, 21) := by decide +kernel
theorem d44_21 : dc 44 21 = some (.if_icmp .ge ((97 : Nat) : Int), 24) := by decide +kernel
theorem d44_24 : dc 44 24 = some (.lconst 0, 25) := by decide +kernel
theorem d44_25 : dc 44 25 = some (.lstore 4, 27) := by decide +kernel
theorem d44_27 : dc 44 27 = some (.iconst 0, 28) := by decide +kernel
theorem d44_28 : dc 44 28 = some (.istore 6, 30) := by decide +kernel
theorem d44_30 : dc 44 30 = some (.iload 6, 32) := by decide +kernel
theorem d44_32 : dc 44 32 = some (.bipush 8, 34) := by decide +kernel
theorem d44_34 : dc 44 34 = some (.if_icmp .ge ((79 : Nat) : Int), 37) := by decide +kernel
theorem d44_37 : dc 44 37 = some (.getstatic 50, 39) := by decide +kernel
theorem d44_39 : dc 44 39 = some (.iload_n 3, 40) := by decide +kernel
theorem d44_40 : dc 44 40 = some (.bipush 8, 42) := by decide +kernel
theorem d44_42 : dc 44 42 = some (.imul, 43) := by decide +kernel
theorem d44_43 : dc 44 43 = some (.iload 6, 45) := by decide +kernel
theorem d44_45 : dc 44 45 = some (.iadd, 46) := by decide +kernel
theorem d44_46 : dc 44 46 = some (.invokevirtual 24, 49) := by decide +kernel
theorem d44_49 : dc 44 49 = some (.istore 7, 51) := by decide +kernel
theorem d44_51 : dc 44 51 = some (.lload 4, 53) := by decide +kernel
theorem d44_53 : dc 44 53 = some (.bipush 8, 55) := by decide +kernel
theorem d44_55 : dc 44 55 = some (.lshl, 56) := by decide +kernel
theorem d44_56 : dc 44 56 = some (.iload 7, 58) := by decide +kernel
theorem d44_58 : dc 44 58 = some (.bipush 32, 60) := by decide +kernel
theorem d44_60 : dc 44 60 = some (.if_icmp .ne ((67 : Nat) : Int), 63) := by decide +kernel
theorem d44_63 : dc 44 63 = some (.iconst 0, 64) := by decide +kernel
theorem d44_64 : dc 44 64 = some (.goto ((69 : Nat) : Int), 67) := by decide +kernel
theorem d44_67 : dc 44 67 = some (.iload 7, 69) := by decide +kernel
theorem d44_69 : dc 44 69 = some (.i2l, 70) := by decide +kernel
theorem d44_70 : dc 44 70 = some (.lor, 71) := by decide +kernel
theorem d44_71 : dc 44 71 = some (.lstore 4, 73) := by decide +kernel
theorem d44_73 : dc 44 73 = some (.iinc 6 1, 76) := by decide +kernel
theorem d44_76 : dc 44 76 = some (.goto ((30 : Nat) : Int), 79) := by decide +kernel
theorem d44_79 : dc 44 79 = some (.lload 4, 81) := by decide +kernel
theorem d44_81 : dc 44 81 = some (.lload_n 1, 82) := by decide +kernel
theorem d44_82 : dc 44 82 = some (.lcmp, 83) := by decide +kernel
theorem d44_83 : dc 44 83 = some (.ifCond .ne ((91 : Nat) : Int), 86) := by decide +kernel
theorem d44_86 : dc 44 86 = some (.aload_n 0, 87) := by decide +kernel
theorem d44_87 : dc 44 87 = some (.iload_n 3, 88) := by decide +kernel
theorem d44_88 : dc 44 88 = some (.putfield 131, 91) := by decide +kernel
theorem d44_91 : dc 44 91 = some (.iinc 3 1, 94) := by decide +kernel
theorem d44_94 : dc 44 94 = some (.goto ((12 : Nat) : Int), 97) := by decide +kernel
theorem d44_97 : dc 44 97 = some (.return_, 98) := by decide +kernel
theorem k_Def_setRule {S : Shp} {G : Nat → Option Nat} {d : Nat} {h : Hp} {Q : Option MV → Hp → Prop} {a : Nat} {x : Int64}  (ok : Ok S h) (h1 : 4 ≤ d) (ha : sK S a = 2) (tg : Tg S G)
    (kk : ∀ h', Mo S (fun y => y = a) h h' → FL h' 130 a = x → FI h' 131 a = rixJ x 8 → (∀ f, f ≠ 130 → FL h' f a = FL h f a) → (∀ f, f ≠ 131 → FI h' f a = FI h f a) → Q none h') : Cl G d 44 [vR (some a), vJ x] h Q := by
  show Wp G d 44 0 [some (vR (some a)), some (vJ x), none, none, none, none, none, none] [] h Q
  refine w_aload_n d44_0 rfl ?_
  refine w_lload_n d44_1 rfl ?_
  refine wf130 d44_2 ok ha (fun h2 e2 m2 => ?_)
  have ok2 := m2.ok
  have M2 := Mo.tr ok (Mo.refl (A := (fun x => x = a)) ok) m2 (fun x e => e)
  refine w_aload_n d44_5 rfl ?_
  refine w_iconst d44_6 (by decide) ?_
  refine wf131 d44_7 ok2 ha (by omega) (fun h7 e7 m7 => ?_)
  have ok7 := m7.ok
  have M7 := Mo.tr ok M2 m7 (fun x e => e)
  refine w_iconst d44_10 (by decide) ?_
  refine w_istore3 d44_11 rfl ?_
  have L12 : ∀ (m12 : Nat) (g : Hp) (k : Nat), 8 - k = m12 → Mo S (fun x => x = a) h g → (k ≤ 8) → (FL g 130 a = x) → (FI g 131 a = rixJ x k) → (∀ f, f ≠ 130 → FL g f a = FL h f a) → (∀ f, f ≠ 131 → FI g f a = FI h f a) → Wp G d 44 12 [some (vR (some a)), some (vJ x), none, some (vI (k : Nat)), none, none, none, none] [] g Q := by
    intro m12
    induction m12 using Nat.strongRecOn with | ind m12 IH12 => ?_
    intro g k hm12 Mg i1 i2 i3 i4 i5
    have okg := Mg.ok
    refine w_iload_n d44_12 rfl ?_
    obtain ⟨g13, v13, s13⟩ := tg.tx okg 0 (by decide)
    refine w_getstaticS d44_13 v13 ?_
    refine w_callv1 d44_15 (by omega) rfl s13.1 (by simp) (Nat.le_of_ble_eq_true rfl) ?_
    refine c_Str_length (by omega) s13 ?_
    rw [t0_len]
    refine w_bipush d44_18 (by decide) ?_
    refine w_idiv d44_20 (by decide) ?_
    have e20 : (((64 : Nat) : Int)).tdiv 8 = 8 := by decide
    rw [e20]
    refine w_icmpge d44_21 (fun c21 => ?_) (fun c21 => ?_)
    · refine w_return d44_97 ?_
      exact kk g Mg i2 (by rw [i3, show k = 8 by omega]) i4 i5
    · have hk : k < 8 := by omega
      refine w_lconst d44_24 ?_
      refine w_lstore4 d44_25 rfl ?_
      refine w_iconst d44_27 (by decide) ?_
      refine w_istore6 d44_28 rfl ?_
      have L30 : ∀ (m30 : Nat) (j : Nat), 8 - j = m30 → (j ≤ 8) → Wp G d 44 30 [some (vR (some a)), some (vJ x), none, some (vI (k : Nat)), some (vJ (pk ((krow k).take j))), none, some (vI (j : Nat)), none] [] g Q := by
        intro m30
        induction m30 using Nat.strongRecOn with | ind m30 IH30 => ?_
        intro j hm30 j1
        refine w_iload d44_30 rfl ?_
        refine w_bipush d44_32 (by decide) ?_
        refine w_icmpge d44_34 (fun c34 => ?_) (fun c34 => ?_)
        · rw [List.take_of_length_le (l := krow k) (i := j) (by simp [krow]; omega)]
          refine w_lload d44_79 rfl ?_
          refine w_lload_n d44_81 rfl ?_
          refine w_lcmp d44_82 ?_
          refine w_ifne d44_83 (fun c83 => ?_) (fun c83 => ?_)
          · have z : pk (krow k) ≠ x := fun q => c83 (lcmp0.mpr q)
            refine w_iinc3 d44_91 rfl (by constructor <;> omega) ?_
            refine w_goto d44_94 ?_
            refine w_less ?_ (IH12 _ (by omega) g (k + 1) rfl Mg (by omega) i2 (by rw [i3, rixJ, if_neg z]) i4 i5)
            exact ⟨Or.inr rfl, Or.inr rfl, Or.inl rfl, Or.inr rfl, Or.inl rfl, Or.inl rfl, Or.inl rfl, Or.inl rfl, trivial⟩
          · have z : pk (krow k) = x := lcmp0.mp c83
            refine w_aload_n d44_86 rfl ?_
            refine w_iload_n d44_87 rfl ?_
            refine wf131 d44_88 okg ha (by omega) (fun h88 e88 m88 => ?_)
            have ok88 := m88.ok
            have M88 := Mo.tr ok Mg m88 (fun x e => e)
            refine w_iinc3 d44_91 rfl (by constructor <;> omega) ?_
            refine w_goto d44_94 ?_
            refine w_less ?_ (IH12 _ (by omega) h88 (k + 1) rfl M88 (by omega) (by rw [e88, FL_sFI]; exact i2) (by rw [e88, FI_sFI, if_pos ⟨rfl, rfl⟩, rixJ, if_pos z]) (fun f hf => by rw [e88, FL_sFI]; exact i4 f hf) (fun f hf => by rw [e88, FI_sFI, if_neg (fun q => hf q.1)]; exact i5 f hf))
            exact ⟨Or.inr rfl, Or.inr rfl, Or.inl rfl, Or.inr rfl, Or.inl rfl, Or.inl rfl, Or.inl rfl, Or.inl rfl, trivial⟩
        · have hj : j < 8 := by omega
          obtain ⟨g37, v37, s37⟩ := tg.tx okg 0 (by decide)
          refine w_getstaticS d44_37 v37 ?_
          refine w_iload_n d44_39 rfl ?_
          refine w_bipush d44_40 (by decide) ?_
          refine w_imul d44_42 (by constructor <;> omega) ?_
          refine w_iload d44_43 rfl ?_
          refine w_iadd d44_45 (by constructor <;> omega) ?_
          refine w_callv2 d44_46 (by omega) rfl s37.1 (by simp) (Nat.le_of_ble_eq_true rfl) ?_
          refine c_Str_charAt (by omega) s37 (by have := t0_len; omega) ?_
          rw [show (((k : Nat) : Int) * 8 + ((j : Nat) : Int)).toNat = k * 8 + j by omega]
          refine w_istore7 d44_49 rfl ?_
          refine w_lload d44_51 rfl ?_
          refine w_bipush d44_53 (by decide) ?_
          refine w_lshl d44_55 ?_
          refine w_iload d44_56 rfl ?_
          refine w_bipush d44_58 (by decide) ?_
          refine w_icmpne d44_60 (fun c60 => ?_) (fun c60 => ?_)
          · have z6 : ¬ (txt 0).getD (k * 8 + j) 0 = 32 := by omega
            refine w_iload d44_67 rfl ?_
            refine w_i2l d44_69 ?_
            refine w_lor d44_70 ?_
            have ev := krow_at k j hj
            refine w_lstore4 d44_71 rfl ?_
            refine w_iinc6 d44_73 rfl (by constructor <;> omega) ?_
            refine w_goto d44_76 ?_
            have ex : (((pk ((krow k).take j)) <<< ((i32 8).toInt64 &&& 63)) ||| (i32 (if (txt 0).getD (k * 8 + j) 0 = 32 then 0 else (((txt 0).getD (k * 8 + j) 0 : Nat) : Int))).toInt64) = pk ((krow k).take (j + 1)) := by
              rw [ev, pk_snoc, sh8c]
              split <;> rfl
            first | rw [if_pos z6] at ex | rw [if_neg z6] at ex
            try rw [ex]
            refine w_less ?_ (IH30 _ (by omega) (j + 1) rfl (by omega))
            exact ⟨Or.inr rfl, Or.inr rfl, Or.inl rfl, Or.inr rfl, Or.inr rfl, Or.inl rfl, Or.inr rfl, Or.inl rfl, trivial⟩
          · have z6 : (txt 0).getD (k * 8 + j) 0 = 32 := by omega
            refine w_iconst d44_63 (by decide) ?_
            refine w_goto d44_64 ?_
            refine w_i2l d44_69 ?_
            refine w_lor d44_70 ?_
            have ev := krow_at k j hj
            refine w_lstore4 d44_71 rfl ?_
            refine w_iinc6 d44_73 rfl (by constructor <;> omega) ?_
            refine w_goto d44_76 ?_
            have ex : (((pk ((krow k).take j)) <<< ((i32 8).toInt64 &&& 63)) ||| (i32 (if (txt 0).getD (k * 8 + j) 0 = 32 then 0 else (((txt 0).getD (k * 8 + j) 0 : Nat) : Int))).toInt64) = pk ((krow k).take (j + 1)) := by
              rw [ev, pk_snoc, sh8c]
              split <;> rfl
            first | rw [if_pos z6] at ex | rw [if_neg z6] at ex
            try rw [ex]
            refine w_less ?_ (IH30 _ (by omega) (j + 1) rfl (by omega))
            exact ⟨Or.inr rfl, Or.inr rfl, Or.inl rfl, Or.inr rfl, Or.inr rfl, Or.inl rfl, Or.inr rfl, Or.inl rfl, trivial⟩
      refine w_less ?_ (L30 _ 0 rfl (by omega))
      exact ⟨Or.inr rfl, Or.inr rfl, Or.inl rfl, Or.inr rfl, Or.inr rfl, Or.inl rfl, Or.inr rfl, Or.inl rfl, trivial⟩
  refine w_less ?_ (L12 _ h7 0 rfl M7 (by omega) (by rw [e7, e2, FL_sFI, FL_sFL, if_pos ⟨rfl, rfl⟩]) (by rw [e7, FI_sFI, if_pos ⟨rfl, rfl⟩]; rfl) (fun f hf => by rw [e7, e2, FL_sFI, FL_sFL, if_neg (fun q => hf q.1)]) (fun f hf => by rw [e7, FI_sFI, if_neg (fun q => hf q.1), e2, FI_sFL]))
  exact ⟨Or.inr rfl, Or.inr rfl, Or.inl rfl, Or.inr rfl, Or.inl rfl, Or.inl rfl, Or.inl rfl, Or.inl rfl, trivial⟩
