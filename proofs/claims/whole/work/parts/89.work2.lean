/-! the workshop: steps, joined inputs, parts -/
theorem InsC.f {S : Shp} {h h' : Hp} {A P : Nat → Prop} {w : Nat} {ins : List (List Nat)} (ok : Ok S h) (m : Mo S A h h') (hw : sK S w = 10) (h1 : ¬ A (sT S 1153 w)) (h0 : ¬ A (sT S 1152 w)) (hP : ∀ r, sK S r = 6 → P r → ¬ A r) (D : InsC S h w P ins) : InsC S h' w P ins := by
  have k := kT1153 ok hw
  refine ⟨D.1, fun i hi => ?_⟩
  obtain ⟨r, r1, r2, r3, r4, r5⟩ := D.2 i hi
  refine ⟨r, by rw [m.ar ok (by omega) h1]; exact r1, r2, ?_, r4, r5⟩
  rw [m.rb ok r2 (by rcases r4 with q | q; rw [q]; exact h0; exact hP r r2 q)]
  exact r3
def totL (ins : List (List Nat)) : Nat → Nat
  | 0 => 0
  | i + 1 => totL ins i + (ins.getD i []).length
theorem totL_le {ins : List (List Nat)} : ∀ {n : Nat}, (∀ i, i < n → (ins.getD i []).length ≤ 600) → totL ins n ≤ 600 * n
  | 0, _ => Nat.le_refl _
  | n + 1, H => by
    have h1 := totL_le (ins := ins) (n := n) (fun i hi => H i (by omega))
    have h2 := H n (by omega)
    unfold totL
    omega
/-- an end of line where one is wanting -/
def sepB (s : Bool) (x : List Nat) : List Nat := if s = true ∧ 0 < x.length ∧ atv x ((x.length : Int) - 1) ≠ 10 then [10] else []
def jnW (s : Bool) (ins : List (List Nat)) : Nat → List Nat
  | 0 => []
  | i + 1 => jnW s ins i ++ (ins.getD i [] ++ sepB s (ins.getD i []))
theorem sepB_len (s : Bool) (x : List Nat) : (sepB s x).length ≤ 1 := by unfold sepB; split <;> simp
theorem jnW_le {s : Bool} {ins : List (List Nat)} : ∀ {n : Nat}, (∀ i, i < n → (ins.getD i []).length ≤ 600) → (jnW s ins n).length ≤ 601 * n
  | 0, _ => Nat.le_refl _
  | n + 1, H => by
    have h1 := jnW_le (s := s) (ins := ins) (n := n) (fun i hi => H i (by omega))
    have h2 := H n (by omega)
    have h3 := sepB_len s (ins.getD n [])
    unfold jnW
    rw [List.length_append, List.length_append]
    omega
/-- the parts of an action: of its rule, of its first inputs -/
def ptL (t : TgV) (ins : List (List Nat)) : Nat → List Int64
  | 0 => [dig (tgR t ++ ([46] ++ tgW t))]
  | i + 1 => ptL t ins i ++ [dig ((if inB (tgI t) i = true then [116] else [102]) ++ (inN (tgI t) i ++ ([10] ++ ins.getD i [])))]
theorem ptL_len {t : TgV} {ins : List (List Nat)} : ∀ n, (ptL t ins n).length = n + 1
  | 0 => rfl
  | n + 1 => by
    unfold ptL
    rw [List.length_append, ptL_len n]
    rfl
def hiI (x : Int64) : Int := ((x.toUInt64 >>> ((i32 32).toInt64.toUInt64 &&& Int64.toUInt64 63)).toInt64).toInt32.toInt
def loI (x : Int64) : Int := x.toInt32.toInt
def kyB (ps : List Int64) : Nat → List Nat
  | 0 => []
  | i + 1 => kyB ps i ++ (by4 (hiI (ps.getD i 0)) ++ by4 (loI (ps.getD i 0)))
def keyW (ps : List Int64) : Int64 := dig (kyB ps ps.length)
theorem by4_len (n : Int) : (by4 n).length = 4 := by simp [by4]
theorem kyB_len (ps : List Int64) : ∀ n, (kyB ps n).length = 8 * n
  | 0 => rfl
  | n + 1 => by
    unfold kyB
    rw [List.length_append, List.length_append, kyB_len ps n, by4_len, by4_len]
    omega
theorem tdiv10 (n : Nat) : ((n : Nat) : Int).tdiv 10 = ((n / 10 : Nat) : Int) := rfl
theorem d112_0 : dc 112 0 = some (.iconst 0, 1) := by decide +kernel
theorem d112_1 : dc 112 1 = some (.istore_n 2, 2) := by decide +kernel
theorem d112_2 : dc 112 2 = some (.iconst 0, 3) := by decide +kernel
theorem d112_3 : dc 112 3 = some (.istore_n 3, 4) := by decide +kernel
theorem d112_4 : dc 112 4 = some (.iload_n 3, 5) := by decide +kernel
theorem d112_5 : dc 112 5 = some (.aload_n 1, 6) := by decide +kernel
theorem d112_6 : dc 112 6 = some (.getfield 133, 9) := by decide +kernel
theorem d112_9 : dc 112 9 = some (.if_icmp .ge ((30 : Nat) : Int), 12) := by decide +kernel
theorem d112_12 : dc 112 12 = some (.iload_n 2, 13) := by decide +kernel
theorem d112_13 : dc 112 13 = some (.aload_n 0, 14) := by decide +kernel
theorem d112_14 : dc 112 14 = some (.dload 1153, 17) := by decide +kernel
theorem d112_17 : dc 112 17 = some (.iload_n 3, 18) := by decide +kernel
theorem d112_18 : dc 112 18 = some (.aaload, 19) := by decide +kernel
theorem d112_19 : dc 112 19 = some (.invokevirtual 13, 22) := by decide +kernel
theorem d112_22 : dc 112 22 = some (.iadd, 23) := by decide +kernel
theorem d112_23 : dc 112 23 = some (.istore_n 2, 24) := by decide +kernel
theorem d112_24 : dc 112 24 = some (.iinc 3 1, 27) := by decide +kernel
theorem d112_27 : dc 112 27 = some (.goto ((4 : Nat) : Int), 30) := by decide +kernel
theorem d112_30 : dc 112 30 = some (.iconst 2, 31) := by decide +kernel
theorem d112_31 : dc 112 31 = some (.iload_n 2, 32) := by decide +kernel
theorem d112_32 : dc 112 32 = some (.bipush 9, 34) := by decide +kernel
theorem d112_34 : dc 112 34 = some (.iadd, 35) := by decide +kernel
theorem d112_35 : dc 112 35 = some (.bipush 10, 37) := by decide +kernel
theorem d112_37 : dc 112 37 = some (.idiv, 38) := by decide +kernel
theorem d112_38 : dc 112 38 = some (.iadd, 39) := by decide +kernel
theorem d112_39 : dc 112 39 = some (.ireturn, 40) := by decide +kernel
theorem k_Wk_steps {S : Shp} {G : Nat → Option Nat} {d : Nat} {h : Hp} {Q : Option MV → Hp → Prop} {w : Nat} {dd : Nat}  (ok : Ok S h) (h1 : 1 ≤ d) (hw : sK S w = 10) (hdd : sK S dd = 2) {t : TgV} {tx : List Nat} (D : DefC S h dd t tx) {P : Nat → Prop} {ins : List (List Nat)} (ic : InsC S h w P ins) (hin : ins.length = (tgI t).length)
    (kk : Q (some (vI ((2 + (totL ins ins.length + 9) / 10 : Nat) : Int))) h) : Cl G d 112 [vR (some w), vR (some dd)] h Q := by
  show Wp G d 112 0 [some (vR (some w)), some (vR (some dd)), none, none] [] h Q
  obtain ⟨i6, ic2⟩ := ic
  have D5 := D.2.2.2.2.1
  have tle := fun n hn => totL_le (ins := ins) (n := n) (fun i hi => by obtain ⟨r, r1, r2, r3, r4, r5⟩ := ic2 i (Nat.lt_of_lt_of_le hi hn); exact r5)
  refine w_iconst d112_0 (by decide) ?_
  refine w_istore2 d112_1 rfl ?_
  refine w_iconst d112_2 (by decide) ?_
  refine w_istore3 d112_3 rfl ?_
  have L4 : ∀ (m4 : Nat) (i : Nat), ins.length - i = m4 → (i ≤ ins.length) → Wp G d 112 4 [some (vR (some w)), some (vR (some dd)), some (vI (totL ins i : Nat)), some (vI (i : Nat))] [] h Q := by
    intro m4
    induction m4 using Nat.strongRecOn with | ind m4 IH4 => ?_
    intro i hm4 i1
    have tl := tle i i1
    refine w_iload_n d112_4 rfl ?_
    refine w_aload_n d112_5 rfl ?_
    refine w_getI (x := (((tgI t).length : Nat) : Int)) d112_6 (ok.kd hdd) D5 ?_
    refine w_icmpge d112_9 (fun c9 => ?_) (fun c9 => ?_)
    · have hI : i = ins.length := by omega
      refine w_iconst d112_30 (by decide) ?_
      refine w_iload_n d112_31 rfl ?_
      refine w_bipush d112_32 (by decide) ?_
      refine w_iadd d112_34 (by constructor <;> omega) ?_
      rw [show ((totL ins i : Nat) : Int) + 9 = ((totL ins i + 9 : Nat) : Int) by omega]
      refine w_bipush d112_35 (by decide) ?_
      refine w_idiv d112_37 (by decide) ?_
      rw [tdiv10]
      refine w_iadd d112_38 (by constructor <;> omega) ?_
      refine w_ireturn d112_39 ?_
      refine qI ?_ kk
      rw [hI]
      omega
    · obtain ⟨r, r1, r2, r3, r4, r5⟩ := ic2 i (by omega)
      refine w_iload_n d112_12 rfl ?_
      refine w_aload_n d112_13 rfl ?_
      refine w_dloadS d112_14 (ok.kd hw) (fr1153 ok hw) ?_
      refine w_iload_n d112_17 rfl ?_
      refine w_aaloadSN d112_18 (gi1153 ok hw (by omega)) r1 ?_
      refine w_callv1 d112_19 (by omega) rfl (ok.kd r2) (by simp) (Nat.le_of_ble_eq_true rfl) ?_
      refine r_Row_size ok r2 ?_
      rw [r3]
      refine w_iadd d112_22 (by constructor <;> omega) ?_
      rw [show ((totL ins i : Nat) : Int) + (((ins.getD i []).length : Nat) : Int) = ((totL ins (i + 1) : Nat) : Int) by rw [totL]; omega]
      refine w_istore2 d112_23 rfl ?_
      refine w_iinc3 d112_24 rfl (by constructor <;> omega) ?_
      refine w_goto d112_27 ?_
      refine w_less ?_ (IH4 _ (by omega) (i + 1) rfl (by omega))
      exact ⟨Or.inr rfl, Or.inr rfl, Or.inr rfl, Or.inr rfl, trivial⟩
  refine w_less ?_ (L4 _ 0 rfl (by omega))
  exact ⟨Or.inr rfl, Or.inr rfl, Or.inr rfl, Or.inr rfl, trivial⟩
theorem d115_0 : dc 115 0 = some (.aload_n 0, 1) := by decide +kernel
theorem d115_1 : dc 115 1 = some (.dload 1154, 4) := by decide +kernel
theorem d115_4 : dc 115 4 = some (.invokevirtual 18, 7) := by decide +kernel
theorem d115_7 : dc 115 7 = some (.iconst 0, 8) := by decide +kernel
theorem d115_8 : dc 115 8 = some (.istore_n 2, 9) := by decide +kernel
theorem d115_9 : dc 115 9 = some (.iload_n 2, 10) := by decide +kernel
theorem d115_10 : dc 115 10 = some (.aload_n 1, 11) := by decide +kernel
theorem d115_11 : dc 115 11 = some (.getfield 133, 14) := by decide +kernel
theorem d115_14 : dc 115 14 = some (.if_icmp .ge ((77 : Nat) : Int), 17) := by decide +kernel
theorem d115_17 : dc 115 17 = some (.aload_n 0, 18) := by decide +kernel
theorem d115_18 : dc 115 18 = some (.dload 1153, 21) := by decide +kernel
theorem d115_21 : dc 115 21 = some (.iload_n 2, 22) := by decide +kernel
theorem d115_22 : dc 115 22 = some (.aaload, 23) := by decide +kernel
theorem d115_23 : dc 115 23 = some (.astore_n 3, 24) := by decide +kernel
theorem d115_24 : dc 115 24 = some (.aload_n 0, 25) := by decide +kernel
theorem d115_25 : dc 115 25 = some (.dload 1154, 28) := by decide +kernel
theorem d115_28 : dc 115 28 = some (.aload_n 3, 29) := by decide +kernel
theorem d115_29 : dc 115 29 = some (.invokevirtual 109, 32) := by decide +kernel
theorem d115_32 : dc 115 32 = some (.aload_n 1, 33) := by decide +kernel
theorem d115_33 : dc 115 33 = some (.getfield 131, 36) := by decide +kernel
theorem d115_36 : dc 115 36 = some (.iconst 1, 37) := by decide +kernel
theorem d115_37 : dc 115 37 = some (.if_icmp .ne ((71 : Nat) : Int), 40) := by decide +kernel
theorem d115_40 : dc 115 40 = some (.aload_n 3, 41) := by decide +kernel
theorem d115_41 : dc 115 41 = some (.invokevirtual 13, 44) := by decide +kernel
theorem d115_44 : dc 115 44 = some (.ifCond .le ((71 : Nat) : Int), 47) := by decide +kernel
theorem d115_47 : dc 115 47 = some (.aload_n 3, 48) := by decide +kernel
theorem d115_48 : dc 115 48 = some (.aload_n 3, 49) := by decide +kernel
theorem d115_49 : dc 115 49 = some (.invokevirtual 13, 52) := by decide +kernel
theorem d115_52 : dc 115 52 = some (.iconst 1, 53) := by decide +kernel
theorem d115_53 : dc 115 53 = some (.isub, 54) := by decide +kernel
theorem d115_54 : dc 115 54 = some (.invokevirtual 23, 57) := by decide +kernel
theorem d115_57 : dc 115 57 = some (.bipush 10, 59) := by decide +kernel
theorem d115_59 : dc 115 59 = some (.if_icmp .eq ((71 : Nat) : Int), 62) := by decide +kernel
theorem d115_62 : dc 115 62 = some (.aload_n 0, 63) := by decide +kernel
theorem d115_63 : dc 115 63 = some (.dload 1154, 66) := by decide +kernel
theorem d115_66 : dc 115 66 = some (.bipush 10, 68) := by decide +kernel
theorem d115_68 : dc 115 68 = some (.invokevirtual 15, 71) := by decide +kernel
theorem d115_71 : dc 115 71 = some (.iinc 2 1, 74) := by decide +kernel
theorem d115_74 : dc 115 74 = some (.goto ((9 : Nat) : Int), 77) := by decide +kernel
theorem d115_77 : dc 115 77 = some (.return_, 78) := by decide +kernel
theorem k_Wk_joinInputs {S : Shp} {G : Nat → Option Nat} {d : Nat} {h : Hp} {Q : Option MV → Hp → Prop} {w : Nat} {dd : Nat}  (ok : Ok S h) (h1 : 2 ≤ d) (hw : sK S w = 10) (hdd : sK S dd = 2) {t : TgV} {tx : List Nat} (D : DefC S h dd t tx) {P : Nat → Prop} {ins : List (List Nat)} (ic : InsC S h w P ins) (hin : ins.length = (tgI t).length) (hP : ∀ r, P r → ¬ U S w r)
    (kk : ∀ h', Mo S (fun y => y = sT S 1154 w) h h' → rl h' (sT S 1154 w) = jnW (decide (rix (tgR t) = 1)) ins ins.length → Q none h') : Cl G d 115 [vR (some w), vR (some dd)] h Q := by
  show Wp G d 115 0 [some (vR (some w)), some (vR (some dd)), none, none] [] h Q
  obtain ⟨i6, ic2⟩ := id ic
  have D5 := D.2.2.2.2.1
  have D3 := D.2.2.1
  have c54 := cT1154 ok hw
  have K54 := kT1154 ok hw
  have jle := fun n hn => jnW_le (s := decide (rix (tgR t) = 1)) (ins := ins) (n := n) (fun i hi => by obtain ⟨r, r1, r2, r3, r4, r5⟩ := ic2 i (Nat.lt_of_lt_of_le hi hn); exact r5)
  have nd : ∀ y, sK S y ≠ 6 → ¬ y = sT S 1154 w := fun y hy z => hy (z ▸ K54)
  refine w_aload_n d115_0 rfl ?_
  refine w_dloadS d115_1 (ok.kd hw) (fr1154 ok hw) ?_
  refine w_callv1 d115_4 (by omega) rfl (ok.kd (kT1154 ok hw)) (by simp) (Nat.le_of_ble_eq_true rfl) ?_
  refine r_Row_clear ok (kT1154 ok hw) (fun h4 m4 e4_1 e4_2 => ?_)
  have ok4 := m4.ok
  have M4 := Mo.tr ok (Mo.refl (A := (fun x => x = (sT S 1154 w))) ok) m4 (fun x e => e)
  have cg4 : 3606 ≤ cap h4 (sT S 1154 w) := by rw [e4_2]; exact c54
  refine w_iconst d115_7 (by decide) ?_
  refine w_istore2 d115_8 rfl ?_
  have L9 : ∀ (m9 : Nat) (g : Hp) (i : Nat), ins.length - i = m9 → Mo S (fun x => x = (sT S 1154 w)) h g → (i ≤ ins.length) → (rl g (sT S 1154 w) = jnW (decide (rix (tgR t) = 1)) ins i) → (3606 ≤ cap g (sT S 1154 w)) → Wp G d 115 9 [some (vR (some w)), some (vR (some dd)), some (vI (i : Nat)), none] [] g Q := by
    intro m9
    induction m9 using Nat.strongRecOn with | ind m9 IH9 => ?_
    intro g i hm9 Mg i1 i2 i3
    have okg := Mg.ok
    have icg := ic.f ok Mg hw (nd _ (by have := kT1153 ok hw; omega)) (ok.so.ou (by decide) (by decide) (Or.inl (by decide))) (fun r k q z => hP r q (z ▸ ok.so.uT (by decide) U_refl))
    refine w_iload_n d115_9 rfl ?_
    refine w_aload_n d115_10 rfl ?_
    refine w_getI (x := (((tgI t).length : Nat) : Int)) d115_11 (okg.kd hdd) ((Mg.fi ok (by omega) (nd dd (by omega)) 133).trans D5) ?_
    refine w_icmpge d115_14 (fun c14 => ?_) (fun c14 => ?_)
    · refine w_return d115_77 ?_
      exact kk g Mg (by rw [i2, show i = ins.length by omega])
    · obtain ⟨r, r1, r2, r3, r4, r5⟩ := icg.2 i (by omega)
      have nr : r ≠ sT S 1154 w := fun z => by
        rcases r4 with q | q
        · exact ok.so.ou (f := 1152) (g := 1154) (by decide) (by decide) (Or.inl (by decide)) (q.symm.trans z)
        · exact hP r q (z ▸ ok.so.uT (by decide) U_refl)
      have jl := jle (i + 1) (by omega)
      refine w_aload_n d115_17 rfl ?_
      refine w_dloadS d115_18 (okg.kd hw) (fr1153 okg hw) ?_
      refine w_iload_n d115_21 rfl ?_
      refine w_aaloadSN d115_22 (gi1153 okg hw (by omega)) r1 ?_
      refine w_astore3 d115_23 rfl ?_
      refine w_aload_n d115_24 rfl ?_
      refine w_dloadS d115_25 (okg.kd hw) (fr1154 okg hw) ?_
      refine w_aload_n d115_28 rfl ?_
      refine w_callv2 d115_29 (by omega) rfl (okg.kd (kT1154 okg hw)) (by simp) (Nat.le_of_ble_eq_true rfl) ?_
      refine r_Row_addRow (by omega) okg (kT1154 okg hw) r2 nr (fun h29 m29 e29_1 e29_2 => ?_)
      have ok29 := m29.ok
      have M29 := Mo.tr ok Mg m29 (fun x e => e)
      have e29 : rl h29 (sT S 1154 w) = jnW (decide (rix (tgR t) = 1)) ins i ++ ins.getD i [] := by
        rw [e29_1, i2, r3]
        exact addBs_fit (by unfold jnW at jl; rw [List.length_append, List.length_append] at jl; omega)
      have rr : rl h29 r = ins.getD i [] := (m29.rb okg r2 nr).trans r3
      refine w_aload_n d115_32 rfl ?_
      refine w_getI (x := (rix (tgR t))) d115_33 (ok29.kd hdd) ((M29.fi ok (by omega) (nd dd (by omega)) 131).trans D3) ?_
      refine w_iconst d115_36 (by decide) ?_
      refine w_icmpne d115_37 (fun c37 => ?_) (fun c37 => ?_)
      · have sp : sepB (decide (rix (tgR t) = 1)) (ins.getD i []) = [] := by unfold sepB; rw [if_neg]; rw [decide_eq_true_eq]; exact fun z => c37 z.1
        refine w_iinc2 d115_71 rfl (by constructor <;> omega) ?_
        refine w_goto d115_74 ?_
        refine w_less ?_ (IH9 _ (by omega) h29 (i + 1) rfl M29 (by omega) (by rw [e29, jnW, sp, List.append_nil]) (by rw [e29_2]; exact i3))
        exact ⟨Or.inr rfl, Or.inr rfl, Or.inr rfl, Or.inl rfl, trivial⟩
      · refine w_aload_n d115_40 rfl ?_
        refine w_callv1 d115_41 (by omega) rfl (ok29.kd r2) (by simp) (Nat.le_of_ble_eq_true rfl) ?_
        refine r_Row_size ok29 r2 ?_
        rw [rr]
        refine w_ifle d115_44 (fun c44 => ?_) (fun c44 => ?_)
        · have sp : sepB (decide (rix (tgR t) = 1)) (ins.getD i []) = [] := by unfold sepB; rw [if_neg]; exact fun z => by omega
          refine w_iinc2 d115_71 rfl (by constructor <;> omega) ?_
          refine w_goto d115_74 ?_
          refine w_less ?_ (IH9 _ (by omega) h29 (i + 1) rfl M29 (by omega) (by rw [e29, jnW, sp, List.append_nil]) (by rw [e29_2]; exact i3))
          exact ⟨Or.inr rfl, Or.inr rfl, Or.inr rfl, Or.inl rfl, trivial⟩
        · refine w_aload_n d115_47 rfl ?_
          refine w_aload_n d115_48 rfl ?_
          refine w_callv1 d115_49 (by omega) rfl (ok29.kd r2) (by simp) (Nat.le_of_ble_eq_true rfl) ?_
          refine r_Row_size ok29 r2 ?_
          rw [rr]
          refine w_iconst d115_52 (by decide) ?_
          refine w_isub d115_53 (by constructor <;> omega) ?_
          refine w_callv2 d115_54 (by omega) rfl (ok29.kd r2) (by simp) (Nat.le_of_ble_eq_true rfl) ?_
          refine r_Row_at ok29 r2 ?_
          rw [rr]
          refine w_bipush d115_57 (by decide) ?_
          refine w_icmpeq d115_59 (fun c59 => ?_) (fun c59 => ?_)
          · have sp : sepB (decide (rix (tgR t) = 1)) (ins.getD i []) = [] := by unfold sepB; rw [if_neg]; exact fun z => z.2.2 c59
            refine w_iinc2 d115_71 rfl (by constructor <;> omega) ?_
            refine w_goto d115_74 ?_
            refine w_less ?_ (IH9 _ (by omega) h29 (i + 1) rfl M29 (by omega) (by rw [e29, jnW, sp, List.append_nil]) (by rw [e29_2]; exact i3))
            exact ⟨Or.inr rfl, Or.inr rfl, Or.inr rfl, Or.inl rfl, trivial⟩
          · have sp : sepB (decide (rix (tgR t) = 1)) (ins.getD i []) = [10] := by unfold sepB; rw [if_pos ⟨by rw [decide_eq_true_eq]; omega, by omega, c59⟩]
            refine w_aload_n d115_62 rfl ?_
            refine w_dloadS d115_63 (ok29.kd hw) (fr1154 ok29 hw) ?_
            refine w_bipush d115_66 (by decide) ?_
            refine w_callv2 d115_68 (by omega) rfl (ok29.kd (kT1154 ok29 hw)) (by simp) (Nat.le_of_ble_eq_true rfl) ?_
            refine r_Row_add ok29 (kT1154 ok29 hw) (fun h68 m68 e68_1 e68_2 => ?_)
            have ok68 := m68.ok
            have M68 := Mo.tr ok M29 m68 (fun x e => e)
            refine w_iinc2 d115_71 rfl (by constructor <;> omega) ?_
            refine w_goto d115_74 ?_
            refine w_less ?_ (IH9 _ (by omega) h68 (i + 1) rfl M68 (by omega) (by rw [e68_1, e29, addBs_fit (by rw [e29_2]; unfold jnW at jl; rw [List.length_append, List.length_append, sp] at jl; rw [List.length_append]; simp only [List.length_cons, List.length_nil] at jl ⊢; omega), jnW, sp, List.append_assoc]; first | done | rfl) (by rw [e68_2, e29_2]; exact i3))
            exact ⟨Or.inr rfl, Or.inr rfl, Or.inr rfl, Or.inl rfl, trivial⟩
  refine w_less ?_ (L9 _ h4 0 rfl M4 (by omega) e4_1 cg4)
  exact ⟨Or.inr rfl, Or.inr rfl, Or.inr rfl, Or.inl rfl, trivial⟩
theorem d106_0 : dc 106 0 = some (.aload_n 0, 1) := by decide +kernel
theorem d106_1 : dc 106 1 = some (.dload 1156, 4) := by decide +kernel
theorem d106_4 : dc 106 4 = some (.invokevirtual 18, 7) := by decide +kernel
theorem d106_7 : dc 106 7 = some (.aload_n 0, 8) := by decide +kernel
theorem d106_8 : dc 106 8 = some (.dload 1156, 11) := by decide +kernel
theorem d106_11 : dc 106 11 = some (.aload_n 1, 12) := by decide +kernel
theorem d106_12 : dc 106 12 = some (.fload 130, 15) := by decide +kernel
theorem d106_15 : dc 106 15 = some (.invokevirtual 104, 18) := by decide +kernel
theorem d106_18 : dc 106 18 = some (.aload_n 0, 19) := by decide +kernel
theorem d106_19 : dc 106 19 = some (.dload 1156, 22) := by decide +kernel
theorem d106_22 : dc 106 22 = some (.bipush 46, 24) := by decide +kernel
theorem d106_24 : dc 106 24 = some (.invokevirtual 15, 27) := by decide +kernel
theorem d106_27 : dc 106 27 = some (.aload_n 0, 28) := by decide +kernel
theorem d106_28 : dc 106 28 = some (.dload 1156, 31) := by decide +kernel
theorem d106_31 : dc 106 31 = some (.aload_n 1, 32) := by decide +kernel
theorem d106_32 : dc 106 32 = some (.fload 132, 35) := by decide +kernel
theorem d106_35 : dc 106 35 = some (.invokevirtual 104, 38) := by decide +kernel
theorem d106_38 : dc 106 38 = some (.aload_n 2, 39) := by decide +kernel
theorem d106_39 : dc 106 39 = some (.aload_n 0, 40) := by decide +kernel
theorem d106_40 : dc 106 40 = some (.dload 1156, 43) := by decide +kernel
theorem d106_43 : dc 106 43 = some (.invokevirtual 107, 46) := by decide +kernel
theorem d106_46 : dc 106 46 = some (.invokevirtual 108, 49) := by decide +kernel
theorem d106_49 : dc 106 49 = some (.iconst 0, 50) := by decide +kernel
theorem d106_50 : dc 106 50 = some (.istore_n 3, 51) := by decide +kernel
theorem d106_51 : dc 106 51 = some (.iload_n 3, 52) := by decide +kernel
theorem d106_52 : dc 106 52 = some (.aload_n 1, 53) := by decide +kernel
theorem d106_53 : dc 106 53 = some (.getfield 133, 56) := by decide +kernel
theorem d106_56 : dc 106 56 = some (.if_icmp .ge ((154 : Nat) : Int), 59) := by decide +kernel
theorem d106_59 : dc 106 59 = some (.aload_n 0, 60) := by decide +kernel
theorem d106_60 : dc 106 60 = some (.dload 1156, 63) := by decide +kernel
theorem d106_63 : dc 106 63 = some (.invokevirtual 18, 66) := by decide +kernel
theorem d106_66 : dc 106 66 = some (.aload_n 0, 67) := by decide +kernel
theorem d106_67 : dc 106 67 = some (.dload 1156, 70) := by decide +kernel
theorem d106_70 : dc 106 70 = some (.aload_n 1, 71) := by decide +kernel
theorem d106_71 : dc 106 71 = some (.dload 134, 74) := by decide +kernel
theorem d106_74 : dc 106 74 = some (.iload_n 3, 75) := by decide +kernel
theorem d106_75 : dc 106 75 = some (.baload, 76) := by decide +kernel
theorem d106_76 : dc 106 76 = some (.ifCond .eq ((84 : Nat) : Int), 79) := by decide +kernel
theorem d106_79 : dc 106 79 = some (.bipush 116, 81) := by decide +kernel
theorem d106_81 : dc 106 81 = some (.goto ((86 : Nat) : Int), 84) := by decide +kernel
theorem d106_84 : dc 106 84 = some (.bipush 102, 86) := by decide +kernel
theorem d106_86 : dc 106 86 = some (.invokevirtual 15, 89) := by decide +kernel
theorem d106_89 : dc 106 89 = some (.aload_n 0, 90) := by decide +kernel
theorem d106_90 : dc 106 90 = some (.dload 1156, 93) := by decide +kernel
theorem d106_93 : dc 106 93 = some (.aload_n 1, 94) := by decide +kernel
theorem d106_94 : dc 106 94 = some (.dload 135, 97) := by decide +kernel
theorem d106_97 : dc 106 97 = some (.iload_n 3, 98) := by decide +kernel
theorem d106_98 : dc 106 98 = some (.laload, 99) := by decide +kernel
theorem d106_99 : dc 106 99 = some (.invokevirtual 104, 102) := by decide +kernel
theorem d106_102 : dc 106 102 = some (.aload_n 0, 103) := by decide +kernel
theorem d106_103 : dc 106 103 = some (.dload 1156, 106) := by decide +kernel
theorem d106_106 : dc 106 106 = some (.aload_n 1, 107) := by decide +kernel
theorem d106_107 : dc 106 107 = some (.dload 136, 110) := by decide +kernel
theorem d106_110 : dc 106 110 = some (.iload_n 3, 111) := by decide +kernel
theorem d106_111 : dc 106 111 = some (.laload, 112) := by decide +kernel
theorem d106_112 : dc 106 112 = some (.invokevirtual 104, 115) := by decide +kernel
theorem d106_115 : dc 106 115 = some (.aload_n 0, 116) := by decide +kernel
theorem d106_116 : dc 106 116 = some (.dload 1156, 119) := by decide +kernel
theorem d106_119 : dc 106 119 = some (.bipush 10, 121) := by decide +kernel
theorem d106_121 : dc 106 121 = some (.invokevirtual 15, 124) := by decide +kernel
theorem d106_124 : dc 106 124 = some (.aload_n 0, 125) := by decide +kernel
theorem d106_125 : dc 106 125 = some (.dload 1156, 128) := by decide +kernel
theorem d106_128 : dc 106 128 = some (.aload_n 0, 129) := by decide +kernel
theorem d106_129 : dc 106 129 = some (.dload 1153, 132) := by decide +kernel
theorem d106_132 : dc 106 132 = some (.iload_n 3, 133) := by decide +kernel
theorem d106_133 : dc 106 133 = some (.aaload, 134) := by decide +kernel
theorem d106_134 : dc 106 134 = some (.invokevirtual 109, 137) := by decide +kernel
theorem d106_137 : dc 106 137 = some (.aload_n 2, 138) := by decide +kernel
theorem d106_138 : dc 106 138 = some (.aload_n 0, 139) := by decide +kernel
theorem d106_139 : dc 106 139 = some (.dload 1156, 142) := by decide +kernel
theorem d106_142 : dc 106 142 = some (.invokevirtual 107, 145) := by decide +kernel
theorem d106_145 : dc 106 145 = some (.invokevirtual 108, 148) := by decide +kernel
theorem d106_148 : dc 106 148 = some (.iinc 3 1, 151) := by decide +kernel
theorem d106_151 : dc 106 151 = some (.goto ((51 : Nat) : Int), 154) := by decide +kernel
theorem d106_154 : dc 106 154 = some (.aload_n 0, 155) := by decide +kernel
theorem d106_155 : dc 106 155 = some (.dload 1156, 158) := by decide +kernel
theorem d106_158 : dc 106 158 = some (.invokevirtual 18, 161) := by decide +kernel
theorem d106_161 : dc 106 161 = some (.iconst 0, 162) := by decide +kernel
theorem d106_162 : dc 106 162 = some (.istore_n 3, 163) := by decide +kernel
theorem d106_163 : dc 106 163 = some (.iload_n 3, 164) := by decide +kernel
theorem d106_164 : dc 106 164 = some (.aload_n 2, 165) := by decide +kernel
theorem d106_165 : dc 106 165 = some (.getfield 261, 168) := by decide +kernel
theorem d106_168 : dc 106 168 = some (.if_icmp .ge ((208 : Nat) : Int), 171) := by decide +kernel
theorem d106_171 : dc 106 171 = some (.aload_n 0, 172) := by decide +kernel
theorem d106_172 : dc 106 172 = some (.dload 1156, 175) := by decide +kernel
theorem d106_175 : dc 106 175 = some (.aload_n 2, 176) := by decide +kernel
theorem d106_176 : dc 106 176 = some (.dload 260, 179) := by decide +kernel
theorem d106_179 : dc 106 179 = some (.iload_n 3, 180) := by decide +kernel
theorem d106_180 : dc 106 180 = some (.laload, 181) := by decide +kernel
theorem d106_181 : dc 106 181 = some (.bipush 32, 183) := by decide +kernel
theorem d106_183 : dc 106 183 = some (.lushr, 184) := by decide +kernel
theorem d106_184 : dc 106 184 = some (.l2i, 185) := by decide +kernel
theorem d106_185 : dc 106 185 = some (.invokevirtual 14, 188) := by decide +kernel
theorem d106_188 : dc 106 188 = some (.aload_n 0, 189) := by decide +kernel
theorem d106_189 : dc 106 189 = some (.dload 1156, 192) := by decide +kernel
theorem d106_192 : dc 106 192 = some (.aload_n 2, 193) := by decide +kernel
theorem d106_193 : dc 106 193 = some (.dload 260, 196) := by decide +kernel
theorem d106_196 : dc 106 196 = some (.iload_n 3, 197) := by decide +kernel
theorem d106_197 : dc 106 197 = some (.laload, 198) := by decide +kernel
theorem d106_198 : dc 106 198 = some (.l2i, 199) := by decide +kernel
theorem d106_199 : dc 106 199 = some (.invokevirtual 14, 202) := by decide +kernel
theorem d106_202 : dc 106 202 = some (.iinc 3 1, 205) := by decide +kernel
theorem d106_205 : dc 106 205 = some (.goto ((163 : Nat) : Int), 208) := by decide +kernel
theorem d106_208 : dc 106 208 = some (.aload_n 2, 209) := by decide +kernel
theorem d106_209 : dc 106 209 = some (.aload_n 0, 210) := by decide +kernel
theorem d106_210 : dc 106 210 = some (.dload 1156, 213) := by decide +kernel
theorem d106_213 : dc 106 213 = some (.invokevirtual 107, 216) := by decide +kernel
theorem d106_216 : dc 106 216 = some (.fstore 262, 219) := by decide +kernel
theorem d106_219 : dc 106 219 = some (.return_, 220) := by decide +kernel
theorem k_Wk_setParts {S : Shp} {G : Nat → Option Nat} {d : Nat} {h : Hp} {Q : Option MV → Hp → Prop} {w : Nat} {dd : Nat} {a : Nat}  (ok : Ok S h) (h1 : 2 ≤ d) (hw : sK S w = 10) (hdd : sK S dd = 2) (ha : sK S a = 3) {t : TgV} {tx : List Nat} (D : DefC S h dd t tx) {P : Nat → Prop} {ins : List (List Nat)} (ic : InsC S h w P ins) (hin : ins.length = (tgI t).length) (hP : ∀ r, P r → ¬ U S w r ∧ ¬ U S a r) (pa0 : PaC S h a []) (haw : ¬ U S w a)
    (kk : ∀ h', Mo S (fun x => x = a ∨ x = sT S 257 a ∨ x = sT S 258 a ∨ x = sT S 259 a ∨ x = sT S 260 a ∨ x = sT S 1156 w) h h' → PaC S h' a (ptL t ins ins.length) → FL h' 262 a = keyW (ptL t ins ins.length) → (∀ v, OuC S h a v → OuC S h' a v) → Q none h') : Cl G d 106 [vR (some w), vR (some dd), vR (some a)] h Q := by
  show Wp G d 106 0 [some (vR (some w)), some (vR (some dd)), some (vR (some a)), none] [] h Q
  obtain ⟨i6, ic2⟩ := id ic
  obtain ⟨D1, D2, D3, D4, D5, D6, D7, D8, D9, D10, D11, D12, D13, D14, D15⟩ := D
  have c56 := cT1156 ok hw
  have K56 := kT1156 ok hw
  have K34 := kT134 ok hdd
  have K35 := kT135 ok hdd
  have K36 := kT136 ok hdd
  have K7 := kT257 ok ha
  have K8 := kT258 ok ha
  have K9 := kT259 ok ha
  have K0 := kT260 ok ha
  have nda : ∀ f, f < 4096 → sT S f a ≠ sT S 1156 w := fun f hf => ok.so.ou hf (by decide) (Or.inr (fun z => haw (z ▸ U_refl)))
  have na : a ≠ sT S 1156 w := fun z => by rw [z] at ha; omega
  have nk : ∀ y, sK S y = 2 ∨ sK S y = 42 → ¬ (y = a ∨ y = sT S 257 a ∨ y = sT S 258 a ∨ y = sT S 259 a ∨ y = sT S 260 a ∨ y = sT S 1156 w) := fun y hy z => by rcases z with z | z | z | z | z | z <;> rw [z] at hy <;> omega
  have nT : ∀ f b, f < 4096 → f ≠ 257 ∧ f ≠ 258 ∧ f ≠ 259 ∧ f ≠ 260 ∧ f ≠ 1156 → sK S (sT S f b) ≠ 3 → ¬ (sT S f b = a ∨ sT S f b = sT S 257 a ∨ sT S f b = sT S 258 a ∨ sT S f b = sT S 259 a ∨ sT S f b = sT S 260 a ∨ sT S f b = sT S 1156 w) := fun f b hf hn h3 z => by
    rcases z with z | z | z | z | z | z
    · rw [z] at h3; exact h3 ha
    · exact ok.so.ou hf (by decide) (Or.inl hn.1) z
    · exact ok.so.ou hf (by decide) (Or.inl hn.2.1) z
    · exact ok.so.ou hf (by decide) (Or.inl hn.2.2.1) z
    · exact ok.so.ou hf (by decide) (Or.inl hn.2.2.2.1) z
    · exact ok.so.ou hf (by decide) (Or.inl hn.2.2.2.2) z
  have tl6 : (tgI t).length ≤ 6 := D13.1
  have OUS : ∀ {x y : Hp} {v : OutV}, Ok S x → Mo S (fun y => y = sT S 1156 w) x y → OuC S x a v → OuC S y a v := fun okx mx Dx => Dx.mo okx mx ha na (nda 257 (by decide)) (nda 258 (by decide)) (nda 259 (by decide))
  have PAS : ∀ {x y : Hp} {v : List Int64}, Ok S x → Mo S (fun y => y = sT S 1156 w) x y → PaC S x a v → PaC S y a v := fun okx mx Dx => Dx.mo okx mx ha na (nda 260 (by decide))
  refine w_aload_n d106_0 rfl ?_
  refine w_dloadS d106_1 (ok.kd hw) (fr1156 ok hw) ?_
  refine w_callv1 d106_4 (by omega) rfl (ok.kd (kT1156 ok hw)) (by simp) (Nat.le_of_ble_eq_true rfl) ?_
  refine r_Row_clear ok (kT1156 ok hw) (fun h4 m4 e4_1 e4_2 => ?_)
  have ok4 := m4.ok
  have M4 := Mo.tr ok (Mo.refl (A := (fun x => x = a ∨ x = (sT S 257 a) ∨ x = (sT S 258 a) ∨ x = (sT S 259 a) ∨ x = (sT S 260 a) ∨ x = (sT S 1156 w))) ok) m4 (fun x e => (Or.inr (Or.inr (Or.inr (Or.inr (Or.inr e))))))
  refine w_aload_n d106_7 rfl ?_
  refine w_dloadS d106_8 (ok4.kd hw) (fr1156 ok4 hw) ?_
  refine w_aload_n d106_11 rfl ?_
  refine w_floadV (x := (hd (tgR t))) d106_12 (ok4.kd hdd) ((m4.fl ok (by omega) (fun z => by rw [z] at hdd; omega) 130).trans D2) ?_
  refine w_callv2 d106_15 (by omega) rfl (ok4.kd (kT1156 ok4 hw)) (by simp) (Nat.le_of_ble_eq_true rfl) ?_
  refine r_Row_addName (by omega) ok4 (kT1156 ok4 hw) (fun h15 m15 e15_1 e15_2 => ?_)
  have ok15 := m15.ok
  have M15 := Mo.tr ok M4 m15 (fun x e => (Or.inr (Or.inr (Or.inr (Or.inr (Or.inr e))))))
  refine w_aload_n d106_18 rfl ?_
  refine w_dloadS d106_19 (ok15.kd hw) (fr1156 ok15 hw) ?_
  refine w_bipush d106_22 (by decide) ?_
  refine w_callv2 d106_24 (by omega) rfl (ok15.kd (kT1156 ok15 hw)) (by simp) (Nat.le_of_ble_eq_true rfl) ?_
  refine r_Row_add ok15 (kT1156 ok15 hw) (fun h24 m24 e24_1 e24_2 => ?_)
  have ok24 := m24.ok
  have M24 := Mo.tr ok M15 m24 (fun x e => (Or.inr (Or.inr (Or.inr (Or.inr (Or.inr e))))))
  refine w_aload_n d106_27 rfl ?_
  refine w_dloadS d106_28 (ok24.kd hw) (fr1156 ok24 hw) ?_
  refine w_aload_n d106_31 rfl ?_
  refine w_floadV (x := (hd (tgW t))) d106_32 (ok24.kd hdd) ((M24.fl ok (by omega) (nk dd (Or.inl hdd)) 132).trans D4) ?_
  refine w_callv2 d106_35 (by omega) rfl (ok24.kd (kT1156 ok24 hw)) (by simp) (Nat.le_of_ble_eq_true rfl) ?_
  refine r_Row_addName (by omega) ok24 (kT1156 ok24 hw) (fun h35 m35 e35_1 e35_2 => ?_)
  have ok35 := m35.ok
  have M35 := Mo.tr ok M24 m35 (fun x e => (Or.inr (Or.inr (Or.inr (Or.inr (Or.inr e))))))
  have rs35 : rl h35 (sT S 1156 w) = tgR t ++ ([46] ++ tgW t) := by
    have l1 := D11.1
    have l2 := D12.1
    rw [e35_1, e24_1, e24_2, e15_1, e15_2, e4_1, e4_2, nm_hd D11, nm_hd D12]
    rw [addBs3, addBs3, addBs_fit (by simp only [List.length_append, List.length_cons, List.length_nil]; omega)]
    first | done | rfl | simp
  have cp35 : cap h35 (sT S 1156 w) = cap h (sT S 1156 w) := by rw [e35_2, e24_2, e15_2, e4_2]
  have pa35 := PAS ok24 m35 (PAS ok15 m24 (PAS ok4 m15 (PAS ok m4 pa0)))
  refine w_aload_n d106_38 rfl ?_
  refine w_aload_n d106_39 rfl ?_
  refine w_dloadS d106_40 (ok35.kd hw) (fr1156 ok35 hw) ?_
  refine w_callv1 d106_43 (by omega) rfl (ok35.kd (kT1156 ok35 hw)) (by simp) (Nat.le_of_ble_eq_true rfl) ?_
  refine r_Row_digest ok35 (kT1156 ok35 hw) ?_
  rw [rs35]
  refine w_callv2 d106_46 (by omega) rfl (ok35.kd ha) (by simp) (Nat.le_of_ble_eq_true rfl) ?_
  refine k_Ou_addPart ok35 (by omega) ha pa35 (by decide) (fun h46 m46 e46_1 e46_2 e46_3 => ?_)
  have ok46 := m46.ok
  have M46 := Mo.tr ok M35 m46 (fun x q => by rcases q with q | q | q | q | q <;> simp [q])
  refine w_iconst d106_49 (by decide) ?_
  refine w_istore3 d106_50 rfl ?_
  have L51 : ∀ (m51 : Nat) (g : Hp) (i : Nat), ins.length - i = m51 → Mo S (fun x => x = a ∨ x = (sT S 257 a) ∨ x = (sT S 258 a) ∨ x = (sT S 259 a) ∨ x = (sT S 260 a) ∨ x = (sT S 1156 w)) h g → (i ≤ ins.length) → (PaC S g a (ptL t ins i)) → (614 ≤ cap g (sT S 1156 w)) → (∀ v, OuC S h a v → OuC S g a v) → Wp G d 106 51 [some (vR (some w)), some (vR (some dd)), some (vR (some a)), some (vI (i : Nat))] [] g Q := by
    intro m51
    induction m51 using Nat.strongRecOn with | ind m51 IH51 => ?_
    intro g i hm51 Mg i1 i2 i3 i4
    have okg := Mg.ok
    have icg := ic.f ok Mg hw (nT 1153 w (by decide) (by decide) (by have := kT1153 ok hw; omega)) (nT 1152 w (by decide) (by decide) (by have := kT1152 ok hw; omega)) (fun r k q z => by obtain ⟨p1, p2⟩ := hP r q; rcases z with z | z | z | z | z | z; exact p2 (z ▸ U_refl); exact p2 (z ▸ ok.so.uT (by decide) U_refl); exact p2 (z ▸ ok.so.uT (by decide) U_refl); exact p2 (z ▸ ok.so.uT (by decide) U_refl); exact p2 (z ▸ ok.so.uT (by decide) U_refl); exact p1 (z ▸ ok.so.uT (by decide) U_refl))
    refine w_iload_n d106_51 rfl ?_
    refine w_aload_n d106_52 rfl ?_
    refine w_getI (x := (((tgI t).length : Nat) : Int)) d106_53 (okg.kd hdd) ((Mg.fi ok (by omega) (nk dd (Or.inl hdd)) 133).trans D5) ?_
    refine w_icmpge d106_56 (fun c56 => ?_) (fun c56 => ?_)
    · refine w_aload_n d106_154 rfl ?_
      refine w_dloadS d106_155 (okg.kd hw) (fr1156 okg hw) ?_
      refine w_callv1 d106_158 (by omega) rfl (okg.kd (kT1156 okg hw)) (by simp) (Nat.le_of_ble_eq_true rfl) ?_
      refine r_Row_clear okg (kT1156 okg hw) (fun h158 m158 e158_1 e158_2 => ?_)
      have ok158 := m158.ok
      have M158 := Mo.tr ok Mg m158 (fun x e => (Or.inr (Or.inr (Or.inr (Or.inr (Or.inr e))))))
      have c158 : 614 ≤ cap h158 (sT S 1156 w) := by rw [e158_2]; exact i3
      have pa158 := PAS okg m158 i2
      refine w_iconst d106_161 (by decide) ?_
      refine w_istore3 d106_162 rfl ?_
      have L163 : ∀ (m163 : Nat) (g2 : Hp) (k : Nat), ins.length + 1 - k = m163 → Mo S (fun x => x = a ∨ x = (sT S 257 a) ∨ x = (sT S 258 a) ∨ x = (sT S 259 a) ∨ x = (sT S 260 a) ∨ x = (sT S 1156 w)) h g2 → (k ≤ ins.length + 1) → (PaC S g2 a (ptL t ins ins.length)) → (614 ≤ cap g2 (sT S 1156 w)) → (∀ v, OuC S h a v → OuC S g2 a v) → (rl g2 (sT S 1156 w) = kyB (ptL t ins ins.length) k) → Wp G d 106 163 [some (vR (some w)), some (vR (some dd)), some (vR (some a)), some (vI (k : Nat))] [] g2 Q := by
        intro m163
        induction m163 using Nat.strongRecOn with | ind m163 IH163 => ?_
        intro g2 k hm163 Mg2 j1 j2 j3 j4 j5
        have okg2 := Mg2.ok
        have pl := ptL_len (t := t) (ins := ins) ins.length
        have kl := kyB_len (ptL t ins ins.length) k
        refine w_iload_n d106_163 rfl ?_
        refine w_aload_n d106_164 rfl ?_
        refine w_getI (x := ((ins.length + 1 : Nat) : Int)) d106_165 (okg2.kd ha) (by rw [j2.1, pl]) ?_
        refine w_icmpge d106_168 (fun c168 => ?_) (fun c168 => ?_)
        · refine w_aload_n d106_208 rfl ?_
          refine w_aload_n d106_209 rfl ?_
          refine w_dloadS d106_210 (okg2.kd hw) (fr1156 okg2 hw) ?_
          refine w_callv1 d106_213 (by omega) rfl (okg2.kd (kT1156 okg2 hw)) (by simp) (Nat.le_of_ble_eq_true rfl) ?_
          refine r_Row_digest okg2 (kT1156 okg2 hw) ?_
          rw [j5, show k = (ptL t ins ins.length).length by omega]
          refine wf262 d106_216 okg2 ha (fun h216 e216 m216 => ?_)
          have ok216 := m216.ok
          have M216 := Mo.tr ok Mg2 m216 (fun x e => (Or.inl e))
          refine w_return d106_219 ?_
          refine kk h216 M216 ⟨(m216 : Mo S _ _ _) |> fun _ => ?_, j2.2.1, fun i hi => ?_⟩ ?_ (fun v D => (j4 v D).m1 okg2 m216 ha (fun z => ok.so.pT (by decide) z) (fun z => ok.so.pT (by decide) z) (fun z => ok.so.pT (by decide) z) ?_)
          · rw [e216]; exact j2.1
          · rw [e216]; exact j2.2.2 i hi
          · rw [e216, FL_sFL, if_pos ⟨rfl, rfl⟩]; first | done | rfl
          · rw [e216]; rfl
        · refine w_aload_n d106_171 rfl ?_
          refine w_dloadS d106_172 (okg2.kd hw) (fr1156 okg2 hw) ?_
          refine w_aload_n d106_175 rfl ?_
          refine w_dloadS d106_176 (okg2.kd ha) (fr260 okg2 ha) ?_
          refine w_iload_n d106_179 rfl ?_
          refine w_laloadV (x := ((ptL t ins ins.length).getD k 0)) d106_180 (gi260 okg2 ha (by omega)) (j2.2.2 k (by omega)) ?_
          refine w_bipush d106_181 (by decide) ?_
          refine w_lushr d106_183 ?_
          refine w_l2i d106_184 ?_
          refine w_callv2 d106_185 (by omega) rfl (okg2.kd (kT1156 okg2 hw)) (by simp) (Nat.le_of_ble_eq_true rfl) ?_
          refine r_Row_addInt (by omega) okg2 (kT1156 okg2 hw) (fun h185 m185 e185_1 e185_2 => ?_)
          have ok185 := m185.ok
          have M185 := Mo.tr ok Mg2 m185 (fun x e => (Or.inr (Or.inr (Or.inr (Or.inr (Or.inr e))))))
          refine w_aload_n d106_188 rfl ?_
          refine w_dloadS d106_189 (ok185.kd hw) (fr1156 ok185 hw) ?_
          refine w_aload_n d106_192 rfl ?_
          refine w_dloadS d106_193 (ok185.kd ha) (fr260 ok185 ha) ?_
          refine w_iload_n d106_196 rfl ?_
          refine w_laloadV (x := ((ptL t ins ins.length).getD k 0)) d106_197 (gi260 ok185 ha (by omega)) ((PAS okg2 m185 j2).2.2 k (by omega)) ?_
          refine w_l2i d106_198 ?_
          refine w_callv2 d106_199 (by omega) rfl (ok185.kd (kT1156 ok185 hw)) (by simp) (Nat.le_of_ble_eq_true rfl) ?_
          refine r_Row_addInt (by omega) ok185 (kT1156 ok185 hw) (fun h199 m199 e199_1 e199_2 => ?_)
          have ok199 := m199.ok
          have M199 := Mo.tr ok M185 m199 (fun x e => (Or.inr (Or.inr (Or.inr (Or.inr (Or.inr e))))))
          refine w_iinc3 d106_202 rfl (by constructor <;> omega) ?_
          refine w_goto d106_205 ?_
          refine w_less ?_ (IH163 _ (by omega) h199 (k + 1) rfl M199 (by omega) (PAS ok185 m199 (PAS okg2 m185 j2)) (by rw [e199_2, e185_2]; exact j3) (fun v D => OUS ok185 m199 (OUS okg2 m185 (j4 v D))) (by rw [e199_1, e185_1, e185_2, addBs3, j5, addBs_fit (by rw [List.length_append, by4_len, by4_len]; omega)]; rfl))
          exact ⟨Or.inr rfl, Or.inr rfl, Or.inr rfl, Or.inr rfl, trivial⟩
      have hI : i = ins.length := by omega
      rw [hI] at i2 pa158
      refine w_less ?_ (L163 _ h158 0 rfl M158 (by omega) pa158 c158 (fun v D => OUS okg m158 (i4 v D)) e158_1)
      exact ⟨Or.inr rfl, Or.inr rfl, Or.inr rfl, Or.inr rfl, trivial⟩
    · obtain ⟨r, r1, r2, r3, r4, r5⟩ := icg.2 i (by omega)
      obtain ⟨E1, E2, E3⟩ := D6 i (by omega)
      have O1 := (D13.2 i (by omega)).1
      have nr : r ≠ sT S 1156 w := fun z => by
        rcases r4 with q | q
        · exact ok.so.ou (f := 1152) (g := 1156) (by decide) (by decide) (Or.inl (by decide)) (q.symm.trans z)
        · exact (hP r q).1 (z ▸ ok.so.uT (by decide) U_refl)
      refine w_aload_n d106_59 rfl ?_
      refine w_dloadS d106_60 (okg.kd hw) (fr1156 okg hw) ?_
      refine w_callv1 d106_63 (by omega) rfl (okg.kd (kT1156 okg hw)) (by simp) (Nat.le_of_ble_eq_true rfl) ?_
      refine r_Row_clear okg (kT1156 okg hw) (fun h63 m63 e63_1 e63_2 => ?_)
      have ok63 := m63.ok
      have M63 := Mo.tr ok Mg m63 (fun x e => (Or.inr (Or.inr (Or.inr (Or.inr (Or.inr e))))))
      refine w_aload_n d106_66 rfl ?_
      refine w_dloadS d106_67 (ok63.kd hw) (fr1156 ok63 hw) ?_
      refine w_aload_n d106_70 rfl ?_
      refine w_dloadS d106_71 (ok63.kd hdd) (fr134 ok63 hdd) ?_
      refine w_iload_n d106_74 rfl ?_
      refine w_baloadV (x := (b2i (inB (tgI t) i))) d106_75 (gi134 ok63 hdd (by omega)) ((congrFun (M63.ai ok ⟨by omega, by omega⟩ (nk _ (Or.inr K34))) i).trans E1) ?_
      refine w_ifeq d106_76 (fun c76 => ?_) (fun c76 => ?_)
      · have bt : ¬ inB (tgI t) i = true := fun z => by rw [z] at c76; exact absurd c76 (by decide)
        refine w_bipush d106_84 (by decide) ?_
        refine w_callv2 d106_86 (by omega) rfl (ok63.kd (kT1156 ok63 hw)) (by simp) (Nat.le_of_ble_eq_true rfl) ?_
        refine r_Row_add ok63 (kT1156 ok63 hw) (fun h86 m86 e86_1 e86_2 => ?_)
        have ok86 := m86.ok
        have M86 := Mo.tr ok M63 m86 (fun x e => (Or.inr (Or.inr (Or.inr (Or.inr (Or.inr e))))))
        refine w_aload_n d106_89 rfl ?_
        refine w_dloadS d106_90 (ok86.kd hw) (fr1156 ok86 hw) ?_
        refine w_aload_n d106_93 rfl ?_
        refine w_dloadS d106_94 (ok86.kd hdd) (fr135 ok86 hdd) ?_
        refine w_iload_n d106_97 rfl ?_
        refine w_laloadV (x := (hd (inN (tgI t) i))) d106_98 (gi135 ok86 hdd (by omega)) ((congrFun (M86.al ok (by omega) (nT 135 dd (by decide) (by decide) (by omega))) i).trans E2) ?_
        refine w_callv2 d106_99 (by omega) rfl (ok86.kd (kT1156 ok86 hw)) (by simp) (Nat.le_of_ble_eq_true rfl) ?_
        refine r_Row_addName (by omega) ok86 (kT1156 ok86 hw) (fun h99 m99 e99_1 e99_2 => ?_)
        have ok99 := m99.ok
        have M99 := Mo.tr ok M86 m99 (fun x e => (Or.inr (Or.inr (Or.inr (Or.inr (Or.inr e))))))
        refine w_aload_n d106_102 rfl ?_
        refine w_dloadS d106_103 (ok99.kd hw) (fr1156 ok99 hw) ?_
        refine w_aload_n d106_106 rfl ?_
        refine w_dloadS d106_107 (ok99.kd hdd) (fr136 ok99 hdd) ?_
        refine w_iload_n d106_110 rfl ?_
        refine w_laloadV (x := (tl (inN (tgI t) i))) d106_111 (gi136 ok99 hdd (by omega)) ((congrFun (M99.al ok (by omega) (nT 136 dd (by decide) (by decide) (by omega))) i).trans E3) ?_
        refine w_callv2 d106_112 (by omega) rfl (ok99.kd (kT1156 ok99 hw)) (by simp) (Nat.le_of_ble_eq_true rfl) ?_
        refine r_Row_addName (by omega) ok99 (kT1156 ok99 hw) (fun h112 m112 e112_1 e112_2 => ?_)
        have ok112 := m112.ok
        have M112 := Mo.tr ok M99 m112 (fun x e => (Or.inr (Or.inr (Or.inr (Or.inr (Or.inr e))))))
        refine w_aload_n d106_115 rfl ?_
        refine w_dloadS d106_116 (ok112.kd hw) (fr1156 ok112 hw) ?_
        refine w_bipush d106_119 (by decide) ?_
        refine w_callv2 d106_121 (by omega) rfl (ok112.kd (kT1156 ok112 hw)) (by simp) (Nat.le_of_ble_eq_true rfl) ?_
        refine r_Row_add ok112 (kT1156 ok112 hw) (fun h121 m121 e121_1 e121_2 => ?_)
        have ok121 := m121.ok
        have M121 := Mo.tr ok M112 m121 (fun x e => (Or.inr (Or.inr (Or.inr (Or.inr (Or.inr e))))))
        refine w_aload_n d106_124 rfl ?_
        refine w_dloadS d106_125 (ok121.kd hw) (fr1156 ok121 hw) ?_
        refine w_aload_n d106_128 rfl ?_
        refine w_dloadS d106_129 (ok121.kd hw) (fr1153 ok121 hw) ?_
        refine w_iload_n d106_132 rfl ?_
        refine w_aaloadSN d106_133 (gi1153 ok121 hw (by omega)) (by rw [m121.ar ok112 (by have := kT1153 ok hw; omega) (ok.so.ou (by decide) (by decide) (Or.inl (by decide))), m112.ar ok99 (by have := kT1153 ok hw; omega) (ok.so.ou (by decide) (by decide) (Or.inl (by decide))), m99.ar ok86 (by have := kT1153 ok hw; omega) (ok.so.ou (by decide) (by decide) (Or.inl (by decide))), m86.ar ok63 (by have := kT1153 ok hw; omega) (ok.so.ou (by decide) (by decide) (Or.inl (by decide))), m63.ar okg (by have := kT1153 ok hw; omega) (ok.so.ou (by decide) (by decide) (Or.inl (by decide)))]; exact r1) ?_
        refine w_callv2 d106_134 (by omega) rfl (ok121.kd (kT1156 ok121 hw)) (by simp) (Nat.le_of_ble_eq_true rfl) ?_
        refine r_Row_addRow (by omega) ok121 (kT1156 ok121 hw) r2 nr (fun h134 m134 e134_1 e134_2 => ?_)
        have ok134 := m134.ok
        have M134 := Mo.tr ok M121 m134 (fun x e => (Or.inr (Or.inr (Or.inr (Or.inr (Or.inr e))))))
        have rs134 : rl h134 (sT S 1156 w) = (if inB (tgI t) i = true then [116] else [102]) ++ (inN (tgI t) i ++ ([10] ++ ins.getD i [])) := by
          have l1 := O1.1
          have nb := nm_back O1
          have rr : rl h121 r = ins.getD i [] := by rw [m121.rb ok112 r2 nr, m112.rb ok99 r2 nr, m99.rb ok86 r2 nr, m86.rb ok63 r2 nr, m63.rb okg r2 nr]; exact r3
          have nl : (nmB (hd (inN (tgI t) i)) 8 ++ nmB (tl (inN (tgI t) i)) 8).length ≤ 12 := by rw [nb]; exact l1
          rw [List.length_append] at nl
          rw [e134_1, rr, e121_1, e121_2, e112_1, e112_2, e99_1, e99_2, e86_1, e86_2, e63_1, e63_2]
          rw [addBs3, addBs3, addBs3, addBs3, addBs_fit (by simp only [List.length_append, List.length_cons, List.length_nil]; omega)]
          (first | rw [if_pos bt] | rw [if_neg bt])
          conv => rhs; rw [← nb]
          simp
        have cp134 : cap h134 (sT S 1156 w) = cap g (sT S 1156 w) := by rw [e134_2, e121_2, e112_2, e99_2, e86_2, e63_2]
        have pa134 := PAS ok121 m134 (PAS ok112 m121 (PAS ok99 m112 (PAS ok86 m99 (PAS ok63 m86 (PAS okg m63 i2)))))
        refine w_aload_n d106_137 rfl ?_
        refine w_aload_n d106_138 rfl ?_
        refine w_dloadS d106_139 (ok134.kd hw) (fr1156 ok134 hw) ?_
        refine w_callv1 d106_142 (by omega) rfl (ok134.kd (kT1156 ok134 hw)) (by simp) (Nat.le_of_ble_eq_true rfl) ?_
        refine r_Row_digest ok134 (kT1156 ok134 hw) ?_
        rw [rs134]
        refine w_callv2 d106_145 (by omega) rfl (ok134.kd ha) (by simp) (Nat.le_of_ble_eq_true rfl) ?_
        refine k_Ou_addPart ok134 (by omega) ha pa134 (by rw [ptL_len]; omega) (fun h145 m145 e145_1 e145_2 e145_3 => ?_)
        have ok145 := m145.ok
        have M145 := Mo.tr ok M134 m145 (fun x q => by rcases q with q | q | q | q | q <;> simp [q])
        refine w_iinc3 d106_148 rfl (by constructor <;> omega) ?_
        refine w_goto d106_151 ?_
        refine w_less ?_ (IH51 _ (by omega) h145 (i + 1) rfl M145 (by omega) e145_1 (by rw [(m145.cp ok134 K56).2 (fun q => by rcases q with q | q | q | q | q; exact na q.symm; exact nda 257 (by decide) q.symm; exact nda 258 (by decide) q.symm; exact nda 259 (by decide) q.symm; exact nda 260 (by decide) q.symm), cp134]; exact i3) (fun v D => e145_2 v (OUS ok121 m134 (OUS ok112 m121 (OUS ok99 m112 (OUS ok86 m99 (OUS ok63 m86 (OUS okg m63 (i4 v D)))))))))
        exact ⟨Or.inr rfl, Or.inr rfl, Or.inr rfl, Or.inr rfl, trivial⟩
      · have bt : inB (tgI t) i = true := by cases z : inB (tgI t) i with
          | true => rfl
          | false => rw [z] at c76; exact absurd rfl c76
        refine w_bipush d106_79 (by decide) ?_
        refine w_goto d106_81 ?_
        refine w_callv2 d106_86 (by omega) rfl (ok63.kd (kT1156 ok63 hw)) (by simp) (Nat.le_of_ble_eq_true rfl) ?_
        refine r_Row_add ok63 (kT1156 ok63 hw) (fun h86 m86 e86_1 e86_2 => ?_)
        have ok86 := m86.ok
        have M86 := Mo.tr ok M63 m86 (fun x e => (Or.inr (Or.inr (Or.inr (Or.inr (Or.inr e))))))
        refine w_aload_n d106_89 rfl ?_
        refine w_dloadS d106_90 (ok86.kd hw) (fr1156 ok86 hw) ?_
        refine w_aload_n d106_93 rfl ?_
        refine w_dloadS d106_94 (ok86.kd hdd) (fr135 ok86 hdd) ?_
        refine w_iload_n d106_97 rfl ?_
        refine w_laloadV (x := (hd (inN (tgI t) i))) d106_98 (gi135 ok86 hdd (by omega)) ((congrFun (M86.al ok (by omega) (nT 135 dd (by decide) (by decide) (by omega))) i).trans E2) ?_
        refine w_callv2 d106_99 (by omega) rfl (ok86.kd (kT1156 ok86 hw)) (by simp) (Nat.le_of_ble_eq_true rfl) ?_
        refine r_Row_addName (by omega) ok86 (kT1156 ok86 hw) (fun h99 m99 e99_1 e99_2 => ?_)
        have ok99 := m99.ok
        have M99 := Mo.tr ok M86 m99 (fun x e => (Or.inr (Or.inr (Or.inr (Or.inr (Or.inr e))))))
        refine w_aload_n d106_102 rfl ?_
        refine w_dloadS d106_103 (ok99.kd hw) (fr1156 ok99 hw) ?_
        refine w_aload_n d106_106 rfl ?_
        refine w_dloadS d106_107 (ok99.kd hdd) (fr136 ok99 hdd) ?_
        refine w_iload_n d106_110 rfl ?_
        refine w_laloadV (x := (tl (inN (tgI t) i))) d106_111 (gi136 ok99 hdd (by omega)) ((congrFun (M99.al ok (by omega) (nT 136 dd (by decide) (by decide) (by omega))) i).trans E3) ?_
        refine w_callv2 d106_112 (by omega) rfl (ok99.kd (kT1156 ok99 hw)) (by simp) (Nat.le_of_ble_eq_true rfl) ?_
        refine r_Row_addName (by omega) ok99 (kT1156 ok99 hw) (fun h112 m112 e112_1 e112_2 => ?_)
        have ok112 := m112.ok
        have M112 := Mo.tr ok M99 m112 (fun x e => (Or.inr (Or.inr (Or.inr (Or.inr (Or.inr e))))))
        refine w_aload_n d106_115 rfl ?_
        refine w_dloadS d106_116 (ok112.kd hw) (fr1156 ok112 hw) ?_
        refine w_bipush d106_119 (by decide) ?_
        refine w_callv2 d106_121 (by omega) rfl (ok112.kd (kT1156 ok112 hw)) (by simp) (Nat.le_of_ble_eq_true rfl) ?_
        refine r_Row_add ok112 (kT1156 ok112 hw) (fun h121 m121 e121_1 e121_2 => ?_)
        have ok121 := m121.ok
        have M121 := Mo.tr ok M112 m121 (fun x e => (Or.inr (Or.inr (Or.inr (Or.inr (Or.inr e))))))
        refine w_aload_n d106_124 rfl ?_
        refine w_dloadS d106_125 (ok121.kd hw) (fr1156 ok121 hw) ?_
        refine w_aload_n d106_128 rfl ?_
        refine w_dloadS d106_129 (ok121.kd hw) (fr1153 ok121 hw) ?_
        refine w_iload_n d106_132 rfl ?_
        refine w_aaloadSN d106_133 (gi1153 ok121 hw (by omega)) (by rw [m121.ar ok112 (by have := kT1153 ok hw; omega) (ok.so.ou (by decide) (by decide) (Or.inl (by decide))), m112.ar ok99 (by have := kT1153 ok hw; omega) (ok.so.ou (by decide) (by decide) (Or.inl (by decide))), m99.ar ok86 (by have := kT1153 ok hw; omega) (ok.so.ou (by decide) (by decide) (Or.inl (by decide))), m86.ar ok63 (by have := kT1153 ok hw; omega) (ok.so.ou (by decide) (by decide) (Or.inl (by decide))), m63.ar okg (by have := kT1153 ok hw; omega) (ok.so.ou (by decide) (by decide) (Or.inl (by decide)))]; exact r1) ?_
        refine w_callv2 d106_134 (by omega) rfl (ok121.kd (kT1156 ok121 hw)) (by simp) (Nat.le_of_ble_eq_true rfl) ?_
        refine r_Row_addRow (by omega) ok121 (kT1156 ok121 hw) r2 nr (fun h134 m134 e134_1 e134_2 => ?_)
        have ok134 := m134.ok
        have M134 := Mo.tr ok M121 m134 (fun x e => (Or.inr (Or.inr (Or.inr (Or.inr (Or.inr e))))))
        have rs134 : rl h134 (sT S 1156 w) = (if inB (tgI t) i = true then [116] else [102]) ++ (inN (tgI t) i ++ ([10] ++ ins.getD i [])) := by
          have l1 := O1.1
          have nb := nm_back O1
          have rr : rl h121 r = ins.getD i [] := by rw [m121.rb ok112 r2 nr, m112.rb ok99 r2 nr, m99.rb ok86 r2 nr, m86.rb ok63 r2 nr, m63.rb okg r2 nr]; exact r3
          have nl : (nmB (hd (inN (tgI t) i)) 8 ++ nmB (tl (inN (tgI t) i)) 8).length ≤ 12 := by rw [nb]; exact l1
          rw [List.length_append] at nl
          rw [e134_1, rr, e121_1, e121_2, e112_1, e112_2, e99_1, e99_2, e86_1, e86_2, e63_1, e63_2]
          rw [addBs3, addBs3, addBs3, addBs3, addBs_fit (by simp only [List.length_append, List.length_cons, List.length_nil]; omega)]
          (first | rw [if_pos bt] | rw [if_neg bt])
          conv => rhs; rw [← nb]
          simp
        have cp134 : cap h134 (sT S 1156 w) = cap g (sT S 1156 w) := by rw [e134_2, e121_2, e112_2, e99_2, e86_2, e63_2]
        have pa134 := PAS ok121 m134 (PAS ok112 m121 (PAS ok99 m112 (PAS ok86 m99 (PAS ok63 m86 (PAS okg m63 i2)))))
        refine w_aload_n d106_137 rfl ?_
        refine w_aload_n d106_138 rfl ?_
        refine w_dloadS d106_139 (ok134.kd hw) (fr1156 ok134 hw) ?_
        refine w_callv1 d106_142 (by omega) rfl (ok134.kd (kT1156 ok134 hw)) (by simp) (Nat.le_of_ble_eq_true rfl) ?_
        refine r_Row_digest ok134 (kT1156 ok134 hw) ?_
        rw [rs134]
        refine w_callv2 d106_145 (by omega) rfl (ok134.kd ha) (by simp) (Nat.le_of_ble_eq_true rfl) ?_
        refine k_Ou_addPart ok134 (by omega) ha pa134 (by rw [ptL_len]; omega) (fun h145 m145 e145_1 e145_2 e145_3 => ?_)
        have ok145 := m145.ok
        have M145 := Mo.tr ok M134 m145 (fun x q => by rcases q with q | q | q | q | q <;> simp [q])
        refine w_iinc3 d106_148 rfl (by constructor <;> omega) ?_
        refine w_goto d106_151 ?_
        refine w_less ?_ (IH51 _ (by omega) h145 (i + 1) rfl M145 (by omega) e145_1 (by rw [(m145.cp ok134 K56).2 (fun q => by rcases q with q | q | q | q | q; exact na q.symm; exact nda 257 (by decide) q.symm; exact nda 258 (by decide) q.symm; exact nda 259 (by decide) q.symm; exact nda 260 (by decide) q.symm), cp134]; exact i3) (fun v D => e145_2 v (OUS ok121 m134 (OUS ok112 m121 (OUS ok99 m112 (OUS ok86 m99 (OUS ok63 m86 (OUS okg m63 (i4 v D)))))))))
        exact ⟨Or.inr rfl, Or.inr rfl, Or.inr rfl, Or.inr rfl, trivial⟩
  refine w_less ?_ (L51 _ h46 0 rfl M46 (by omega) e46_1 (by rw [(m46.cp ok35 K56).2 (fun q => by rcases q with q | q | q | q | q; exact na q.symm; exact nda 257 (by decide) q.symm; exact nda 258 (by decide) q.symm; exact nda 259 (by decide) q.symm; exact nda 260 (by decide) q.symm), cp35]; exact c56) (fun v D => e46_2 v (OUS ok24 m35 (OUS ok15 m24 (OUS ok4 m15 (OUS ok m4 D))))))
  exact ⟨Or.inr rfl, Or.inr rfl, Or.inr rfl, Or.inr rfl, trivial⟩
