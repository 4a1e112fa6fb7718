/-! versions: a solution told, a tree told -/
/-- a solution's text, its first parts -/
def slTxt (be : Nat → Int) : Nat → List Nat
  | 0 => []
  | p + 1 => slTxt be p ++ ((if 0 < p then [32] else []) ++ [if be p = 0 then 45 else ((48 + be p) % 256).toNat])
/-- the tree told from here on: n rounds at the most -/
def reT (rs : List RuV) : Nat → (Nat → Int) → Nat → List Nat
  | 0, _, _ => []
  | n + 1, vl, de => if lwb rs vl < 0 ∧ de < 5 then [63] ++ (dec de ++ reT rs n (up vl de 0) (de + 1)) else [33] ++ (dec ((lwb rs vl).toNat / 10) ++ (dec ((lwb rs vl).toNat % 10) ++ (if (bk 3 vl de).2 = 0 then [] else reT rs n (up (bk 3 vl de).1 ((bk 3 vl de).2 - 1) ((bk 3 vl de).1 ((bk 3 vl de).2 - 1) + 1)) (bk 3 vl de).2)))
/-- the tree told behind a leaf -/
def reN (rs : List RuV) (n : Nat) (vl : Nat → Int) (de : Nat) : List Nat := if (bk 3 vl de).2 = 0 then [] else reT rs n (up (bk 3 vl de).1 ((bk 3 vl de).2 - 1) ((bk 3 vl de).1 ((bk 3 vl de).2 - 1) + 1)) (bk 3 vl de).2
theorem re_q {rs : List RuV} {n de : Nat} {vl : Nat → Int} (hn : 0 < n) (h : lwb rs vl < 0 ∧ de < 5) : reT rs n vl de = [63] ++ (dec de ++ reT rs (n - 1) (up vl de 0) (de + 1)) := by
  obtain ⟨m, rfl⟩ : ∃ m, n = m + 1 := ⟨n - 1, by omega⟩
  rw [reT, if_pos h]
  rfl
theorem re_l {rs : List RuV} {n de : Nat} {vl : Nat → Int} (hn : 0 < n) (h : ¬ (lwb rs vl < 0 ∧ de < 5)) : reT rs n vl de = [33] ++ (dec ((lwb rs vl).toNat / 10) ++ (dec ((lwb rs vl).toNat % 10) ++ reN rs (n - 1) vl de)) := by
  obtain ⟨m, rfl⟩ : ∃ m, n = m + 1 := ⟨n - 1, by omega⟩
  rw [reT, if_neg h]
  rfl
theorem reN_0 {rs : List RuV} {m n de : Nat} {vl vm : Nat → Int} (gb : bk 3 vl de = (vm, n)) (n0 : n = 0) : reN rs m vl de = [] := by
  unfold reN
  rw [gb, if_pos n0]
theorem reN_s {rs : List RuV} {m n de : Nat} {vl vm : Nat → Int} (gb : bk 3 vl de = (vm, n)) (n0 : n ≠ 0) : reN rs m vl de = reT rs m (up vm (n - 1) (vm (n - 1) + 1)) n := by
  unfold reN
  rw [gb, if_neg n0]
theorem mx_div {k : Int} : (if k < 0 then 0 else k).tdiv 10 = ((k.toNat / 10 : Nat) : Int) := by
  split
  · rw [show k.toNat = 0 by omega]; rfl
  · obtain ⟨m, rfl⟩ : ∃ m : Nat, k = m := ⟨k.toNat, by omega⟩
    rfl
theorem mx_mod {k : Int} : (if k < 0 then 0 else k).tmod 10 = ((k.toNat % 10 : Nat) : Int) := by
  split
  · rw [show k.toNat = 0 by omega]; rfl
  · obtain ⟨m, rfl⟩ : ∃ m : Nat, k = m := ⟨k.toNat, by omega⟩
    rfl
theorem d159_0 : dc 159 0 = some (.aload_n 0, 1) := by decide +kernel
theorem d159_1 : dc 159 1 = some (.invokevirtual 160, 4) := by decide +kernel
theorem d159_4 : dc 159 4 = some (.ifCond .ne ((14 : Nat) : Int), 7) := by decide +kernel
theorem d159_7 : dc 159 7 = some (.aload_n 1, 8) := by decide +kernel
theorem d159_8 : dc 159 8 = some (.getstatic 54, 10) := by decide +kernel
theorem d159_10 : dc 159 10 = some (.invokevirtual 84, 13) := by decide +kernel
theorem d159_13 : dc 159 13 = some (.return_, 14) := by decide +kernel
theorem d159_14 : dc 159 14 = some (.iconst 0, 15) := by decide +kernel
theorem d159_15 : dc 159 15 = some (.istore_n 2, 16) := by decide +kernel
theorem d159_16 : dc 159 16 = some (.iload_n 2, 17) := by decide +kernel
theorem d159_17 : dc 159 17 = some (.iconst 5, 18) := by decide +kernel
theorem d159_18 : dc 159 18 = some (.if_icmp .ge ((64 : Nat) : Int), 21) := by decide +kernel
theorem d159_21 : dc 159 21 = some (.iload_n 2, 22) := by decide +kernel
theorem d159_22 : dc 159 22 = some (.ifCond .le ((31 : Nat) : Int), 25) := by decide +kernel
theorem d159_25 : dc 159 25 = some (.aload_n 1, 26) := by decide +kernel
theorem d159_26 : dc 159 26 = some (.bipush 32, 28) := by decide +kernel
theorem d159_28 : dc 159 28 = some (.invokevirtual 15, 31) := by decide +kernel
theorem d159_31 : dc 159 31 = some (.aload_n 1, 32) := by decide +kernel
theorem d159_32 : dc 159 32 = some (.aload_n 0, 33) := by decide +kernel
theorem d159_33 : dc 159 33 = some (.dload 1031, 36) := by decide +kernel
theorem d159_36 : dc 159 36 = some (.iload_n 2, 37) := by decide +kernel
theorem d159_37 : dc 159 37 = some (.iaload, 38) := by decide +kernel
theorem d159_38 : dc 159 38 = some (.ifCond .ne ((46 : Nat) : Int), 41) := by decide +kernel
theorem d159_41 : dc 159 41 = some (.bipush 45, 43) := by decide +kernel
theorem d159_43 : dc 159 43 = some (.goto ((55 : Nat) : Int), 46) := by decide +kernel
theorem d159_46 : dc 159 46 = some (.bipush 48, 48) := by decide +kernel
theorem d159_48 : dc 159 48 = some (.aload_n 0, 49) := by decide +kernel
theorem d159_49 : dc 159 49 = some (.dload 1031, 52) := by decide +kernel
theorem d159_52 : dc 159 52 = some (.iload_n 2, 53) := by decide +kernel
theorem d159_53 : dc 159 53 = some (.iaload, 54) := by decide +kernel
theorem d159_54 : dc 159 54 = some (.iadd, 55) := by decide +kernel
theorem d159_55 : dc 159 55 = some (.invokevirtual 15, 58) := by decide +kernel
theorem d159_58 : dc 159 58 = some (.iinc 2 1, 61) := by decide +kernel
theorem d159_61 : dc 159 61 = some (.goto ((16 : Nat) : Int), 64) := by decide +kernel
theorem d159_64 : dc 159 64 = some (.return_, 65) := by decide +kernel
theorem k_Vr_tellSolution {S : Shp} {G : Nat → Option Nat} {d : Nat} {h : Hp} {Q : Option MV → Hp → Prop} {v : Nat} {r : Nat}  (ok : Ok S h) (h1 : 6 ≤ d) (hv : sK S v = 9) (hr : sK S r = 6) (tg : Tg S G) {rs : List RuV} (vc : VrC S h v rs) (hvr : ¬ U S v r)
    (kk : ∀ h', Mo S (fun x => x = sT S 1030 v ∨ x = sT S 1031 v ∨ x = r) h h' → rl h' r = addBs (cap h r) (rl h r) (if (fsE rs).2.2.1 ≤ 5 then slTxt (fsE rs).2.1 5 else txt 4) → cap h' r = cap h r → Q none h') : Cl G d 159 [vR (some v), vR (some r)] h Q := by
  show Wp G d 159 0 [some (vR (some v)), some (vR (some r)), none] [] h Q
  have n30r : sT S 1030 v ≠ r := fun z => hvr (z ▸ ok.so.uT (by decide) U_refl)
  have n31r : sT S 1031 v ≠ r := fun z => hvr (z ▸ ok.so.uT (by decide) U_refl)
  have K30 : sK S (sT S 1030 v) = 40 := kT1030 ok hv
  have K31 : sK S (sT S 1031 v) = 40 := kT1031 ok hv
  have nvr : v ≠ r := fun z => hvr (z ▸ U_refl)
  refine w_aload_n d159_0 rfl ?_
  refine w_callv1 d159_1 (by omega) rfl (ok.kd hv) (by simp) (Nat.le_of_ble_eq_true rfl) ?_
  refine k_Vr_findSolution ok (by omega) hv vc (fun h1 m1 e1_1 => ?_)
  have ok1 := m1.ok
  have M1 := Mo.tr ok (Mo.refl (A := (fun x => x = (sT S 1030 v) ∨ x = (sT S 1031 v) ∨ x = r)) ok) m1 (fun x q => q.elim ((fun x e => (Or.inl e)) x) ((fun x e => (Or.inr (Or.inl e))) x))
  have rb1 : rl h1 r = rl h r := m1.rb ok hr (by simp [Ne.symm n30r, Ne.symm n31r])
  have cp1 : cap h1 r = cap h r := (m1.cp ok hr).2 (by simp [Ne.symm n30r, Ne.symm n31r])
  refine w_ifne d159_4 (fun c4 => ?_) (fun c4 => ?_)
  · have fl : (fsE rs).2.2.1 ≤ 5 := by
      by_cases z : (fsE rs).2.2.1 ≤ 5
      · exact z
      · exact absurd (by rw [decide_eq_false z]; rfl) c4
    refine w_iconst d159_14 (by decide) ?_
    refine w_istore2 d159_15 rfl ?_
    have L16 : ∀ (m16 : Nat) (g : Hp) (p : Nat), 5 - p = m16 → Mo S (fun x => x = (sT S 1030 v) ∨ x = (sT S 1031 v) ∨ x = r) h g → (p ≤ 5) → (rl g r = addBs (cap h r) (rl h r) (slTxt (fsE rs).2.1 p)) → (cap g r = cap h r) → (∀ j, j < 5 → AI g (sT S 1031 v) j = (fsE rs).2.1 j) → Wp G d 159 16 [some (vR (some v)), some (vR (some r)), some (vI (p : Nat))] [] g Q := by
      intro m16
      induction m16 using Nat.strongRecOn with | ind m16 IH16 => ?_
      intro g p hm16 Mg i1 i2 i3 i4
      have okg := Mg.ok
      refine w_iload_n d159_16 rfl ?_
      refine w_iconst d159_17 (by decide) ?_
      refine w_icmpge d159_18 (fun c18 => ?_) (fun c18 => ?_)
      · refine w_return d159_64 ?_
        rw [if_pos fl] at kk
        exact kk g Mg (by rw [i2, show p = 5 by omega]) i3
      · refine w_iload_n d159_21 rfl ?_
        refine w_ifle d159_22 (fun c22 => ?_) (fun c22 => ?_)
        · have p0 : ¬ 0 < p := by omega
          refine w_aload_n d159_31 rfl ?_
          refine w_aload_n d159_32 rfl ?_
          refine w_dloadS d159_33 (okg.kd hv) (fr1031 okg hv) ?_
          refine w_iload_n d159_36 rfl ?_
          refine w_ialoadV (x := ((fsE rs).2.1 p)) d159_37 (gi1031 okg hv (by omega)) ((by first | exact i4 p (by omega) | (rw [m28.ai okg ⟨by omega, by omega⟩ n31r]; exact i4 p (by omega)))) ?_
          refine w_ifne d159_38 (fun c38 => ?_) (fun c38 => ?_)
          · have b0 : ¬ (fsE rs).2.1 p = 0 := by omega
            refine w_bipush d159_46 (by decide) ?_
            refine w_aload_n d159_48 rfl ?_
            refine w_dloadS d159_49 (okg.kd hv) (fr1031 okg hv) ?_
            refine w_iload_n d159_52 rfl ?_
            refine w_ialoadV (x := ((fsE rs).2.1 p)) d159_53 (gi1031 okg hv (by omega)) ((by first | exact i4 p (by omega) | (rw [m28.ai okg ⟨by omega, by omega⟩ n31r]; exact i4 p (by omega)))) ?_
            have rb3 : -1 ≤ (fsE rs).2.1 p ∧ (fsE rs).2.1 p ≤ 3 := by rw [← i4 p (by omega)]; exact ra1031 okg hv p
            refine w_iadd d159_54 (by constructor <;> omega) ?_
            refine w_callv2 d159_55 (by omega) rfl (okg.kd hr) (by simp) (Nat.le_of_ble_eq_true rfl) ?_
            refine r_Row_add okg hr (fun h55 m55 e55_1 e55_2 => ?_)
            have ok55 := m55.ok
            have M55 := Mo.tr ok Mg m55 (fun x e => (Or.inr (Or.inr e)))
            refine w_iinc2 d159_58 rfl (by constructor <;> omega) ?_
            refine w_goto d159_61 ?_
            refine w_less ?_ (IH16 _ (by omega) h55 (p + 1) rfl M55 (by omega) (by rw [e55_1, i3, i2]; simp only [addBs3]; rw [slTxt]; (first | rw [if_pos p0] | rw [if_neg p0]); (first | rw [if_pos b0] | rw [if_neg b0]); first | done | rfl | simp [List.append_assoc]) (by rw [e55_2, i3]) (fun j hj => by rw [m55.ai (by assumption) ⟨by omega, by omega⟩ n31r]; first | exact i4 j hj | (rw [m28.ai okg ⟨by omega, by omega⟩ n31r]; exact i4 j hj)))
            exact ⟨Or.inr rfl, Or.inr rfl, Or.inr rfl, trivial⟩
          · have b0 : (fsE rs).2.1 p = 0 := by omega
            refine w_bipush d159_41 (by decide) ?_
            refine w_goto d159_43 ?_
            refine w_callv2 d159_55 (by omega) rfl (okg.kd hr) (by simp) (Nat.le_of_ble_eq_true rfl) ?_
            refine r_Row_add okg hr (fun h55 m55 e55_1 e55_2 => ?_)
            have ok55 := m55.ok
            have M55 := Mo.tr ok Mg m55 (fun x e => (Or.inr (Or.inr e)))
            refine w_iinc2 d159_58 rfl (by constructor <;> omega) ?_
            refine w_goto d159_61 ?_
            refine w_less ?_ (IH16 _ (by omega) h55 (p + 1) rfl M55 (by omega) (by rw [e55_1, i3, i2]; simp only [addBs3]; rw [slTxt]; (first | rw [if_pos p0] | rw [if_neg p0]); (first | rw [if_pos b0] | rw [if_neg b0]); first | done | rfl | simp [List.append_assoc]) (by rw [e55_2, i3]) (fun j hj => by rw [m55.ai (by assumption) ⟨by omega, by omega⟩ n31r]; first | exact i4 j hj | (rw [m28.ai okg ⟨by omega, by omega⟩ n31r]; exact i4 j hj)))
            exact ⟨Or.inr rfl, Or.inr rfl, Or.inr rfl, trivial⟩
        · have p0 : 0 < p := by omega
          refine w_aload_n d159_25 rfl ?_
          refine w_bipush d159_26 (by decide) ?_
          refine w_callv2 d159_28 (by omega) rfl (okg.kd hr) (by simp) (Nat.le_of_ble_eq_true rfl) ?_
          refine r_Row_add okg hr (fun h28 m28 e28_1 e28_2 => ?_)
          have ok28 := m28.ok
          have M28 := Mo.tr ok Mg m28 (fun x e => (Or.inr (Or.inr e)))
          refine w_aload_n d159_31 rfl ?_
          refine w_aload_n d159_32 rfl ?_
          refine w_dloadS d159_33 (ok28.kd hv) (fr1031 ok28 hv) ?_
          refine w_iload_n d159_36 rfl ?_
          refine w_ialoadV (x := ((fsE rs).2.1 p)) d159_37 (gi1031 ok28 hv (by omega)) ((by first | exact i4 p (by omega) | (rw [m28.ai okg ⟨by omega, by omega⟩ n31r]; exact i4 p (by omega)))) ?_
          refine w_ifne d159_38 (fun c38 => ?_) (fun c38 => ?_)
          · have b0 : ¬ (fsE rs).2.1 p = 0 := by omega
            refine w_bipush d159_46 (by decide) ?_
            refine w_aload_n d159_48 rfl ?_
            refine w_dloadS d159_49 (ok28.kd hv) (fr1031 ok28 hv) ?_
            refine w_iload_n d159_52 rfl ?_
            refine w_ialoadV (x := ((fsE rs).2.1 p)) d159_53 (gi1031 ok28 hv (by omega)) ((by first | exact i4 p (by omega) | (rw [m28.ai okg ⟨by omega, by omega⟩ n31r]; exact i4 p (by omega)))) ?_
            have rb3 : -1 ≤ (fsE rs).2.1 p ∧ (fsE rs).2.1 p ≤ 3 := by rw [← i4 p (by omega)]; exact ra1031 okg hv p
            refine w_iadd d159_54 (by constructor <;> omega) ?_
            refine w_callv2 d159_55 (by omega) rfl (ok28.kd hr) (by simp) (Nat.le_of_ble_eq_true rfl) ?_
            refine r_Row_add ok28 hr (fun h55 m55 e55_1 e55_2 => ?_)
            have ok55 := m55.ok
            have M55 := Mo.tr ok M28 m55 (fun x e => (Or.inr (Or.inr e)))
            refine w_iinc2 d159_58 rfl (by constructor <;> omega) ?_
            refine w_goto d159_61 ?_
            refine w_less ?_ (IH16 _ (by omega) h55 (p + 1) rfl M55 (by omega) (by rw [e55_1, e28_1, e28_2, i3, i2]; simp only [addBs3]; rw [slTxt]; (first | rw [if_pos p0] | rw [if_neg p0]); (first | rw [if_pos b0] | rw [if_neg b0]); first | done | rfl | simp [List.append_assoc]) (by rw [e55_2, e28_2, i3]) (fun j hj => by rw [m55.ai (by assumption) ⟨by omega, by omega⟩ n31r]; first | exact i4 j hj | (rw [m28.ai okg ⟨by omega, by omega⟩ n31r]; exact i4 j hj)))
            exact ⟨Or.inr rfl, Or.inr rfl, Or.inr rfl, trivial⟩
          · have b0 : (fsE rs).2.1 p = 0 := by omega
            refine w_bipush d159_41 (by decide) ?_
            refine w_goto d159_43 ?_
            refine w_callv2 d159_55 (by omega) rfl (ok28.kd hr) (by simp) (Nat.le_of_ble_eq_true rfl) ?_
            refine r_Row_add ok28 hr (fun h55 m55 e55_1 e55_2 => ?_)
            have ok55 := m55.ok
            have M55 := Mo.tr ok M28 m55 (fun x e => (Or.inr (Or.inr e)))
            refine w_iinc2 d159_58 rfl (by constructor <;> omega) ?_
            refine w_goto d159_61 ?_
            refine w_less ?_ (IH16 _ (by omega) h55 (p + 1) rfl M55 (by omega) (by rw [e55_1, e28_1, e28_2, i3, i2]; simp only [addBs3]; rw [slTxt]; (first | rw [if_pos p0] | rw [if_neg p0]); (first | rw [if_pos b0] | rw [if_neg b0]); first | done | rfl | simp [List.append_assoc]) (by rw [e55_2, e28_2, i3]) (fun j hj => by rw [m55.ai (by assumption) ⟨by omega, by omega⟩ n31r]; first | exact i4 j hj | (rw [m28.ai okg ⟨by omega, by omega⟩ n31r]; exact i4 j hj)))
            exact ⟨Or.inr rfl, Or.inr rfl, Or.inr rfl, trivial⟩
    refine w_less ?_ (L16 _ h1 0 rfl M1 (by omega) (by rw [rb1]; rfl) cp1 (e1_1 fl))
    exact ⟨Or.inr rfl, Or.inr rfl, Or.inr rfl, trivial⟩
  · have fl : ¬ (fsE rs).2.2.1 ≤ 5 := fun z => absurd c4 (by rw [decide_eq_true z]; decide)
    refine w_aload_n d159_7 rfl ?_
    obtain ⟨g8, v8, s8⟩ := tg.tx ok1 4 (by decide)
    refine w_getstaticS d159_8 v8 ?_
    refine w_callv2 d159_10 (by omega) rfl (ok1.kd hr) (by simp) (Nat.le_of_ble_eq_true rfl) ?_
    refine r_Row_addText (by omega) ok1 hr s8 (fun h10 m10 e10_1 e10_2 => ?_)
    have ok10 := m10.ok
    have M10 := Mo.tr ok M1 m10 (fun x e => (Or.inr (Or.inr e)))
    refine w_return d159_13 ?_
    rw [if_neg fl] at kk
    exact kk h10 M10 (by rw [e10_1, rb1, cp1]) (by rw [e10_2, cp1])
theorem d164_0 : dc 164 0 = some (.aload_n 0, 1) := by decide +kernel
theorem d164_1 : dc 164 1 = some (.invokevirtual 160, 4) := by decide +kernel
theorem d164_4 : dc 164 4 = some (.ifCond .eq ((14 : Nat) : Int), 7) := by decide +kernel
theorem d164_7 : dc 164 7 = some (.aload_n 1, 8) := by decide +kernel
theorem d164_8 : dc 164 8 = some (.getstatic 74, 10) := by decide +kernel
theorem d164_10 : dc 164 10 = some (.invokevirtual 84, 13) := by decide +kernel
theorem d164_13 : dc 164 13 = some (.return_, 14) := by decide +kernel
theorem d164_14 : dc 164 14 = some (.aload_n 0, 15) := by decide +kernel
theorem d164_15 : dc 164 15 = some (.dload 1030, 18) := by decide +kernel
theorem d164_18 : dc 164 18 = some (.iconst (-1), 19) := by decide +kernel
theorem d164_19 : dc 164 19 = some (.invokevirtual 58, 22) := by decide +kernel
theorem d164_22 : dc 164 22 = some (.iconst 0, 23) := by decide +kernel
theorem d164_23 : dc 164 23 = some (.istore_n 2, 24) := by decide +kernel
theorem d164_24 : dc 164 24 = some (.iconst 1, 25) := by decide +kernel
theorem d164_25 : dc 164 25 = some (.istore_n 3, 26) := by decide +kernel
theorem d164_26 : dc 164 26 = some (.iconst 0, 27) := by decide +kernel
theorem d164_27 : dc 164 27 = some (.istore 4, 29) := by decide +kernel
theorem d164_29 : dc 164 29 = some (.iload_n 3, 30) := by decide +kernel
theorem d164_30 : dc 164 30 = some (.ifCond .eq ((174 : Nat) : Int), 33) := by decide +kernel
theorem d164_33 : dc 164 33 = some (.iload 4, 35) := by decide +kernel
theorem d164_35 : dc 164 35 = some (.sipush 1365, 38) := by decide +kernel
theorem d164_38 : dc 164 38 = some (.if_icmp .ge ((174 : Nat) : Int), 41) := by decide +kernel
theorem d164_41 : dc 164 41 = some (.aload_n 0, 42) := by decide +kernel
theorem d164_42 : dc 164 42 = some (.invokevirtual 161, 45) := by decide +kernel
theorem d164_45 : dc 164 45 = some (.istore 5, 47) := by decide +kernel
theorem d164_47 : dc 164 47 = some (.iload 5, 49) := by decide +kernel
theorem d164_49 : dc 164 49 = some (.ifCond .ge ((81 : Nat) : Int), 52) := by decide +kernel
theorem d164_52 : dc 164 52 = some (.iload_n 2, 53) := by decide +kernel
theorem d164_53 : dc 164 53 = some (.iconst 5, 54) := by decide +kernel
theorem d164_54 : dc 164 54 = some (.if_icmp .ge ((81 : Nat) : Int), 57) := by decide +kernel
theorem d164_57 : dc 164 57 = some (.aload_n 1, 58) := by decide +kernel
theorem d164_58 : dc 164 58 = some (.bipush 63, 60) := by decide +kernel
theorem d164_60 : dc 164 60 = some (.invokevirtual 15, 63) := by decide +kernel
theorem d164_63 : dc 164 63 = some (.aload_n 1, 64) := by decide +kernel
theorem d164_64 : dc 164 64 = some (.iload_n 2, 65) := by decide +kernel
theorem d164_65 : dc 164 65 = some (.invokevirtual 124, 68) := by decide +kernel
theorem d164_68 : dc 164 68 = some (.aload_n 0, 69) := by decide +kernel
theorem d164_69 : dc 164 69 = some (.dload 1030, 72) := by decide +kernel
theorem d164_72 : dc 164 72 = some (.iload_n 2, 73) := by decide +kernel
theorem d164_73 : dc 164 73 = some (.iconst 0, 74) := by decide +kernel
theorem d164_74 : dc 164 74 = some (.iastore, 75) := by decide +kernel
theorem d164_75 : dc 164 75 = some (.iinc 2 1, 78) := by decide +kernel
theorem d164_78 : dc 164 78 = some (.goto ((168 : Nat) : Int), 81) := by decide +kernel
theorem d164_81 : dc 164 81 = some (.aload_n 1, 82) := by decide +kernel
theorem d164_82 : dc 164 82 = some (.bipush 33, 84) := by decide +kernel
theorem d164_84 : dc 164 84 = some (.invokevirtual 15, 87) := by decide +kernel
theorem d164_87 : dc 164 87 = some (.aload_n 1, 88) := by decide +kernel
theorem d164_88 : dc 164 88 = some (.iload 5, 90) := by decide +kernel
theorem d164_90 : dc 164 90 = some (.iconst 0, 91) := by decide +kernel
theorem d164_91 : dc 164 91 = some (.invokestatic 3, 94) := by decide +kernel
theorem d164_94 : dc 164 94 = some (.bipush 10, 96) := by decide +kernel
theorem d164_96 : dc 164 96 = some (.idiv, 97) := by decide +kernel
theorem d164_97 : dc 164 97 = some (.invokevirtual 124, 100) := by decide +kernel
theorem d164_100 : dc 164 100 = some (.aload_n 1, 101) := by decide +kernel
theorem d164_101 : dc 164 101 = some (.iload 5, 103) := by decide +kernel
theorem d164_103 : dc 164 103 = some (.iconst 0, 104) := by decide +kernel
theorem d164_104 : dc 164 104 = some (.invokestatic 3, 107) := by decide +kernel
theorem d164_107 : dc 164 107 = some (.bipush 10, 109) := by decide +kernel
theorem d164_109 : dc 164 109 = some (.irem, 110) := by decide +kernel
theorem d164_110 : dc 164 110 = some (.invokevirtual 124, 113) := by decide +kernel
theorem d164_113 : dc 164 113 = some (.iload_n 2, 114) := by decide +kernel
theorem d164_114 : dc 164 114 = some (.ifCond .le ((142 : Nat) : Int), 117) := by decide +kernel
theorem d164_117 : dc 164 117 = some (.aload_n 0, 118) := by decide +kernel
theorem d164_118 : dc 164 118 = some (.dload 1030, 121) := by decide +kernel
theorem d164_121 : dc 164 121 = some (.iload_n 2, 122) := by decide +kernel
theorem d164_122 : dc 164 122 = some (.iconst 1, 123) := by decide +kernel
theorem d164_123 : dc 164 123 = some (.isub, 124) := by decide +kernel
theorem d164_124 : dc 164 124 = some (.iaload, 125) := by decide +kernel
theorem d164_125 : dc 164 125 = some (.iconst 3, 126) := by decide +kernel
theorem d164_126 : dc 164 126 = some (.if_icmp .ne ((142 : Nat) : Int), 129) := by decide +kernel
theorem d164_129 : dc 164 129 = some (.iinc 2 (-1), 132) := by decide +kernel
theorem d164_132 : dc 164 132 = some (.aload_n 0, 133) := by decide +kernel
theorem d164_133 : dc 164 133 = some (.dload 1030, 136) := by decide +kernel
theorem d164_136 : dc 164 136 = some (.iload_n 2, 137) := by decide +kernel
theorem d164_137 : dc 164 137 = some (.iconst (-1), 138) := by decide +kernel
theorem d164_138 : dc 164 138 = some (.iastore, 139) := by decide +kernel
theorem d164_139 : dc 164 139 = some (.goto ((113 : Nat) : Int), 142) := by decide +kernel
theorem d164_142 : dc 164 142 = some (.iload_n 2, 143) := by decide +kernel
theorem d164_143 : dc 164 143 = some (.ifCond .le ((150 : Nat) : Int), 146) := by decide +kernel
theorem d164_146 : dc 164 146 = some (.iconst 1, 147) := by decide +kernel
theorem d164_147 : dc 164 147 = some (.goto ((151 : Nat) : Int), 150) := by decide +kernel
theorem d164_150 : dc 164 150 = some (.iconst 0, 151) := by decide +kernel
theorem d164_151 : dc 164 151 = some (.istore_n 3, 152) := by decide +kernel
theorem d164_152 : dc 164 152 = some (.iload_n 3, 153) := by decide +kernel
theorem d164_153 : dc 164 153 = some (.ifCond .eq ((168 : Nat) : Int), 156) := by decide +kernel
theorem d164_156 : dc 164 156 = some (.aload_n 0, 157) := by decide +kernel
theorem d164_157 : dc 164 157 = some (.dload 1030, 160) := by decide +kernel
theorem d164_160 : dc 164 160 = some (.iload_n 2, 161) := by decide +kernel
theorem d164_161 : dc 164 161 = some (.iconst 1, 162) := by decide +kernel
theorem d164_162 : dc 164 162 = some (.isub, 163) := by decide +kernel
theorem d164_163 : dc 164 163 = some (.dup2, 164) := by decide +kernel
theorem d164_164 : dc 164 164 = some (.iaload, 165) := by decide +kernel
theorem d164_165 : dc 164 165 = some (.iconst 1, 166) := by decide +kernel
theorem d164_166 : dc 164 166 = some (.iadd, 167) := by decide +kernel
theorem d164_167 : dc 164 167 = some (.iastore, 168) := by decide +kernel
theorem d164_168 : dc 164 168 = some (.iinc 4 1, 171) := by decide +kernel
theorem d164_171 : dc 164 171 = some (.goto ((29 : Nat) : Int), 174) := by decide +kernel
theorem d164_174 : dc 164 174 = some (.return_, 175) := by decide +kernel
theorem k_Vr_refute {S : Shp} {G : Nat → Option Nat} {d : Nat} {h : Hp} {Q : Option MV → Hp → Prop} {v : Nat} {r : Nat}  (ok : Ok S h) (h1 : 6 ≤ d) (hv : sK S v = 9) (hr : sK S r = 6) (tg : Tg S G) {rs : List RuV} (vc : VrC S h v rs) (hvr : ¬ U S v r)
    (kk : ∀ h', Mo S (fun x => x = sT S 1030 v ∨ x = sT S 1031 v ∨ x = r) h h' → rl h' r = addBs (cap h r) (rl h r) (if (fsE rs).2.2.1 ≤ 5 then txt 24 else reT rs 1365 (fun _ => -1) 0) → cap h' r = cap h r → Q none h') : Cl G d 164 [vR (some v), vR (some r)] h Q := by
  show Wp G d 164 0 [some (vR (some v)), some (vR (some r)), none, none, none, none] [] h Q
  have n30r : sT S 1030 v ≠ r := fun z => hvr (z ▸ ok.so.uT (by decide) U_refl)
  have n31r : sT S 1031 v ≠ r := fun z => hvr (z ▸ ok.so.uT (by decide) U_refl)
  have K30 : sK S (sT S 1030 v) = 40 := kT1030 ok hv
  have K31 : sK S (sT S 1031 v) = 40 := kT1031 ok hv
  have nvr : v ≠ r := fun z => hvr (z ▸ U_refl)
  have nvv : v ≠ sT S 1030 v := fun z => ok.so.pT (by decide) z.symm
  have nvb : v ≠ sT S 1031 v := fun z => ok.so.pT (by decide) z.symm
  have nTT : ∀ f, 1025 ≤ f → f ≤ 1029 → ∀ g, 1030 ≤ g → g ≤ 1031 → sT S f v ≠ sT S g v := fun f h1 h2 g h3 h4 z => absurd ((ok.so.inj (by omega) (by omega)).mp z).1 (by omega)
  have nTr : ∀ f, f < 4096 → sT S f v ≠ r := fun f hf z => hvr (z ▸ ok.so.uT hf U_refl)
  have q2 := vc.2.1
  have lr := lwb_rg rs
  refine w_aload_n d164_0 rfl ?_
  refine w_callv1 d164_1 (by omega) rfl (ok.kd hv) (by simp) (Nat.le_of_ble_eq_true rfl) ?_
  refine k_Vr_findSolution ok (by omega) hv vc (fun h1 m1 e1_1 => ?_)
  have ok1 := m1.ok
  have M1 := Mo.tr ok (Mo.refl (A := (fun x => x = (sT S 1030 v) ∨ x = (sT S 1031 v) ∨ x = r)) ok) m1 (fun x q => q.elim ((fun x e => (Or.inl e)) x) ((fun x e => (Or.inr (Or.inl e))) x))
  have rb1 : rl h1 r = rl h r := m1.rb ok hr (by simp [Ne.symm n30r, Ne.symm n31r])
  have cp1 : cap h1 r = cap h r := (m1.cp ok hr).2 (by simp [Ne.symm n30r, Ne.symm n31r])
  refine w_ifeq d164_4 (fun c4 => ?_) (fun c4 => ?_)
  · have fl : ¬ (fsE rs).2.2.1 ≤ 5 := fun z => absurd c4 (by rw [decide_eq_true z]; exact (by decide))
    refine w_aload_n d164_14 rfl ?_
    refine w_dloadS d164_15 (ok1.kd hv) (fr1030 ok1 hv) ?_
    refine w_iconst d164_18 (by decide) ?_
    refine w_calls2 d164_19 (by omega) rfl rfl (by simp) (Nat.le_of_ble_eq_true rfl) ?_
    refine k_Arrays_fill (n := 5) ok1 (by omega) hv rfl rfl ⟨by omega, by omega⟩ ⟨by decide, by decide⟩ (fun h19 m19 e19_1 => ?_)
    have ok19 := m19.ok
    have M19 := Mo.tr ok M1 m19 (fun x e => (Or.inl e))
    refine w_iconst d164_22 (by decide) ?_
    refine w_istore2 d164_23 rfl ?_
    refine w_iconst d164_24 (by decide) ?_
    refine w_istore3 d164_25 rfl ?_
    refine w_iconst d164_26 (by decide) ?_
    refine w_istore4 d164_27 rfl ?_
    have L29 : ∀ (m29 : Nat) (g : Hp) (i : Nat) (vl : Nat → Int) (de : Nat) (mo : Bool), 1365 - i = m29 → Mo S (fun x => x = (sT S 1030 v) ∨ x = (sT S 1031 v) ∨ x = r) h g → (i ≤ 1365) → (de ≤ 5) → (addBs (cap h r) (rl g r) (if mo = true then reT rs (1365 - i) vl de else []) = addBs (cap h r) (rl h r) (reT rs 1365 (fun _ => -1) 0)) → (cap g r = cap h r) → (∀ j, j < 5 → AI g (sT S 1030 v) j = vl j) → Wp G d 164 29 [some (vR (some v)), some (vR (some r)), some (vI (de : Nat)), some (vI (b2i mo)), some (vI (i : Nat)), none] [] g Q := by
      intro m29
      induction m29 using Nat.strongRecOn with | ind m29 IH29 => ?_
      intro g i vl de mo hm29 Mg i1 i2 i3 i4 i5
      have okg := Mg.ok
      have vcg : VrC S g v rs := vc.fr ok Mg hv (Or.inl (by simp [nvv, nvb, nvr])) (fun f h1 h2 => by simp [nTT f h1 h2 1030 (by decide) (by decide), nTT f h1 h2 1031 (by decide) (by decide), nTr f (by omega)])
      have lw : lwb rs (AI g (sT S 1030 v)) = lwb rs vl := lwb_cg vc.rg i5
      have lr2 := lr vl
      refine w_iload_n d164_29 rfl ?_
      refine w_ifeq d164_30 (fun c30 => ?_) (fun c30 => ?_)
      · have mf : ¬ mo = true := by cases mo with
          | true => exact absurd c30 (by decide)
          | false => decide
        have E := i3
        rw [if_neg mf] at E
        refine w_return d164_174 ?_
        rw [if_neg fl] at kk
        exact kk g Mg E i4
      · have mf : mo = true := by cases mo with
          | true => rfl
          | false => exact absurd rfl c30
        refine w_iload d164_33 rfl ?_
        refine w_sipush d164_35 (by decide) ?_
        refine w_icmpge d164_38 (fun c38 => ?_) (fun c38 => ?_)
        · have E := i3
          rw [if_pos mf, show 1365 - i = 0 by omega] at E
          refine w_return d164_174 ?_
          rw [if_neg fl] at kk
          exact kk g Mg E i4
        · refine w_aload_n d164_41 rfl ?_
          refine w_callv1 d164_42 (by omega) rfl (okg.kd hv) (by simp) (Nat.le_of_ble_eq_true rfl) ?_
          refine k_Vr_lowestBroken okg (by omega) hv vcg ?_
          rw [lw]
          refine w_istore5 d164_45 rfl ?_
          refine w_iload d164_47 rfl ?_
          refine w_ifge d164_49 (fun c49 => ?_) (fun c49 => ?_)
          · have hb : ¬ (lwb rs vl < 0 ∧ de < 5) := fun z => by omega
            refine w_aload_n d164_81 rfl ?_
            refine w_bipush d164_82 (by decide) ?_
            refine w_callv2 d164_84 (by omega) rfl (okg.kd hr) (by simp) (Nat.le_of_ble_eq_true rfl) ?_
            refine r_Row_add okg hr (fun h84 m84 e84_1 e84_2 => ?_)
            have ok84 := m84.ok
            have M84 := Mo.tr ok Mg m84 (fun x e => (Or.inr (Or.inr e)))
            refine w_aload_n d164_87 rfl ?_
            refine w_iload d164_88 rfl ?_
            refine w_iconst d164_90 (by decide) ?_
            refine w_max d164_91 (by refine ⟨by simp, ?_⟩; omega) ?_
            refine w_bipush d164_94 (by decide) ?_
            refine w_idiv d164_96 (by decide) ?_
            rw [mx_div]
            refine w_callv2 d164_97 (by omega) rfl (ok84.kd hr) (by simp) (Nat.le_of_ble_eq_true rfl) ?_
            refine r_Row_addNumber (by omega) ok84 hr (by omega) (fun h97 m97 e97_1 e97_2 => ?_)
            have ok97 := m97.ok
            have M97 := Mo.tr ok M84 m97 (fun x e => (Or.inr (Or.inr e)))
            refine w_aload_n d164_100 rfl ?_
            refine w_iload d164_101 rfl ?_
            refine w_iconst d164_103 (by decide) ?_
            refine w_max d164_104 (by refine ⟨by simp, ?_⟩; omega) ?_
            refine w_bipush d164_107 (by decide) ?_
            refine w_irem d164_109 (by decide) ?_
            rw [mx_mod]
            refine w_callv2 d164_110 (by omega) rfl (ok97.kd hr) (by simp) (Nat.le_of_ble_eq_true rfl) ?_
            refine r_Row_addNumber (by omega) ok97 hr (by omega) (fun h110 m110 e110_1 e110_2 => ?_)
            have ok110 := m110.ok
            have M110 := Mo.tr ok M97 m110 (fun x e => (Or.inr (Or.inr e)))
            have L113 : ∀ (m113 : Nat) (g2 : Hp) (vm : Nat → Int) (n : Nat), n = m113 → Mo S (fun x => x = (sT S 1030 v) ∨ x = (sT S 1031 v) ∨ x = r) h g2 → (n ≤ de) → (bk 3 vl de = bk 3 vm n) → (addBs (cap h r) (rl g2 r) (reN rs (1365 - i - 1) vl de) = addBs (cap h r) (rl h r) (reT rs 1365 (fun _ => -1) 0)) → (cap g2 r = cap h r) → (∀ j, j < 5 → AI g2 (sT S 1030 v) j = vm j) → Wp G d 164 113 [some (vR (some v)), some (vR (some r)), some (vI (n : Nat)), some (vI (b2i mo)), some (vI (i : Nat)), some (vI (lwb rs vl))] [] g2 Q := by
              intro m113
              induction m113 using Nat.strongRecOn with | ind m113 IH113 => ?_
              intro g2 vm n hm113 Mg2 j1 j2 j3 j4 j5
              have okg2 := Mg2.ok
              refine w_iload_n d164_113 rfl ?_
              refine w_ifle d164_114 (fun c114 => ?_) (fun c114 => ?_)
              · have n0 : n = 0 := by omega
                have gb := j2.trans (bk_end (Or.inl n0))
                refine w_iload_n d164_142 rfl ?_
                refine w_ifle d164_143 (fun c143 => ?_) (fun c143 => ?_)
                · refine w_iconst d164_150 (by decide) ?_
                  refine w_istore3 d164_151 rfl ?_
                  refine w_iload_n d164_152 rfl ?_
                  refine w_ifeq d164_153 (fun c153 => ?_) (fun c153 => ?_)
                  · refine w_iinc4 d164_168 rfl (by constructor <;> omega) ?_
                    refine w_goto d164_171 ?_
                    refine w_less ?_ (IH29 _ (by omega) g2 (i + 1) vm n false rfl Mg2 (by omega) (by omega) (by rw [if_neg (by decide)]; rw [reN_0 gb n0] at j3; exact j3) j4 j5)
                    exact ⟨Or.inr rfl, Or.inr rfl, Or.inr rfl, Or.inr rfl, Or.inr rfl, Or.inl rfl, trivial⟩
                  · exact absurd rfl c153
                · omega
              · refine w_aload_n d164_117 rfl ?_
                refine w_dloadS d164_118 (okg2.kd hv) (fr1030 okg2 hv) ?_
                refine w_iload_n d164_121 rfl ?_
                refine w_iconst d164_122 (by decide) ?_
                refine w_isub d164_123 (by constructor <;> omega) ?_
                rw [show ((n : Nat) : Int) - 1 = ((n - 1 : Nat) : Int) by omega]
                refine w_ialoadV (x := (vm (n - 1))) d164_124 (gi1030 okg2 hv (by omega)) (j5 (n - 1) (by omega)) ?_
                refine w_iconst d164_125 (by decide) ?_
                refine w_icmpne d164_126 (fun c126 => ?_) (fun c126 => ?_)
                · have gb := j2.trans (bk_end (Or.inr c126))
                  have p3 : -1 ≤ vm (n - 1) ∧ vm (n - 1) ≤ 3 := by rw [← j5 (n - 1) (by omega)]; exact ra1030 okg2 hv (n - 1)
                  have nn : n ≠ 0 := by omega
                  refine w_iload_n d164_142 rfl ?_
                  refine w_ifle d164_143 (fun c143 => ?_) (fun c143 => ?_)
                  · omega
                  · refine w_iconst d164_146 (by decide) ?_
                    refine w_goto d164_147 ?_
                    refine w_istore3 d164_151 rfl ?_
                    refine w_iload_n d164_152 rfl ?_
                    refine w_ifeq d164_153 (fun c153 => ?_) (fun c153 => ?_)
                    · exact absurd c153 (by decide)
                    · refine w_aload_n d164_156 rfl ?_
                      refine w_dloadS d164_157 (okg2.kd hv) (fr1030 okg2 hv) ?_
                      refine w_iload_n d164_160 rfl ?_
                      refine w_iconst d164_161 (by decide) ?_
                      refine w_isub d164_162 (by constructor <;> omega) ?_
                      rw [show ((n : Nat) : Int) - 1 = ((n - 1 : Nat) : Int) by omega]
                      refine w_dup2 d164_163 ?_
                      refine w_ialoadV (x := (vm (n - 1))) d164_164 (gi1030 okg2 hv (by omega)) (j5 (n - 1) (by omega)) ?_
                      refine w_iconst d164_165 (by decide) ?_
                      refine w_iadd d164_166 (by constructor <;> omega) ?_
                      refine wa1030 d164_167 okg2 hv (by omega) (by omega) (fun h167 e167 m167 => ?_)
                      have ok167 := m167.ok
                      have M167 := Mo.tr ok Mg2 m167 (fun x e => (Or.inl e))
                      refine w_iinc4 d164_168 rfl (by constructor <;> omega) ?_
                      refine w_goto d164_171 ?_
                      refine w_less ?_ (IH29 _ (by omega) h167 (i + 1) (up vm (n - 1) (vm (n - 1) + 1)) n true rfl M167 (by omega) (by omega) (by rw [if_pos rfl, m167.rb okg2 hr (Ne.symm n30r)]; rw [reN_s gb nn] at j3; rw [← j3, show 1365 - (i + 1) = 1365 - i - 1 by omega]) (by rw [show cap h167 r = cap g2 r from (m167.cp okg2 hr).2 (Ne.symm n30r)]; exact j4) (fun j hj => by rw [e167, sArr]; show (if j = n - 1 then _ else _) = (if j = n - 1 then vm (n - 1) + 1 else vm j); rw [j5 j hj]))
                      exact ⟨Or.inr rfl, Or.inr rfl, Or.inr rfl, Or.inr rfl, Or.inr rfl, Or.inl rfl, trivial⟩
                · refine w_iinc2 d164_129 rfl (by constructor <;> omega) ?_
                  rw [show ((n : Nat) : Int) + (-1) = ((n - 1 : Nat) : Int) by omega]
                  refine w_aload_n d164_132 rfl ?_
                  refine w_dloadS d164_133 (okg2.kd hv) (fr1030 okg2 hv) ?_
                  refine w_iload_n d164_136 rfl ?_
                  refine w_iconst d164_137 (by decide) ?_
                  refine wa1030 d164_138 okg2 hv (by omega) (by omega) (fun h138 e138 m138 => ?_)
                  have e138 : h138 = sAI g2 (sT S 1030 v) (n - 1) (-1) := e138
                  have ok138 := m138.ok
                  have M138 := Mo.tr ok Mg2 m138 (fun x e => (Or.inl e))
                  refine w_goto d164_139 ?_
                  refine w_less ?_ (IH113 _ (by omega) h138 (up vm (n - 1) (-1)) (n - 1) rfl M138 (by omega) (by rw [j2, bk_step (by omega) (by omega)]) (by rw [m138.rb okg2 hr (Ne.symm n30r)]; exact j3) (by rw [show cap h138 r = cap g2 r from (m138.cp okg2 hr).2 (Ne.symm n30r)]; exact j4) (fun j hj => by rw [e138, sArr]; show (if j = n - 1 then _ else _) = (if j = n - 1 then -1 else vm j); rw [j5 j hj]))
                  exact ⟨Or.inr rfl, Or.inr rfl, Or.inr rfl, Or.inr rfl, Or.inr rfl, Or.inr rfl, trivial⟩
            refine w_less ?_ (L113 _ h110 vl de rfl M110 (Nat.le_refl _) rfl (by rw [e110_1, e97_1, e97_2, e84_1, e84_2, i4, addBs3, addBs3, addBs3]; rw [if_pos mf, re_l (by omega) hb] at i3; rw [← i3]; first | done | rfl | simp [List.append_assoc]) (by rw [e110_2, e97_2, e84_2]; exact i4) (fun j hj => by rw [m110.ai ok97 ⟨by omega, by omega⟩ n30r, m97.ai ok84 ⟨by omega, by omega⟩ n30r, m84.ai okg ⟨by omega, by omega⟩ n30r]; exact i5 j hj))
            exact ⟨Or.inr rfl, Or.inr rfl, Or.inr rfl, Or.inr rfl, Or.inr rfl, Or.inr rfl, trivial⟩
          · refine w_iload_n d164_52 rfl ?_
            refine w_iconst d164_53 (by decide) ?_
            refine w_icmpge d164_54 (fun c54 => ?_) (fun c54 => ?_)
            · have hb : ¬ (lwb rs vl < 0 ∧ de < 5) := fun z => by omega
              refine w_aload_n d164_81 rfl ?_
              refine w_bipush d164_82 (by decide) ?_
              refine w_callv2 d164_84 (by omega) rfl (okg.kd hr) (by simp) (Nat.le_of_ble_eq_true rfl) ?_
              refine r_Row_add okg hr (fun h84 m84 e84_1 e84_2 => ?_)
              have ok84 := m84.ok
              have M84 := Mo.tr ok Mg m84 (fun x e => (Or.inr (Or.inr e)))
              refine w_aload_n d164_87 rfl ?_
              refine w_iload d164_88 rfl ?_
              refine w_iconst d164_90 (by decide) ?_
              refine w_max d164_91 (by refine ⟨by simp, ?_⟩; omega) ?_
              refine w_bipush d164_94 (by decide) ?_
              refine w_idiv d164_96 (by decide) ?_
              rw [mx_div]
              refine w_callv2 d164_97 (by omega) rfl (ok84.kd hr) (by simp) (Nat.le_of_ble_eq_true rfl) ?_
              refine r_Row_addNumber (by omega) ok84 hr (by omega) (fun h97 m97 e97_1 e97_2 => ?_)
              have ok97 := m97.ok
              have M97 := Mo.tr ok M84 m97 (fun x e => (Or.inr (Or.inr e)))
              refine w_aload_n d164_100 rfl ?_
              refine w_iload d164_101 rfl ?_
              refine w_iconst d164_103 (by decide) ?_
              refine w_max d164_104 (by refine ⟨by simp, ?_⟩; omega) ?_
              refine w_bipush d164_107 (by decide) ?_
              refine w_irem d164_109 (by decide) ?_
              rw [mx_mod]
              refine w_callv2 d164_110 (by omega) rfl (ok97.kd hr) (by simp) (Nat.le_of_ble_eq_true rfl) ?_
              refine r_Row_addNumber (by omega) ok97 hr (by omega) (fun h110 m110 e110_1 e110_2 => ?_)
              have ok110 := m110.ok
              have M110 := Mo.tr ok M97 m110 (fun x e => (Or.inr (Or.inr e)))
              have L113 : ∀ (m113 : Nat) (g2 : Hp) (vm : Nat → Int) (n : Nat), n = m113 → Mo S (fun x => x = (sT S 1030 v) ∨ x = (sT S 1031 v) ∨ x = r) h g2 → (n ≤ de) → (bk 3 vl de = bk 3 vm n) → (addBs (cap h r) (rl g2 r) (reN rs (1365 - i - 1) vl de) = addBs (cap h r) (rl h r) (reT rs 1365 (fun _ => -1) 0)) → (cap g2 r = cap h r) → (∀ j, j < 5 → AI g2 (sT S 1030 v) j = vm j) → Wp G d 164 113 [some (vR (some v)), some (vR (some r)), some (vI (n : Nat)), some (vI (b2i mo)), some (vI (i : Nat)), some (vI (lwb rs vl))] [] g2 Q := by
                intro m113
                induction m113 using Nat.strongRecOn with | ind m113 IH113 => ?_
                intro g2 vm n hm113 Mg2 j1 j2 j3 j4 j5
                have okg2 := Mg2.ok
                refine w_iload_n d164_113 rfl ?_
                refine w_ifle d164_114 (fun c114 => ?_) (fun c114 => ?_)
                · have n0 : n = 0 := by omega
                  have gb := j2.trans (bk_end (Or.inl n0))
                  refine w_iload_n d164_142 rfl ?_
                  refine w_ifle d164_143 (fun c143 => ?_) (fun c143 => ?_)
                  · refine w_iconst d164_150 (by decide) ?_
                    refine w_istore3 d164_151 rfl ?_
                    refine w_iload_n d164_152 rfl ?_
                    refine w_ifeq d164_153 (fun c153 => ?_) (fun c153 => ?_)
                    · refine w_iinc4 d164_168 rfl (by constructor <;> omega) ?_
                      refine w_goto d164_171 ?_
                      refine w_less ?_ (IH29 _ (by omega) g2 (i + 1) vm n false rfl Mg2 (by omega) (by omega) (by rw [if_neg (by decide)]; rw [reN_0 gb n0] at j3; exact j3) j4 j5)
                      exact ⟨Or.inr rfl, Or.inr rfl, Or.inr rfl, Or.inr rfl, Or.inr rfl, Or.inl rfl, trivial⟩
                    · exact absurd rfl c153
                  · omega
                · refine w_aload_n d164_117 rfl ?_
                  refine w_dloadS d164_118 (okg2.kd hv) (fr1030 okg2 hv) ?_
                  refine w_iload_n d164_121 rfl ?_
                  refine w_iconst d164_122 (by decide) ?_
                  refine w_isub d164_123 (by constructor <;> omega) ?_
                  rw [show ((n : Nat) : Int) - 1 = ((n - 1 : Nat) : Int) by omega]
                  refine w_ialoadV (x := (vm (n - 1))) d164_124 (gi1030 okg2 hv (by omega)) (j5 (n - 1) (by omega)) ?_
                  refine w_iconst d164_125 (by decide) ?_
                  refine w_icmpne d164_126 (fun c126 => ?_) (fun c126 => ?_)
                  · have gb := j2.trans (bk_end (Or.inr c126))
                    have p3 : -1 ≤ vm (n - 1) ∧ vm (n - 1) ≤ 3 := by rw [← j5 (n - 1) (by omega)]; exact ra1030 okg2 hv (n - 1)
                    have nn : n ≠ 0 := by omega
                    refine w_iload_n d164_142 rfl ?_
                    refine w_ifle d164_143 (fun c143 => ?_) (fun c143 => ?_)
                    · omega
                    · refine w_iconst d164_146 (by decide) ?_
                      refine w_goto d164_147 ?_
                      refine w_istore3 d164_151 rfl ?_
                      refine w_iload_n d164_152 rfl ?_
                      refine w_ifeq d164_153 (fun c153 => ?_) (fun c153 => ?_)
                      · exact absurd c153 (by decide)
                      · refine w_aload_n d164_156 rfl ?_
                        refine w_dloadS d164_157 (okg2.kd hv) (fr1030 okg2 hv) ?_
                        refine w_iload_n d164_160 rfl ?_
                        refine w_iconst d164_161 (by decide) ?_
                        refine w_isub d164_162 (by constructor <;> omega) ?_
                        rw [show ((n : Nat) : Int) - 1 = ((n - 1 : Nat) : Int) by omega]
                        refine w_dup2 d164_163 ?_
                        refine w_ialoadV (x := (vm (n - 1))) d164_164 (gi1030 okg2 hv (by omega)) (j5 (n - 1) (by omega)) ?_
                        refine w_iconst d164_165 (by decide) ?_
                        refine w_iadd d164_166 (by constructor <;> omega) ?_
                        refine wa1030 d164_167 okg2 hv (by omega) (by omega) (fun h167 e167 m167 => ?_)
                        have ok167 := m167.ok
                        have M167 := Mo.tr ok Mg2 m167 (fun x e => (Or.inl e))
                        refine w_iinc4 d164_168 rfl (by constructor <;> omega) ?_
                        refine w_goto d164_171 ?_
                        refine w_less ?_ (IH29 _ (by omega) h167 (i + 1) (up vm (n - 1) (vm (n - 1) + 1)) n true rfl M167 (by omega) (by omega) (by rw [if_pos rfl, m167.rb okg2 hr (Ne.symm n30r)]; rw [reN_s gb nn] at j3; rw [← j3, show 1365 - (i + 1) = 1365 - i - 1 by omega]) (by rw [show cap h167 r = cap g2 r from (m167.cp okg2 hr).2 (Ne.symm n30r)]; exact j4) (fun j hj => by rw [e167, sArr]; show (if j = n - 1 then _ else _) = (if j = n - 1 then vm (n - 1) + 1 else vm j); rw [j5 j hj]))
                        exact ⟨Or.inr rfl, Or.inr rfl, Or.inr rfl, Or.inr rfl, Or.inr rfl, Or.inl rfl, trivial⟩
                  · refine w_iinc2 d164_129 rfl (by constructor <;> omega) ?_
                    rw [show ((n : Nat) : Int) + (-1) = ((n - 1 : Nat) : Int) by omega]
                    refine w_aload_n d164_132 rfl ?_
                    refine w_dloadS d164_133 (okg2.kd hv) (fr1030 okg2 hv) ?_
                    refine w_iload_n d164_136 rfl ?_
                    refine w_iconst d164_137 (by decide) ?_
                    refine wa1030 d164_138 okg2 hv (by omega) (by omega) (fun h138 e138 m138 => ?_)
                    have e138 : h138 = sAI g2 (sT S 1030 v) (n - 1) (-1) := e138
                    have ok138 := m138.ok
                    have M138 := Mo.tr ok Mg2 m138 (fun x e => (Or.inl e))
                    refine w_goto d164_139 ?_
                    refine w_less ?_ (IH113 _ (by omega) h138 (up vm (n - 1) (-1)) (n - 1) rfl M138 (by omega) (by rw [j2, bk_step (by omega) (by omega)]) (by rw [m138.rb okg2 hr (Ne.symm n30r)]; exact j3) (by rw [show cap h138 r = cap g2 r from (m138.cp okg2 hr).2 (Ne.symm n30r)]; exact j4) (fun j hj => by rw [e138, sArr]; show (if j = n - 1 then _ else _) = (if j = n - 1 then -1 else vm j); rw [j5 j hj]))
                    exact ⟨Or.inr rfl, Or.inr rfl, Or.inr rfl, Or.inr rfl, Or.inr rfl, Or.inr rfl, trivial⟩
              refine w_less ?_ (L113 _ h110 vl de rfl M110 (Nat.le_refl _) rfl (by rw [e110_1, e97_1, e97_2, e84_1, e84_2, i4, addBs3, addBs3, addBs3]; rw [if_pos mf, re_l (by omega) hb] at i3; rw [← i3]; first | done | rfl | simp [List.append_assoc]) (by rw [e110_2, e97_2, e84_2]; exact i4) (fun j hj => by rw [m110.ai ok97 ⟨by omega, by omega⟩ n30r, m97.ai ok84 ⟨by omega, by omega⟩ n30r, m84.ai okg ⟨by omega, by omega⟩ n30r]; exact i5 j hj))
              exact ⟨Or.inr rfl, Or.inr rfl, Or.inr rfl, Or.inr rfl, Or.inr rfl, Or.inr rfl, trivial⟩
            · have R : lwb rs vl < 0 ∧ de < 5 := ⟨by omega, by omega⟩
              refine w_aload_n d164_57 rfl ?_
              refine w_bipush d164_58 (by decide) ?_
              refine w_callv2 d164_60 (by omega) rfl (okg.kd hr) (by simp) (Nat.le_of_ble_eq_true rfl) ?_
              refine r_Row_add okg hr (fun h60 m60 e60_1 e60_2 => ?_)
              have ok60 := m60.ok
              have M60 := Mo.tr ok Mg m60 (fun x e => (Or.inr (Or.inr e)))
              refine w_aload_n d164_63 rfl ?_
              refine w_iload_n d164_64 rfl ?_
              refine w_callv2 d164_65 (by omega) rfl (ok60.kd hr) (by simp) (Nat.le_of_ble_eq_true rfl) ?_
              refine r_Row_addNumber (by omega) ok60 hr (by omega) (fun h65 m65 e65_1 e65_2 => ?_)
              have ok65 := m65.ok
              have M65 := Mo.tr ok M60 m65 (fun x e => (Or.inr (Or.inr e)))
              refine w_aload_n d164_68 rfl ?_
              refine w_dloadS d164_69 (ok65.kd hv) (fr1030 ok65 hv) ?_
              refine w_iload_n d164_72 rfl ?_
              refine w_iconst d164_73 (by decide) ?_
              refine wa1030 d164_74 ok65 hv (by omega) (by omega) (fun h74 e74 m74 => ?_)
              have e74 : h74 = sAI h65 (sT S 1030 v) de 0 := e74
              have ok74 := m74.ok
              have M74 := Mo.tr ok M65 m74 (fun x e => (Or.inl e))
              refine w_iinc2 d164_75 rfl (by constructor <;> omega) ?_
              refine w_goto d164_78 ?_
              refine w_iinc4 d164_168 rfl (by constructor <;> omega) ?_
              refine w_goto d164_171 ?_
              refine w_less ?_ (IH29 _ (by omega) h74 (i + 1) (up vl de 0) (de + 1) mo rfl M74 (by omega) (by omega) (by rw [if_pos mf, m74.rb ok65 hr (Ne.symm n30r), e65_1, e60_1, e60_2, i4, addBs3, addBs3]; rw [if_pos mf, re_q (by omega) R] at i3; rw [← i3, show 1365 - (i + 1) = 1365 - i - 1 by omega]; first | done | rfl | simp [List.append_assoc]) (by rw [show cap h74 r = cap h65 r from (m74.cp ok65 hr).2 (Ne.symm n30r), e65_2, e60_2]; exact i4) (fun j hj => by rw [e74, sArr]; show (if j = de then _ else _) = (if j = de then 0 else vl j); rw [m65.ai ok60 ⟨by omega, by omega⟩ n30r, m60.ai okg ⟨by omega, by omega⟩ n30r, i5 j hj]))
              exact ⟨Or.inr rfl, Or.inr rfl, Or.inr rfl, Or.inr rfl, Or.inr rfl, Or.inl rfl, trivial⟩
    refine w_less ?_ (L29 _ h19 0 (fun _ => -1) 0 true rfl M19 (by omega) (by omega) (by rw [m19.rb ok1 hr (Ne.symm n30r), rb1]; rfl) (by rw [show cap h19 r = cap h1 r from (m19.cp ok1 hr).2 (Ne.symm n30r), cp1]) e19_1)
    exact ⟨Or.inr rfl, Or.inr rfl, Or.inr rfl, Or.inr rfl, Or.inr rfl, Or.inl rfl, trivial⟩
  · have fl : (fsE rs).2.2.1 ≤ 5 := by
      by_cases z : (fsE rs).2.2.1 ≤ 5
      · exact z
      · exact absurd (by rw [decide_eq_false z]; rfl) c4
    refine w_aload_n d164_7 rfl ?_
    obtain ⟨g8, v8, s8⟩ := tg.tx ok1 24 (by decide)
    refine w_getstaticS d164_8 v8 ?_
    refine w_callv2 d164_10 (by omega) rfl (ok1.kd hr) (by simp) (Nat.le_of_ble_eq_true rfl) ?_
    refine r_Row_addText (by omega) ok1 hr s8 (fun h10 m10 e10_1 e10_2 => ?_)
    have ok10 := m10.ok
    have M10 := Mo.tr ok M1 m10 (fun x e => (Or.inr (Or.inr e)))
    refine w_return d164_13 ?_
    rw [if_pos fl] at kk
    exact kk h10 M10 (by rw [e10_1, rb1, cp1]) (by rw [e10_2, cp1])
