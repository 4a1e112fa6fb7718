/-! versions: on from a leaf -/
def up (w : Nat → Int) (j : Nat) (x : Int) : Nat → Int := fun i => if i = j then x else w i
theorem up_sAI {h : Hp} {b j : Nat} {x : Int} : AI (sAI h b j x) b = up (AI h b) j x := funext (fun i => sArr i)
/-- back over the levels whose trees are all told: the values and the level -/
def goB (lp lv lt : Nat → Int) (w : Nat → Int) : Nat → (Nat → Int) × Nat
  | 0 => (w, 0)
  | n + 1 => if lt n = 3 then goB lp lv lt (up w (lp n).toNat (lv n)) n else (w, n + 1)
theorem goB_le {lp lv lt : Nat → Int} : ∀ {n : Nat} {w : Nat → Int}, (goB lp lv lt w n).2 ≤ n
  | 0, w => Nat.le_refl _
  | n + 1, w => by
    unfold goB
    split
    · exact Nat.le_trans goB_le (Nat.le_succ n)
    · exact Nat.le_refl _
theorem goB_step {lp lv lt w : Nat → Int} {n : Nat} (h : 0 < n) (e : lt (n - 1) = 3) : goB lp lv lt w n = goB lp lv lt (up w (lp (n - 1)).toNat (lv (n - 1))) (n - 1) := by
  obtain ⟨m, rfl⟩ : ∃ m, n = m + 1 := ⟨n - 1, by omega⟩
  have e' : lt m = 3 := e
  rw [goB, if_pos e']
  rfl
theorem goB_end {lp lv lt w : Nat → Int} {n : Nat} (h : n = 0 ∨ lt (n - 1) ≠ 3) : goB lp lv lt w n = (w, n) := by
  rcases n with - | m
  · rfl
  · rw [goB, if_neg (by rcases h with h | h; cases h; exact h)]
/-- the values, the trees told of each level and the level behind a leaf -/
def goF (lp lv lt : Nat → Int) (w : Nat → Int) (n : Nat) : (Nat → Int) × (Nat → Int) × Nat := if (goB lp lv lt w n).2 = 0 then ((goB lp lv lt w n).1, lt, 0) else (up (goB lp lv lt w n).1 (lp ((goB lp lv lt w n).2 - 1)).toNat (lt ((goB lp lv lt w n).2 - 1) + 1), up lt ((goB lp lv lt w n).2 - 1) (lt ((goB lp lv lt w n).2 - 1) + 1), (goB lp lv lt w n).2)
theorem goF_0 {lp lv lt w w' : Nat → Int} {L n : Nat} (gb : goB lp lv lt w L = (w', n)) (h : n = 0) : goF lp lv lt w L = (w', lt, n) := by
  unfold goF
  rw [gb, if_pos h, h]
theorem goF_s {lp lv lt w w' : Nat → Int} {L n : Nat} (gb : goB lp lv lt w L = (w', n)) (h : 0 < n) : goF lp lv lt w L = (up w' (lp (n - 1)).toNat (lt (n - 1) + 1), up lt (n - 1) (lt (n - 1) + 1), n) := by
  unfold goF
  rw [gb, if_neg (Nat.ne_of_gt h)]
theorem d166_0 : dc 166 0 = some (.iload_n 1, 1) := by decide +kernel
theorem d166_1 : dc 166 1 = some (.istore_n 2, 2) := by decide +kernel
theorem d166_2 : dc 166 2 = some (.iload_n 2, 3) := by decide +kernel
theorem d166_3 : dc 166 3 = some (.ifCond .le ((41 : Nat) : Int), 6) := by decide +kernel
theorem d166_6 : dc 166 6 = some (.aload_n 0, 7) := by decide +kernel
theorem d166_7 : dc 166 7 = some (.dload 1034, 10) := by decide +kernel
theorem d166_10 : dc 166 10 = some (.iload_n 2, 11) := by decide +kernel
theorem d166_11 : dc 166 11 = some (.iconst 1, 12) := by decide +kernel
theorem d166_12 : dc 166 12 = some (.isub, 13) := by decide +kernel
theorem d166_13 : dc 166 13 = some (.iaload, 14) := by decide +kernel
theorem d166_14 : dc 166 14 = some (.iconst 3, 15) := by decide +kernel
theorem d166_15 : dc 166 15 = some (.if_icmp .ne ((41 : Nat) : Int), 18) := by decide +kernel
theorem d166_18 : dc 166 18 = some (.iinc 2 (-1), 21) := by decide +kernel
theorem d166_21 : dc 166 21 = some (.aload_n 0, 22) := by decide +kernel
theorem d166_22 : dc 166 22 = some (.dload 1030, 25) := by decide +kernel
theorem d166_25 : dc 166 25 = some (.aload_n 0, 26) := by decide +kernel
theorem d166_26 : dc 166 26 = some (.dload 1032, 29) := by decide +kernel
theorem d166_29 : dc 166 29 = some (.iload_n 2, 30) := by decide +kernel
theorem d166_30 : dc 166 30 = some (.iaload, 31) := by decide +kernel
theorem d166_31 : dc 166 31 = some (.aload_n 0, 32) := by decide +kernel
theorem d166_32 : dc 166 32 = some (.dload 1033, 35) := by decide +kernel
theorem d166_35 : dc 166 35 = some (.iload_n 2, 36) := by decide +kernel
theorem d166_36 : dc 166 36 = some (.iaload, 37) := by decide +kernel
theorem d166_37 : dc 166 37 = some (.iastore, 38) := by decide +kernel
theorem d166_38 : dc 166 38 = some (.goto ((2 : Nat) : Int), 41) := by decide +kernel
theorem d166_41 : dc 166 41 = some (.iload_n 2, 42) := by decide +kernel
theorem d166_42 : dc 166 42 = some (.ifCond .le ((78 : Nat) : Int), 45) := by decide +kernel
theorem d166_45 : dc 166 45 = some (.aload_n 0, 46) := by decide +kernel
theorem d166_46 : dc 166 46 = some (.dload 1034, 49) := by decide +kernel
theorem d166_49 : dc 166 49 = some (.iload_n 2, 50) := by decide +kernel
theorem d166_50 : dc 166 50 = some (.iconst 1, 51) := by decide +kernel
theorem d166_51 : dc 166 51 = some (.isub, 52) := by decide +kernel
theorem d166_52 : dc 166 52 = some (.dup2, 53) := by decide +kernel
theorem d166_53 : dc 166 53 = some (.iaload, 54) := by decide +kernel
theorem d166_54 : dc 166 54 = some (.iconst 1, 55) := by decide +kernel
theorem d166_55 : dc 166 55 = some (.iadd, 56) := by decide +kernel
theorem d166_56 : dc 166 56 = some (.iastore, 57) := by decide +kernel
theorem d166_57 : dc 166 57 = some (.aload_n 0, 58) := by decide +kernel
theorem d166_58 : dc 166 58 = some (.dload 1030, 61) := by decide +kernel
theorem d166_61 : dc 166 61 = some (.aload_n 0, 62) := by decide +kernel
theorem d166_62 : dc 166 62 = some (.dload 1032, 65) := by decide +kernel
theorem d166_65 : dc 166 65 = some (.iload_n 2, 66) := by decide +kernel
theorem d166_66 : dc 166 66 = some (.iconst 1, 67) := by decide +kernel
theorem d166_67 : dc 166 67 = some (.isub, 68) := by decide +kernel
theorem d166_68 : dc 166 68 = some (.iaload, 69) := by decide +kernel
theorem d166_69 : dc 166 69 = some (.aload_n 0, 70) := by decide +kernel
theorem d166_70 : dc 166 70 = some (.dload 1034, 73) := by decide +kernel
theorem d166_73 : dc 166 73 = some (.iload_n 2, 74) := by decide +kernel
theorem d166_74 : dc 166 74 = some (.iconst 1, 75) := by decide +kernel
theorem d166_75 : dc 166 75 = some (.isub, 76) := by decide +kernel
theorem d166_76 : dc 166 76 = some (.iaload, 77) := by decide +kernel
theorem d166_77 : dc 166 77 = some (.iastore, 78) := by decide +kernel
theorem d166_78 : dc 166 78 = some (.iload_n 2, 79) := by decide +kernel
theorem d166_79 : dc 166 79 = some (.ireturn, 80) := by decide +kernel
theorem k_Vr_goOn {S : Shp} {G : Nat → Option Nat} {d : Nat} {h : Hp} {Q : Option MV → Hp → Prop} {v : Nat} {L : Nat}  (ok : Ok S h) (h1 : 0 ≤ d) (hv : sK S v = 9) (hL : L ≤ 512)
    (kk : ∀ h', Mo S (fun x => x = sT S 1030 v ∨ x = sT S 1034 v) h h' → AI h' (sT S 1030 v) = (goF (AI h (sT S 1032 v)) (AI h (sT S 1033 v)) (AI h (sT S 1034 v)) (AI h (sT S 1030 v)) L).1 → AI h' (sT S 1034 v) = (goF (AI h (sT S 1032 v)) (AI h (sT S 1033 v)) (AI h (sT S 1034 v)) (AI h (sT S 1030 v)) L).2.1 → Q (some (vI (((goF (AI h (sT S 1032 v)) (AI h (sT S 1033 v)) (AI h (sT S 1034 v)) (AI h (sT S 1030 v)) L).2.2 : Nat) : Int))) h') : Cl G d 166 [vR (some v), vI (L : Nat)] h Q := by
  show Wp G d 166 0 [some (vR (some v)), some (vI (L : Nat)), none] [] h Q
  have k0 := kT1030 ok hv
  have k2 := kT1032 ok hv
  have k3 := kT1033 ok hv
  have k4 := kT1034 ok hv
  have n04 : sT S 1030 v ≠ sT S 1034 v := fun w => absurd ((ok.so.inj (by decide) (by decide)).mp w).1 (by decide)
  have n20 : sT S 1032 v ≠ sT S 1030 v := fun w => absurd ((ok.so.inj (by decide) (by decide)).mp w).1 (by decide)
  have n24 : sT S 1032 v ≠ sT S 1034 v := fun w => absurd ((ok.so.inj (by decide) (by decide)).mp w).1 (by decide)
  have n30 : sT S 1033 v ≠ sT S 1030 v := fun w => absurd ((ok.so.inj (by decide) (by decide)).mp w).1 (by decide)
  have n34 : sT S 1033 v ≠ sT S 1034 v := fun w => absurd ((ok.so.inj (by decide) (by decide)).mp w).1 (by decide)
  have n40 : sT S 1034 v ≠ sT S 1030 v := fun w => absurd ((ok.so.inj (by decide) (by decide)).mp w).1 (by decide)
  refine w_iload_n d166_0 rfl ?_
  refine w_istore2 d166_1 rfl ?_
  have L2 : ∀ (m2 : Nat) (g : Hp) (n : Nat), n = m2 → Mo S (fun x => x = (sT S 1030 v) ∨ x = (sT S 1034 v)) h g → (n ≤ L) → (goB (AI h (sT S 1032 v)) (AI h (sT S 1033 v)) (AI h (sT S 1034 v)) (AI h (sT S 1030 v)) L = goB (AI h (sT S 1032 v)) (AI h (sT S 1033 v)) (AI h (sT S 1034 v)) (AI g (sT S 1030 v)) n) → (AI g (sT S 1034 v) = AI h (sT S 1034 v)) → Wp G d 166 2 [some (vR (some v)), some (vI (L : Nat)), some (vI (n : Nat))] [] g Q := by
    intro m2
    induction m2 using Nat.strongRecOn with | ind m2 IH2 => ?_
    intro g n hm2 Mg i1 i2 i3
    have okg := Mg.ok
    have e2 : AI g (sT S 1032 v) = AI h (sT S 1032 v) := (Mg.ai ok (by omega) (by simp [n20, n24]))
    have e3 : AI g (sT S 1033 v) = AI h (sT S 1033 v) := (Mg.ai ok (by omega) (by simp [n30, n34]))
    refine w_iload_n d166_2 rfl ?_
    refine w_ifle d166_3 (fun c3 => ?_) (fun c3 => ?_)
    · have n0 : n = 0 := by omega
      have gb := i2.trans (goB_end (Or.inl n0))
      refine w_iload_n d166_41 rfl ?_
      refine w_ifle d166_42 (fun c42 => ?_) (fun c42 => ?_)
      · refine w_iload_n d166_78 rfl ?_
        refine w_ireturn d166_79 ?_
        rw [goF_0 gb n0] at kk
        exact kk g Mg rfl i3
      · omega
    · refine w_aload_n d166_6 rfl ?_
      refine w_dloadS d166_7 (okg.kd hv) (fr1034 okg hv) ?_
      refine w_iload_n d166_10 rfl ?_
      refine w_iconst d166_11 (by decide) ?_
      refine w_isub d166_12 (by constructor <;> omega) ?_
      rw [show ((n : Nat) : Int) - 1 = ((n - 1 : Nat) : Int) by omega]
      refine w_ialoadV (x := (AI h (sT S 1034 v) (n - 1))) d166_13 (gi1034 okg hv (by omega)) (congrFun i3 (n - 1)) ?_
      refine w_iconst d166_14 (by decide) ?_
      refine w_icmpne d166_15 (fun c15 => ?_) (fun c15 => ?_)
      · have gb := i2.trans (goB_end (Or.inr c15))
        refine w_iload_n d166_41 rfl ?_
        refine w_ifle d166_42 (fun c42 => ?_) (fun c42 => ?_)
        · omega
        · refine w_aload_n d166_45 rfl ?_
          refine w_dloadS d166_46 (okg.kd hv) (fr1034 okg hv) ?_
          refine w_iload_n d166_49 rfl ?_
          refine w_iconst d166_50 (by decide) ?_
          refine w_isub d166_51 (by constructor <;> omega) ?_
          rw [show ((n : Nat) : Int) - 1 = ((n - 1 : Nat) : Int) by omega]
          have r53 := ra1034 ok hv (n - 1)
          refine w_dup2 d166_52 ?_
          refine w_ialoadV (x := (AI h (sT S 1034 v) (n - 1))) d166_53 (gi1034 okg hv (by omega)) (congrFun i3 (n - 1)) ?_
          refine w_iconst d166_54 (by decide) ?_
          refine w_iadd d166_55 (by constructor <;> omega) ?_
          refine wa1034 d166_56 okg hv (by omega) (by omega) (fun h56 e56 m56 => ?_)
          have ok56 := m56.ok
          have M56 := Mo.tr ok Mg m56 (fun x e => (Or.inr e))
          refine w_aload_n d166_57 rfl ?_
          refine w_dloadS d166_58 (ok56.kd hv) (fr1030 ok56 hv) ?_
          refine w_aload_n d166_61 rfl ?_
          refine w_dloadS d166_62 (ok56.kd hv) (fr1032 ok56 hv) ?_
          refine w_iload_n d166_65 rfl ?_
          refine w_iconst d166_66 (by decide) ?_
          refine w_isub d166_67 (by constructor <;> omega) ?_
          rw [show ((n : Nat) : Int) - 1 = ((n - 1 : Nat) : Int) by omega]
          refine w_ialoadV (x := (AI h (sT S 1032 v) (n - 1))) d166_68 (gi1032 ok56 hv (by omega)) (congrFun ((m56.ai okg (by omega) n24).trans e2) (n - 1)) ?_
          have r30 := ra1032 ok hv (n - 1)
          refine w_aload_n d166_69 rfl ?_
          refine w_dloadS d166_70 (ok56.kd hv) (fr1034 ok56 hv) ?_
          refine w_iload_n d166_73 rfl ?_
          refine w_iconst d166_74 (by decide) ?_
          refine w_isub d166_75 (by constructor <;> omega) ?_
          rw [show ((n : Nat) : Int) - 1 = ((n - 1 : Nat) : Int) by omega]
          refine w_ialoadV (x := (AI h (sT S 1034 v) (n - 1)) + 1) d166_76 (gi1034 ok56 hv (by omega)) (by rw [e56, sArr, if_pos (by omega)]) ?_
          refine wa1030 d166_77 ok56 hv (by omega) (by omega) (fun h77 e77 m77 => ?_)
          have ok77 := m77.ok
          have M77 := Mo.tr ok M56 m77 (fun x e => (Or.inl e))
          refine w_iload_n d166_78 rfl ?_
          refine w_ireturn d166_79 ?_
          rw [goF_s gb (by omega)] at kk
          exact kk h77 M77 (by rw [e77, up_sAI, m56.ai okg (by omega) n04]; first | done | rfl) (by rw [m77.ai ok56 (by omega) n40, e56, up_sAI, i3]; first | done | rfl)
      · refine w_iinc2 d166_18 rfl (by constructor <;> omega) ?_
        rw [show ((n : Nat) : Int) + (-1) = ((n - 1 : Nat) : Int) by omega]
        refine w_aload_n d166_21 rfl ?_
        refine w_dloadS d166_22 (okg.kd hv) (fr1030 okg hv) ?_
        refine w_aload_n d166_25 rfl ?_
        refine w_dloadS d166_26 (okg.kd hv) (fr1032 okg hv) ?_
        refine w_iload_n d166_29 rfl ?_
        refine w_ialoadV (x := (AI h (sT S 1032 v) (n - 1))) d166_30 (gi1032 okg hv (by omega)) (congrFun e2 (n - 1)) ?_
        have r30 := ra1032 ok hv (n - 1)
        refine w_aload_n d166_31 rfl ?_
        refine w_dloadS d166_32 (okg.kd hv) (fr1033 okg hv) ?_
        refine w_iload_n d166_35 rfl ?_
        refine w_ialoadV (x := (AI h (sT S 1033 v) (n - 1))) d166_36 (gi1033 okg hv (by omega)) (congrFun e3 (n - 1)) ?_
        have r36 := ra1033 ok hv (n - 1)
        refine wa1030 d166_37 okg hv (by omega) (by omega) (fun h37 e37 m37 => ?_)
        have ok37 := m37.ok
        have M37 := Mo.tr ok Mg m37 (fun x e => (Or.inl e))
        refine w_goto d166_38 ?_
        refine w_less ?_ (IH2 _ (by omega) h37 (n - 1) rfl M37 (by omega) (by rw [i2, goB_step (by omega) (by omega), e37, up_sAI]) (by rw [m37.ai okg (by omega) n40]; exact i3))
        exact ⟨Or.inr rfl, Or.inr rfl, Or.inr rfl, trivial⟩
  have M0_ := Mo.refl (A := (fun x => x = (sT S 1030 v) ∨ x = (sT S 1034 v))) ok
  refine w_less ?_ (L2 _ h L rfl M0_ (Nat.le_refl _) rfl rfl)
  exact ⟨Or.inr rfl, Or.inr rfl, Or.inr rfl, trivial⟩
