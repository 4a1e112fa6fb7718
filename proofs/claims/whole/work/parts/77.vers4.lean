/-! versions: a rule added -/
def nuR (nu : Nat → Int) (f : Nat) : RuV := (if 0 < f then nu 0 else -1, if 0 < f then (nu 1).toNat else 0, (nu f).toNat, (nu (f + 1)).toNat, (nu (f + 2)).toNat)
theorem ru_snoc (rs : List RuV) (v : RuV) (k : Nat) : (rs ++ [v]).getD k (-1, 0, 0, 0, 0) = if k = rs.length then v else rs.getD k (-1, 0, 0, 0, 0) := getD_snoc rs v _ k
theorem add_vc {S : Shp} {h g : Hp} {v f : Nat} {nu : Nat → Int} {rs : List RuV} (q2 : rs.length ≤ 20) (hlt : rs.length < 20)
    (q3 : ∀ k, k < rs.length → AI h (sT S 1025 v) k = rOf rs k ∧ AI h (sT S 1026 v) k = (rWh rs k : Nat) ∧ AI h (sT S 1027 v) k = (rPa rs k : Nat) ∧ AI h (sT S 1028 v) k = (rLo rs k : Nat) ∧ AI h (sT S 1029 v) k = (rHi rs k : Nat) ∧ (-1 ≤ rOf rs k ∧ rOf rs k ≤ 4) ∧ rWh rs k ≤ 3 ∧ rPa rs k ≤ 4 ∧ rLo rs k ≤ 3 ∧ rHi rs k ≤ 3)
    (hnu : (0 < f → 0 ≤ nu 0 ∧ nu 0 ≤ 4 ∧ 1 ≤ nu 1 ∧ nu 1 ≤ 3) ∧ 0 ≤ nu f ∧ nu f ≤ 4 ∧ 1 ≤ nu (f + 1) ∧ nu (f + 1) ≤ 3 ∧ 1 ≤ nu (f + 2) ∧ nu (f + 2) ≤ 3) (hl : FI g 1024 v = (rs.length : Nat) + 1)
    (hc : ∀ k, (AI g (sT S 1025 v) k = if k = rs.length then (if 0 < f then nu 0 else -1) else AI h (sT S 1025 v) k) ∧ (AI g (sT S 1026 v) k = if k = rs.length then (if 0 < f then nu 1 else 0) else AI h (sT S 1026 v) k) ∧ (AI g (sT S 1027 v) k = if k = rs.length then nu f else AI h (sT S 1027 v) k) ∧ (AI g (sT S 1028 v) k = if k = rs.length then nu (f + 1) else AI h (sT S 1028 v) k) ∧ (AI g (sT S 1029 v) k = if k = rs.length then nu (f + 2) else AI h (sT S 1029 v) k)) : VrC S g v (rs ++ [nuR nu f]) := by
  obtain ⟨n1, n2, n3, n4, n5, n6, n7⟩ := hnu
  have eL : (rs ++ [nuR nu f]).length = rs.length + 1 := by simp
  refine ⟨by rw [eL, hl]; rfl, by omega, fun k hk => ?_⟩
  rw [eL] at hk
  obtain ⟨a1, a2, a3, a4, a5⟩ := hc k
  rw [a1, a2, a3, a4, a5]
  unfold rOf rWh rPa rLo rHi
  rw [ru_snoc]
  by_cases e : k = rs.length
  · rw [if_pos e, if_pos e, if_pos e, if_pos e, if_pos e, if_pos e]
    unfold nuR
    by_cases f0 : 0 < f
    · obtain ⟨m1, m2, m3, m4⟩ := n1 f0
      simp only [if_pos f0]
      clear hc a1 a2 a3 a4 a5
      refine ⟨?_, ?_, ?_, ?_, ?_, ?_, ?_, ?_, ?_, ?_⟩ <;> first | trivial | omega
    · simp only [if_neg f0]
      clear hc a1 a2 a3 a4 a5
      refine ⟨?_, ?_, ?_, ?_, ?_, ?_, ?_, ?_, ?_, ?_⟩ <;> first | trivial | omega
  · rw [if_neg e, if_neg e, if_neg e, if_neg e, if_neg e, if_neg e]
    exact q3 k (by omega)
theorem d143_0 : dc 143 0 = some (.aload_n 0, 1) := by decide +kernel
theorem d143_1 : dc 143 1 = some (.getfield 1024, 4) := by decide +kernel
theorem d143_4 : dc 143 4 = some (.bipush 20, 6) := by decide +kernel
theorem d143_6 : dc 143 6 = some (.if_icmp .lt ((10 : Nat) : Int), 9) := by decide +kernel
theorem d143_10 : dc 143 10 = some (.iload_n 2, 11) := by decide +kernel
theorem d143_11 : dc 143 11 = some (.ifCond .le ((18 : Nat) : Int), 14) := by decide +kernel
theorem d143_14 : dc 143 14 = some (.iconst 1, 15) := by decide +kernel
theorem d143_15 : dc 143 15 = some (.goto ((19 : Nat) : Int), 18) := by decide +kernel
theorem d143_18 : dc 143 18 = some (.iconst 0, 19) := by decide +kernel
theorem d143_19 : dc 143 19 = some (.istore 4, 21) := by decide +kernel
theorem d143_21 : dc 143 21 = some (.aload_n 0, 22) := by decide +kernel
theorem d143_22 : dc 143 22 = some (.dload 1025, 25) := by decide +kernel
theorem d143_25 : dc 143 25 = some (.aload_n 0, 26) := by decide +kernel
theorem d143_26 : dc 143 26 = some (.getfield 1024, 29) := by decide +kernel
theorem d143_29 : dc 143 29 = some (.iload 4, 31) := by decide +kernel
theorem d143_31 : dc 143 31 = some (.ifCond .eq ((40 : Nat) : Int), 34) := by decide +kernel
theorem d143_34 : dc 143 34 = some (.aload_n 1, 35) := by decide +kernel
theorem d143_35 : dc 143 35 = some (.iconst 0, 36) := by decide +kernel
theorem d143_36 : dc 143 36 = some (.iaload, 37) := by decide +kernel
theorem d143_37 : dc 143 37 = some (.goto ((41 : Nat) : Int), 40) := by decide +kernel
theorem d143_40 : dc 143 40 = some (.iconst (-1), 41) := by decide +kernel
theorem d143_41 : dc 143 41 = some (.iastore, 42) := by decide +kernel
theorem d143_42 : dc 143 42 = some (.aload_n 0, 43) := by decide +kernel
theorem d143_43 : dc 143 43 = some (.dload 1026, 46) := by decide +kernel
theorem d143_46 : dc 143 46 = some (.aload_n 0, 47) := by decide +kernel
theorem d143_47 : dc 143 47 = some (.getfield 1024, 50) := by decide +kernel
theorem d143_50 : dc 143 50 = some (.iload 4, 52) := by decide +kernel
theorem d143_52 : dc 143 52 = some (.ifCond .eq ((61 : Nat) : Int), 55) := by decide +kernel
theorem d143_55 : dc 143 55 = some (.aload_n 1, 56) := by decide +kernel
theorem d143_56 : dc 143 56 = some (.iconst 1, 57) := by decide +kernel
theorem d143_57 : dc 143 57 = some (.iaload, 58) := by decide +kernel
theorem d143_58 : dc 143 58 = some (.goto ((62 : Nat) : Int), 61) := by decide +kernel
theorem d143_61 : dc 143 61 = some (.iconst 0, 62) := by decide +kernel
theorem d143_62 : dc 143 62 = some (.iastore, 63) := by decide +kernel
theorem d143_63 : dc 143 63 = some (.aload_n 0, 64) := by decide +kernel
theorem d143_64 : dc 143 64 = some (.dload 1027, 67) := by decide +kernel
theorem d143_67 : dc 143 67 = some (.aload_n 0, 68) := by decide +kernel
theorem d143_68 : dc 143 68 = some (.getfield 1024, 71) := by decide +kernel
theorem d143_71 : dc 143 71 = some (.aload_n 1, 72) := by decide +kernel
theorem d143_72 : dc 143 72 = some (.iload_n 2, 73) := by decide +kernel
theorem d143_73 : dc 143 73 = some (.iaload, 74) := by decide +kernel
theorem d143_74 : dc 143 74 = some (.iastore, 75) := by decide +kernel
theorem d143_75 : dc 143 75 = some (.aload_n 0, 76) := by decide +kernel
theorem d143_76 : dc 143 76 = some (.dload 1028, 79) := by decide +kernel
theorem d143_79 : dc 143 79 = some (.aload_n 0, 80) := by decide +kernel
theorem d143_80 : dc 143 80 = some (.getfield 1024, 83) := by decide +kernel
theorem d143_83 : dc 143 83 = some (.aload_n 1, 84) := by decide +kernel
theorem d143_84 : dc 143 84 = some (.iload_n 2, 85) := by decide +kernel
theorem d143_85 : dc 143 85 = some (.iconst 1, 86) := by decide +kernel
theorem d143_86 : dc 143 86 = some (.iadd, 87) := by decide +kernel
theorem d143_87 : dc 143 87 = some (.iaload, 88) := by decide +kernel
theorem d143_88 : dc 143 88 = some (.iastore, 89) := by decide +kernel
theorem d143_89 : dc 143 89 = some (.aload_n 0, 90) := by decide +kernel
theorem d143_90 : dc 143 90 = some (.dload 1029, 93) := by decide +kernel
theorem d143_93 : dc 143 93 = some (.aload_n 0, 94) := by decide +kernel
theorem d143_94 : dc 143 94 = some (.getfield 1024, 97) := by decide +kernel
theorem d143_97 : dc 143 97 = some (.aload_n 1, 98) := by decide +kernel
theorem d143_98 : dc 143 98 = some (.iload_n 2, 99) := by decide +kernel
theorem d143_99 : dc 143 99 = some (.iconst 2, 100) := by decide +kernel
theorem d143_100 : dc 143 100 = some (.iadd, 101) := by decide +kernel
theorem d143_101 : dc 143 101 = some (.iaload, 102) := by decide +kernel
theorem d143_102 : dc 143 102 = some (.iastore, 103) := by decide +kernel
theorem d143_103 : dc 143 103 = some (.aload_n 3, 104) := by decide +kernel
theorem d143_104 : dc 143 104 = some (.getstatic 70, 106) := by decide +kernel
theorem d143_106 : dc 143 106 = some (.invokevirtual 84, 109) := by decide +kernel
theorem d143_109 : dc 143 109 = some (.aload_n 3, 110) := by decide +kernel
theorem d143_110 : dc 143 110 = some (.aload_n 0, 111) := by decide +kernel
theorem d143_111 : dc 143 111 = some (.getfield 1024, 114) := by decide +kernel
theorem d143_114 : dc 143 114 = some (.invokevirtual 124, 117) := by decide +kernel
theorem d143_117 : dc 143 117 = some (.aload_n 0, 118) := by decide +kernel
theorem d143_118 : dc 143 118 = some (.dup, 119) := by decide +kernel
theorem d143_119 : dc 143 119 = some (.getfield 1024, 122) := by decide +kernel
theorem d143_122 : dc 143 122 = some (.iconst 1, 123) := by decide +kernel
theorem d143_123 : dc 143 123 = some (.iadd, 124) := by decide +kernel
theorem d143_124 : dc 143 124 = some (.putfield 1024, 127) := by decide +kernel
theorem d143_127 : dc 143 127 = some (.return_, 128) := by decide +kernel
theorem k_Vr_add {S : Shp} {G : Nat → Option Nat} {d : Nat} {h : Hp} {Q : Option MV → Hp → Prop} {v : Nat} {f : Nat} {r : Nat} {q : Nat} (ok : Ok S h) (h1 : 5 ≤ d) (hv : sK S v = 9) (hr : sK S r = 6) (tg : Tg S G) (hq : sK S q = 5) {rs : List RuV} (vc : VrC S h v rs) (hf : f ≤ 2) (hfs : rfs (AI h (sT S 520 q)) f rs.length = 19) (hvr : ¬ U S v r)
    (kk : ∀ h', Mo S (fun x => x = v ∨ x = sT S 1025 v ∨ x = sT S 1026 v ∨ x = sT S 1027 v ∨ x = sT S 1028 v ∨ x = sT S 1029 v ∨ x = r) h h' → VrC S h' v (rs ++ [nuR (AI h (sT S 520 q)) f]) → rl h' r = addBs (cap h r) (rl h r) (txt 20 ++ dec rs.length) → cap h' r = cap h r → Q none h') : Cl G d 143 [vR (some v), vR (some (sT S 520 q)), vI (f : Nat), vR (some r)] h Q := by
  show Wp G d 143 0 [some (vR (some v)), some (vR (some (sT S 520 q))), some (vI (f : Nat)), some (vR (some r)), none] [] h Q
  obtain ⟨q1, q2, q3⟩ := vc
  have hlt : rs.length < 20 := by unfold rfs at hfs; split at hfs <;> (try omega) <;> split at hfs <;> (try omega) <;> split at hfs <;> omega
  have r0 := ra520 ok hq 0
  have r1 := ra520 ok hq 1
  have r2 := ra520 ok hq f
  have r3 := ra520 ok hq (f + 1)
  have r4 := ra520 ok hq (f + 2)
  have hnu : (0 < f → 0 ≤ AI h (sT S 520 q) 0 ∧ AI h (sT S 520 q) 0 ≤ 4 ∧ 1 ≤ AI h (sT S 520 q) 1 ∧ AI h (sT S 520 q) 1 ≤ 3) ∧ 0 ≤ AI h (sT S 520 q) f ∧ AI h (sT S 520 q) f ≤ 4 ∧ 1 ≤ AI h (sT S 520 q) (f + 1) ∧ AI h (sT S 520 q) (f + 1) ≤ 3 ∧ 1 ≤ AI h (sT S 520 q) (f + 2) ∧ AI h (sT S 520 q) (f + 2) ≤ 3 := by unfold rfs at hfs; split at hfs <;> (try omega) <;> split at hfs <;> (try omega)
  have nvr : v ≠ r := fun z => hvr (z ▸ U_refl)
  have nTr : ∀ f, f < 4096 → sT S f v ≠ r := fun f hf z => hvr (z ▸ ok.so.uT hf U_refl)
  have k5 := kT1025 ok hv
  have k6 := kT1026 ok hv
  have k7 := kT1027 ok hv
  have k8 := kT1028 ok hv
  have k9 := kT1029 ok hv
  have kq := kT520 ok hq
  have nqf : ∀ f, 1025 ≤ f → f ≤ 1029 → sT S 520 q ≠ sT S f v := fun f h1 h2 z => absurd ((ok.so.inj (by decide) (by omega)).mp z).1 (by omega)
  have nqv : sT S 520 q ≠ v := fun z => by rw [z] at kq; omega
  have nqr : sT S 520 q ≠ r := fun z => by rw [z] at kq; omega
  have nq : ¬ (sT S 520 q = v ∨ sT S 520 q = sT S 1025 v ∨ sT S 520 q = sT S 1026 v ∨ sT S 520 q = sT S 1027 v ∨ sT S 520 q = sT S 1028 v ∨ sT S 520 q = sT S 1029 v ∨ sT S 520 q = r) := by simp [nqv, nqr, nqf 1025 (by decide) (by decide), nqf 1026 (by decide) (by decide), nqf 1027 (by decide) (by decide), nqf 1028 (by decide) (by decide), nqf 1029 (by decide) (by decide)]
  have nrA : ¬ (r = v ∨ r = sT S 1025 v ∨ r = sT S 1026 v ∨ r = sT S 1027 v ∨ r = sT S 1028 v ∨ r = sT S 1029 v) := by simp [nvr.symm, (nTr 1025 (by decide)).symm, (nTr 1026 (by decide)).symm, (nTr 1027 (by decide)).symm, (nTr 1028 (by decide)).symm, (nTr 1029 (by decide)).symm]
  have z : ∀ f, 1025 ≤ f → f ≤ 1029 → ∀ g, 1025 ≤ g → g ≤ 1029 → f ≠ g → (sT S f v = sT S g v) = False := fun f _ _ g _ _ hfg => eq_false (fun w => hfg ((ok.so.inj (by omega) (by omega)).mp w).1)
  have z56 := z 1025 (by decide) (by decide) 1026 (by decide) (by decide) (by decide)
  have z57 := z 1025 (by decide) (by decide) 1027 (by decide) (by decide) (by decide)
  have z58 := z 1025 (by decide) (by decide) 1028 (by decide) (by decide) (by decide)
  have z59 := z 1025 (by decide) (by decide) 1029 (by decide) (by decide) (by decide)
  have z65 := z 1026 (by decide) (by decide) 1025 (by decide) (by decide) (by decide)
  have z67 := z 1026 (by decide) (by decide) 1027 (by decide) (by decide) (by decide)
  have z68 := z 1026 (by decide) (by decide) 1028 (by decide) (by decide) (by decide)
  have z69 := z 1026 (by decide) (by decide) 1029 (by decide) (by decide) (by decide)
  have z75 := z 1027 (by decide) (by decide) 1025 (by decide) (by decide) (by decide)
  have z76 := z 1027 (by decide) (by decide) 1026 (by decide) (by decide) (by decide)
  have z78 := z 1027 (by decide) (by decide) 1028 (by decide) (by decide) (by decide)
  have z79 := z 1027 (by decide) (by decide) 1029 (by decide) (by decide) (by decide)
  have z85 := z 1028 (by decide) (by decide) 1025 (by decide) (by decide) (by decide)
  have z86 := z 1028 (by decide) (by decide) 1026 (by decide) (by decide) (by decide)
  have z87 := z 1028 (by decide) (by decide) 1027 (by decide) (by decide) (by decide)
  have z89 := z 1028 (by decide) (by decide) 1029 (by decide) (by decide) (by decide)
  have z95 := z 1029 (by decide) (by decide) 1025 (by decide) (by decide) (by decide)
  have z96 := z 1029 (by decide) (by decide) 1026 (by decide) (by decide) (by decide)
  have z97 := z 1029 (by decide) (by decide) 1027 (by decide) (by decide) (by decide)
  have z98 := z 1029 (by decide) (by decide) 1028 (by decide) (by decide) (by decide)
  refine w_aload_n d143_0 rfl ?_
  refine w_getI (x := ((rs.length : Nat) : Int)) d143_1 (ok.kd hv) q1 ?_
  refine w_bipush d143_4 (by decide) ?_
  refine w_icmplt d143_6 (fun c6 => ?_) (fun c6 => ?_)
  · refine w_iload_n d143_10 rfl ?_
    refine w_ifle d143_11 (fun c11 => ?_) (fun c11 => ?_)
    · have f0 : ¬ 0 < f := by omega
      refine w_iconst d143_18 (by decide) ?_
      refine w_istore4 d143_19 rfl ?_
      refine w_aload_n d143_21 rfl ?_
      refine w_dloadS d143_22 (ok.kd hv) (fr1025 ok hv) ?_
      refine w_aload_n d143_25 rfl ?_
      refine w_getI (x := ((rs.length : Nat) : Int)) d143_26 (ok.kd hv) q1 ?_
      refine w_iload d143_29 rfl ?_
      refine w_ifeq d143_31 (fun c31 => ?_) (fun c31 => ?_)
      · refine w_iconst d143_40 (by decide) ?_
        refine wa1025 d143_41 ok hv (by omega) (by omega) (fun h41 e41 m41 => ?_)
        have e41 : h41 = sAI h (sT S 1025 v) rs.length (-1) := e41
        have ok41 := m41.ok
        have M41 := Mo.tr ok (Mo.refl (A := (fun x => x = v ∨ x = (sT S 1025 v) ∨ x = (sT S 1026 v) ∨ x = (sT S 1027 v) ∨ x = (sT S 1028 v) ∨ x = (sT S 1029 v) ∨ x = r)) ok) m41 (fun x e => (Or.inr (Or.inl e)))
        refine w_aload_n d143_42 rfl ?_
        refine w_dloadS d143_43 (ok41.kd hv) (fr1026 ok41 hv) ?_
        refine w_aload_n d143_46 rfl ?_
        refine w_getI (x := ((rs.length : Nat) : Int)) d143_47 (ok41.kd hv) (by rw [e41]; exact q1) ?_
        refine w_iload d143_50 rfl ?_
        refine w_ifeq d143_52 (fun c52 => ?_) (fun c52 => ?_)
        · refine w_iconst d143_61 (by decide) ?_
          refine wa1026 d143_62 ok41 hv (by omega) (by omega) (fun h62 e62 m62 => ?_)
          have e62 : h62 = sAI h41 (sT S 1026 v) rs.length 0 := e62
          have ok62 := m62.ok
          have M62 := Mo.tr ok M41 m62 (fun x e => (Or.inr (Or.inr (Or.inl e))))
          refine w_aload_n d143_63 rfl ?_
          refine w_dloadS d143_64 (ok62.kd hv) (fr1027 ok62 hv) ?_
          refine w_aload_n d143_67 rfl ?_
          refine w_getI (x := ((rs.length : Nat) : Int)) d143_68 (ok62.kd hv) (by rw [e62, e41]; exact q1) ?_
          refine w_aload_n d143_71 rfl ?_
          refine w_iload_n d143_72 rfl ?_
          refine w_ialoadV (x := (AI h (sT S 520 q) (f))) d143_73 (gi520 ok62 hq (by omega)) (congrFun (M62.ai ok (by have := kT520 ok hq; omega) nq) (f)) ?_
          refine wa1027 d143_74 ok62 hv (by omega) (by omega) (fun h74 e74 m74 => ?_)
          have e74 : h74 = sAI h62 (sT S 1027 v) rs.length (AI h (sT S 520 q) (f)) := e74
          have ok74 := m74.ok
          have M74 := Mo.tr ok M62 m74 (fun x e => (Or.inr (Or.inr (Or.inr (Or.inl e)))))
          refine w_aload_n d143_75 rfl ?_
          refine w_dloadS d143_76 (ok74.kd hv) (fr1028 ok74 hv) ?_
          refine w_aload_n d143_79 rfl ?_
          refine w_getI (x := ((rs.length : Nat) : Int)) d143_80 (ok74.kd hv) (by rw [e74, e62, e41]; exact q1) ?_
          refine w_aload_n d143_83 rfl ?_
          refine w_iload_n d143_84 rfl ?_
          refine w_iconst d143_85 (by decide) ?_
          refine w_iadd d143_86 (by constructor <;> omega) ?_
          refine w_ialoadV (x := (AI h (sT S 520 q) (f + 1))) d143_87 (gi520 ok74 hq (by omega)) (congrFun (M74.ai ok (by have := kT520 ok hq; omega) nq) (f + 1)) ?_
          refine wa1028 d143_88 ok74 hv (by omega) (by omega) (fun h88 e88 m88 => ?_)
          have e88 : h88 = sAI h74 (sT S 1028 v) rs.length (AI h (sT S 520 q) (f + 1)) := e88
          have ok88 := m88.ok
          have M88 := Mo.tr ok M74 m88 (fun x e => (Or.inr (Or.inr (Or.inr (Or.inr (Or.inl e))))))
          refine w_aload_n d143_89 rfl ?_
          refine w_dloadS d143_90 (ok88.kd hv) (fr1029 ok88 hv) ?_
          refine w_aload_n d143_93 rfl ?_
          refine w_getI (x := ((rs.length : Nat) : Int)) d143_94 (ok88.kd hv) (by rw [e88, e74, e62, e41]; exact q1) ?_
          refine w_aload_n d143_97 rfl ?_
          refine w_iload_n d143_98 rfl ?_
          refine w_iconst d143_99 (by decide) ?_
          refine w_iadd d143_100 (by constructor <;> omega) ?_
          refine w_ialoadV (x := (AI h (sT S 520 q) (f + 2))) d143_101 (gi520 ok88 hq (by omega)) (congrFun (M88.ai ok (by have := kT520 ok hq; omega) nq) (f + 2)) ?_
          refine wa1029 d143_102 ok88 hv (by omega) (by omega) (fun h102 e102 m102 => ?_)
          have e102 : h102 = sAI h88 (sT S 1029 v) rs.length (AI h (sT S 520 q) (f + 2)) := e102
          have ok102 := m102.ok
          have M102 := Mo.tr ok M88 m102 (fun x e => (Or.inr (Or.inr (Or.inr (Or.inr (Or.inr (Or.inl e)))))))
          refine w_aload_n d143_103 rfl ?_
          obtain ⟨g104, v104, s104⟩ := tg.tx ok102 20 (by decide)
          refine w_getstaticS d143_104 v104 ?_
          refine w_callv2 d143_106 (by omega) rfl (ok102.kd hr) (by simp) (Nat.le_of_ble_eq_true rfl) ?_
          refine r_Row_addText (by omega) ok102 hr s104 (fun h106 m106 e106_1 e106_2 => ?_)
          have ok106 := m106.ok
          have M106 := Mo.tr ok M102 m106 (fun x e => (Or.inr (Or.inr (Or.inr (Or.inr (Or.inr (Or.inr e)))))))
          refine w_aload_n d143_109 rfl ?_
          refine w_aload_n d143_110 rfl ?_
          refine w_getI (x := ((rs.length : Nat) : Int)) d143_111 (ok106.kd hv) (by rw [m106.fi ok102 (by omega) nvr 1024, e102, e88, e74, e62, e41]; exact q1) ?_
          refine w_callv2 d143_114 (by omega) rfl (ok106.kd hr) (by simp) (Nat.le_of_ble_eq_true rfl) ?_
          refine r_Row_addNumber (by omega) ok106 hr (by omega) (fun h114 m114 e114_1 e114_2 => ?_)
          have ok114 := m114.ok
          have M114 := Mo.tr ok M106 m114 (fun x e => (Or.inr (Or.inr (Or.inr (Or.inr (Or.inr (Or.inr e)))))))
          refine w_aload_n d143_117 rfl ?_
          refine w_dupR d143_118 ?_
          refine w_getI (x := ((rs.length : Nat) : Int)) d143_119 (ok114.kd hv) (by rw [m114.fi ok106 (by omega) nvr 1024, m106.fi ok102 (by omega) nvr 1024, e102, e88, e74, e62, e41]; exact q1) ?_
          refine w_iconst d143_122 (by decide) ?_
          refine w_iadd d143_123 (by constructor <;> omega) ?_
          refine wf1024 d143_124 ok114 hv (by omega) (fun h124 e124 m124 => ?_)
          have ok124 := m124.ok
          have M124 := Mo.tr ok M114 m124 (fun x e => (Or.inl e))
          refine w_return d143_127 ?_
          have cell : ∀ f, 1025 ≤ f → f ≤ 1029 → AI h124 (sT S f v) = AI h102 (sT S f v) := fun f h1 h2 => by
            have kf : sK S (sT S f v) = 40 := by
              have : f = 1025 ∨ f = 1026 ∨ f = 1027 ∨ f = 1028 ∨ f = 1029 := by omega
              rcases this with e | e | e | e | e <;> subst e <;> assumption
            rw [e124]
            show AI h114 (sT S f v) = _
            rw [m114.ai ok106 (by omega) (nTr f (by omega)), m106.ai ok102 (by omega) (nTr f (by omega))]
          have fin : ∀ k, (AI h102 (sT S 1025 v) k = if k = rs.length then (if 0 < f then AI h (sT S 520 q) 0 else -1) else AI h (sT S 1025 v) k) ∧ (AI h102 (sT S 1026 v) k = if k = rs.length then (if 0 < f then AI h (sT S 520 q) 1 else 0) else AI h (sT S 1026 v) k) ∧ (AI h102 (sT S 1027 v) k = if k = rs.length then AI h (sT S 520 q) f else AI h (sT S 1027 v) k) ∧ (AI h102 (sT S 1028 v) k = if k = rs.length then AI h (sT S 520 q) (f + 1) else AI h (sT S 1028 v) k) ∧ (AI h102 (sT S 1029 v) k = if k = rs.length then AI h (sT S 520 q) (f + 2) else AI h (sT S 1029 v) k) := fun k => by
            rw [e102, e88, e74, e62, e41]
            simp only [AI_sAI, z56, z57, z58, z59, z65, z67, z68, z69, z75, z76, z78, z79, z85, z86, z87, z89, z95, z96, z97, z98, false_and, and_false, true_and, and_true, if_false, Int.toNat_natCast]
            first | (rw [if_pos f0, if_pos f0]) | (rw [if_neg f0, if_neg f0])
            exact ⟨rfl, rfl⟩
          have rb0 : rl h102 r = rl h r := by rw [m102.rb ok88 hr (nTr 1029 (by decide)).symm, m88.rb ok74 hr (nTr 1028 (by decide)).symm, m74.rb ok62 hr (nTr 1027 (by decide)).symm, m62.rb ok41 hr (nTr 1026 (by decide)).symm, m41.rb ok hr (nTr 1025 (by decide)).symm]
          have cp0 : cap h102 r = cap h r := by rw [(m102.cp ok88 hr).2 (nTr 1029 (by decide)).symm, (m88.cp ok74 hr).2 (nTr 1028 (by decide)).symm, (m74.cp ok62 hr).2 (nTr 1027 (by decide)).symm, (m62.cp ok41 hr).2 (nTr 1026 (by decide)).symm, (m41.cp ok hr).2 (nTr 1025 (by decide)).symm]
          exact kk h124 M124 (add_vc q2 hlt q3 hnu (by rw [e124, FI_sFI, if_pos ⟨rfl, rfl⟩]) (fun k => by rw [cell 1025 (by decide) (by decide), cell 1026 (by decide) (by decide), cell 1027 (by decide) (by decide), cell 1028 (by decide) (by decide), cell 1029 (by decide) (by decide)]; exact fin k)) (by rw [m124.rb ok114 hr nvr.symm, e114_1, e106_1, e106_2, addBs3, rb0, cp0]) (by rw [show cap h124 r = cap h114 r from (m124.cp ok114 hr).2 nvr.symm, e114_2, e106_2, cp0])
        · exact absurd rfl c52
      · exact absurd rfl c31
    · have f0 : 0 < f := by omega
      refine w_iconst d143_14 (by decide) ?_
      refine w_goto d143_15 ?_
      refine w_istore4 d143_19 rfl ?_
      refine w_aload_n d143_21 rfl ?_
      refine w_dloadS d143_22 (ok.kd hv) (fr1025 ok hv) ?_
      refine w_aload_n d143_25 rfl ?_
      refine w_getI (x := ((rs.length : Nat) : Int)) d143_26 (ok.kd hv) q1 ?_
      refine w_iload d143_29 rfl ?_
      refine w_ifeq d143_31 (fun c31 => ?_) (fun c31 => ?_)
      · exact absurd c31 (by decide)
      · refine w_aload_n d143_34 rfl ?_
        refine w_iconst d143_35 (by decide) ?_
        refine w_ialoadV (x := (AI h (sT S 520 q) (0))) d143_36 (gi520 ok hq (by omega)) (by rfl : AI h (sT S 520 q) _ = AI h (sT S 520 q) (0)) ?_
        refine w_goto d143_37 ?_
        refine wa1025 d143_41 ok hv (by omega) (by omega) (fun h41 e41 m41 => ?_)
        have e41 : h41 = sAI h (sT S 1025 v) rs.length (AI h (sT S 520 q) (0)) := e41
        have ok41 := m41.ok
        have M41 := Mo.tr ok (Mo.refl (A := (fun x => x = v ∨ x = (sT S 1025 v) ∨ x = (sT S 1026 v) ∨ x = (sT S 1027 v) ∨ x = (sT S 1028 v) ∨ x = (sT S 1029 v) ∨ x = r)) ok) m41 (fun x e => (Or.inr (Or.inl e)))
        refine w_aload_n d143_42 rfl ?_
        refine w_dloadS d143_43 (ok41.kd hv) (fr1026 ok41 hv) ?_
        refine w_aload_n d143_46 rfl ?_
        refine w_getI (x := ((rs.length : Nat) : Int)) d143_47 (ok41.kd hv) (by rw [e41]; exact q1) ?_
        refine w_iload d143_50 rfl ?_
        refine w_ifeq d143_52 (fun c52 => ?_) (fun c52 => ?_)
        · exact absurd c52 (by decide)
        · refine w_aload_n d143_55 rfl ?_
          refine w_iconst d143_56 (by decide) ?_
          refine w_ialoadV (x := (AI h (sT S 520 q) (1))) d143_57 (gi520 ok41 hq (by omega)) (congrFun (M41.ai ok (by have := kT520 ok hq; omega) nq) (1)) ?_
          refine w_goto d143_58 ?_
          refine wa1026 d143_62 ok41 hv (by omega) (by omega) (fun h62 e62 m62 => ?_)
          have e62 : h62 = sAI h41 (sT S 1026 v) rs.length (AI h (sT S 520 q) (1)) := e62
          have ok62 := m62.ok
          have M62 := Mo.tr ok M41 m62 (fun x e => (Or.inr (Or.inr (Or.inl e))))
          refine w_aload_n d143_63 rfl ?_
          refine w_dloadS d143_64 (ok62.kd hv) (fr1027 ok62 hv) ?_
          refine w_aload_n d143_67 rfl ?_
          refine w_getI (x := ((rs.length : Nat) : Int)) d143_68 (ok62.kd hv) (by rw [e62, e41]; exact q1) ?_
          refine w_aload_n d143_71 rfl ?_
          refine w_iload_n d143_72 rfl ?_
          refine w_ialoadV (x := (AI h (sT S 520 q) (f))) d143_73 (gi520 ok62 hq (by omega)) (congrFun (M62.ai ok (by have := kT520 ok hq; omega) nq) (f)) ?_
          refine wa1027 d143_74 ok62 hv (by omega) (by omega) (fun h74 e74 m74 => ?_)
          have e74 : h74 = sAI h62 (sT S 1027 v) rs.length (AI h (sT S 520 q) (f)) := e74
          have ok74 := m74.ok
          have M74 := Mo.tr ok M62 m74 (fun x e => (Or.inr (Or.inr (Or.inr (Or.inl e)))))
          refine w_aload_n d143_75 rfl ?_
          refine w_dloadS d143_76 (ok74.kd hv) (fr1028 ok74 hv) ?_
          refine w_aload_n d143_79 rfl ?_
          refine w_getI (x := ((rs.length : Nat) : Int)) d143_80 (ok74.kd hv) (by rw [e74, e62, e41]; exact q1) ?_
          refine w_aload_n d143_83 rfl ?_
          refine w_iload_n d143_84 rfl ?_
          refine w_iconst d143_85 (by decide) ?_
          refine w_iadd d143_86 (by constructor <;> omega) ?_
          refine w_ialoadV (x := (AI h (sT S 520 q) (f + 1))) d143_87 (gi520 ok74 hq (by omega)) (congrFun (M74.ai ok (by have := kT520 ok hq; omega) nq) (f + 1)) ?_
          refine wa1028 d143_88 ok74 hv (by omega) (by omega) (fun h88 e88 m88 => ?_)
          have e88 : h88 = sAI h74 (sT S 1028 v) rs.length (AI h (sT S 520 q) (f + 1)) := e88
          have ok88 := m88.ok
          have M88 := Mo.tr ok M74 m88 (fun x e => (Or.inr (Or.inr (Or.inr (Or.inr (Or.inl e))))))
          refine w_aload_n d143_89 rfl ?_
          refine w_dloadS d143_90 (ok88.kd hv) (fr1029 ok88 hv) ?_
          refine w_aload_n d143_93 rfl ?_
          refine w_getI (x := ((rs.length : Nat) : Int)) d143_94 (ok88.kd hv) (by rw [e88, e74, e62, e41]; exact q1) ?_
          refine w_aload_n d143_97 rfl ?_
          refine w_iload_n d143_98 rfl ?_
          refine w_iconst d143_99 (by decide) ?_
          refine w_iadd d143_100 (by constructor <;> omega) ?_
          refine w_ialoadV (x := (AI h (sT S 520 q) (f + 2))) d143_101 (gi520 ok88 hq (by omega)) (congrFun (M88.ai ok (by have := kT520 ok hq; omega) nq) (f + 2)) ?_
          refine wa1029 d143_102 ok88 hv (by omega) (by omega) (fun h102 e102 m102 => ?_)
          have e102 : h102 = sAI h88 (sT S 1029 v) rs.length (AI h (sT S 520 q) (f + 2)) := e102
          have ok102 := m102.ok
          have M102 := Mo.tr ok M88 m102 (fun x e => (Or.inr (Or.inr (Or.inr (Or.inr (Or.inr (Or.inl e)))))))
          refine w_aload_n d143_103 rfl ?_
          obtain ⟨g104, v104, s104⟩ := tg.tx ok102 20 (by decide)
          refine w_getstaticS d143_104 v104 ?_
          refine w_callv2 d143_106 (by omega) rfl (ok102.kd hr) (by simp) (Nat.le_of_ble_eq_true rfl) ?_
          refine r_Row_addText (by omega) ok102 hr s104 (fun h106 m106 e106_1 e106_2 => ?_)
          have ok106 := m106.ok
          have M106 := Mo.tr ok M102 m106 (fun x e => (Or.inr (Or.inr (Or.inr (Or.inr (Or.inr (Or.inr e)))))))
          refine w_aload_n d143_109 rfl ?_
          refine w_aload_n d143_110 rfl ?_
          refine w_getI (x := ((rs.length : Nat) : Int)) d143_111 (ok106.kd hv) (by rw [m106.fi ok102 (by omega) nvr 1024, e102, e88, e74, e62, e41]; exact q1) ?_
          refine w_callv2 d143_114 (by omega) rfl (ok106.kd hr) (by simp) (Nat.le_of_ble_eq_true rfl) ?_
          refine r_Row_addNumber (by omega) ok106 hr (by omega) (fun h114 m114 e114_1 e114_2 => ?_)
          have ok114 := m114.ok
          have M114 := Mo.tr ok M106 m114 (fun x e => (Or.inr (Or.inr (Or.inr (Or.inr (Or.inr (Or.inr e)))))))
          refine w_aload_n d143_117 rfl ?_
          refine w_dupR d143_118 ?_
          refine w_getI (x := ((rs.length : Nat) : Int)) d143_119 (ok114.kd hv) (by rw [m114.fi ok106 (by omega) nvr 1024, m106.fi ok102 (by omega) nvr 1024, e102, e88, e74, e62, e41]; exact q1) ?_
          refine w_iconst d143_122 (by decide) ?_
          refine w_iadd d143_123 (by constructor <;> omega) ?_
          refine wf1024 d143_124 ok114 hv (by omega) (fun h124 e124 m124 => ?_)
          have ok124 := m124.ok
          have M124 := Mo.tr ok M114 m124 (fun x e => (Or.inl e))
          refine w_return d143_127 ?_
          have cell : ∀ f, 1025 ≤ f → f ≤ 1029 → AI h124 (sT S f v) = AI h102 (sT S f v) := fun f h1 h2 => by
            have kf : sK S (sT S f v) = 40 := by
              have : f = 1025 ∨ f = 1026 ∨ f = 1027 ∨ f = 1028 ∨ f = 1029 := by omega
              rcases this with e | e | e | e | e <;> subst e <;> assumption
            rw [e124]
            show AI h114 (sT S f v) = _
            rw [m114.ai ok106 (by omega) (nTr f (by omega)), m106.ai ok102 (by omega) (nTr f (by omega))]
          have fin : ∀ k, (AI h102 (sT S 1025 v) k = if k = rs.length then (if 0 < f then AI h (sT S 520 q) 0 else -1) else AI h (sT S 1025 v) k) ∧ (AI h102 (sT S 1026 v) k = if k = rs.length then (if 0 < f then AI h (sT S 520 q) 1 else 0) else AI h (sT S 1026 v) k) ∧ (AI h102 (sT S 1027 v) k = if k = rs.length then AI h (sT S 520 q) f else AI h (sT S 1027 v) k) ∧ (AI h102 (sT S 1028 v) k = if k = rs.length then AI h (sT S 520 q) (f + 1) else AI h (sT S 1028 v) k) ∧ (AI h102 (sT S 1029 v) k = if k = rs.length then AI h (sT S 520 q) (f + 2) else AI h (sT S 1029 v) k) := fun k => by
            rw [e102, e88, e74, e62, e41]
            simp only [AI_sAI, z56, z57, z58, z59, z65, z67, z68, z69, z75, z76, z78, z79, z85, z86, z87, z89, z95, z96, z97, z98, false_and, and_false, true_and, and_true, if_false, Int.toNat_natCast]
            first | (rw [if_pos f0, if_pos f0]) | (rw [if_neg f0, if_neg f0])
            exact ⟨rfl, rfl⟩
          have rb0 : rl h102 r = rl h r := by rw [m102.rb ok88 hr (nTr 1029 (by decide)).symm, m88.rb ok74 hr (nTr 1028 (by decide)).symm, m74.rb ok62 hr (nTr 1027 (by decide)).symm, m62.rb ok41 hr (nTr 1026 (by decide)).symm, m41.rb ok hr (nTr 1025 (by decide)).symm]
          have cp0 : cap h102 r = cap h r := by rw [(m102.cp ok88 hr).2 (nTr 1029 (by decide)).symm, (m88.cp ok74 hr).2 (nTr 1028 (by decide)).symm, (m74.cp ok62 hr).2 (nTr 1027 (by decide)).symm, (m62.cp ok41 hr).2 (nTr 1026 (by decide)).symm, (m41.cp ok hr).2 (nTr 1025 (by decide)).symm]
          exact kk h124 M124 (add_vc q2 hlt q3 hnu (by rw [e124, FI_sFI, if_pos ⟨rfl, rfl⟩]) (fun k => by rw [cell 1025 (by decide) (by decide), cell 1026 (by decide) (by decide), cell 1027 (by decide) (by decide), cell 1028 (by decide) (by decide), cell 1029 (by decide) (by decide)]; exact fin k)) (by rw [m124.rb ok114 hr nvr.symm, e114_1, e106_1, e106_2, addBs3, rb0, cp0]) (by rw [show cap h124 r = cap h114 r from (m124.cp ok114 hr).2 nvr.symm, e114_2, e106_2, cp0])
  · omega
