/-! the workshop: compile -/
/-- the lines of an input, up to the first that is not right -/
def cmI (x : List Nat) (b : Bool) : Nat → Nat → Nat → List SrV → List FaV → Option Nat × List SrV × List FaV
  | 0, _, _, ss, fs => (none, ss, fs)
  | n + 1, f, k, ss, fs => if f < x.length then (if b = true then (if rfK x f (lineE x f) fs.length = true then cmI x b n (lineE x f + 1) (k + 1) ss (rfL x f (lineE x f) fs) else (some k, ss, fs)) else (if (srR x f (lineE x f) ss fs).1 = true then cmI x b n (lineE x f + 1) (k + 1) (srR x f (lineE x f) ss fs).2 fs else (some k, (srR x f (lineE x f) ss fs).2, fs))) else (none, ss, fs)
def cmG (t : TgV) (ins : List (List Nat)) : Nat → Nat → List SrV → List FaV → Option (Nat × Nat) × List SrV × List FaV
  | 0, _, ss, fs => (none, ss, fs)
  | m + 1, i, ss, fs => match cmI (ins.getD i []) (inB (tgI t) i) ((ins.getD i []).length + 1) 0 0 ss fs with
    | (none, ss', fs') => cmG t ins m (i + 1) ss' fs'
    | (some k, ss', fs') => (some (i, k), ss', fs')
def cmW (t : TgV) (ins : List (List Nat)) : Option (Nat × Nat) × List SrV × List FaV := cmG t ins ins.length 0 [] []
def badT (z : Option (Nat × Nat)) : List Nat := match z with
  | none => []
  | some v => txt 27 ++ (dec v.1 ++ ([32] ++ dec v.2))
section CM
variable {x : List Nat} {b : Bool} {n f k i m : Nat} {ss ss' : List SrV} {fs fs' : List FaV} {t : TgV} {ins : List (List Nat)}
theorem cmI_end (h : ¬ f < x.length) : cmI x b n f k ss fs = (none, ss, fs) := by
  rcases n with - | m
  · rfl
  · rw [cmI, if_neg h]
theorem cmI_f (hn : 0 < n) (h : f < x.length) (hb : b = true) (q : rfK x f (lineE x f) fs.length = true) : cmI x b n f k ss fs = cmI x b (n - 1) (lineE x f + 1) (k + 1) ss (rfL x f (lineE x f) fs) := by
  obtain ⟨m, rfl⟩ : ∃ m, n = m + 1 := ⟨n - 1, by omega⟩
  rw [cmI, if_pos h, if_pos hb, if_pos q]
  rfl
theorem cmI_fx (hn : 0 < n) (h : f < x.length) (hb : b = true) (q : ¬ rfK x f (lineE x f) fs.length = true) : cmI x b n f k ss fs = (some k, ss, fs) := by
  obtain ⟨m, rfl⟩ : ∃ m, n = m + 1 := ⟨n - 1, by omega⟩
  rw [cmI, if_pos h, if_pos hb, if_neg q]
theorem cmI_s (hn : 0 < n) (h : f < x.length) (hb : ¬ b = true) (q : (srR x f (lineE x f) ss fs).1 = true) : cmI x b n f k ss fs = cmI x b (n - 1) (lineE x f + 1) (k + 1) (srR x f (lineE x f) ss fs).2 fs := by
  obtain ⟨m, rfl⟩ : ∃ m, n = m + 1 := ⟨n - 1, by omega⟩
  rw [cmI, if_pos h, if_neg hb, if_pos q]
  rfl
theorem cmI_sx (hn : 0 < n) (h : f < x.length) (hb : ¬ b = true) (q : ¬ (srR x f (lineE x f) ss fs).1 = true) : cmI x b n f k ss fs = (some k, (srR x f (lineE x f) ss fs).2, fs) := by
  obtain ⟨m, rfl⟩ : ∃ m, n = m + 1 := ⟨n - 1, by omega⟩
  rw [cmI, if_pos h, if_neg hb, if_neg q]
theorem cmG_on (hm : 0 < m) (h : cmI (ins.getD i []) (inB (tgI t) i) ((ins.getD i []).length + 1) 0 0 ss fs = (none, ss', fs')) : cmG t ins m i ss fs = cmG t ins (m - 1) (i + 1) ss' fs' := by
  obtain ⟨j, rfl⟩ : ∃ j, m = j + 1 := ⟨m - 1, by omega⟩
  rw [cmG, h]
  rfl
theorem cmG_bad (hm : 0 < m) (h : cmI (ins.getD i []) (inB (tgI t) i) ((ins.getD i []).length + 1) 0 0 ss fs = (some k, ss', fs')) : cmG t ins m i ss fs = (some (i, k), ss', fs') := by
  obtain ⟨j, rfl⟩ : ∃ j, m = j + 1 := ⟨m - 1, by omega⟩
  rw [cmG, h]
end CM
theorem SrC.y {S : Shp} {h h' : Hp} {w y : Nat} {ss : List SrV} (D : SrC S h w ss) (ok : Ok S h) (m : Mo S (fun x => x = y) h h') (hw : sK S w = 10) (ny : ∀ x, U S w x → x ≠ y) : SrC S h' w ss := D.f ok m hw (Or.inl (ny _ U_refl)) (ny _ (ok.so.uT (by decide) U_refl)) (ny _ (ok.so.uT (by decide) U_refl)) (ny _ (ok.so.uT (by decide) U_refl))
theorem d126_0 : dc 126 0 = some (.aload_n 0, 1) := by decide +kernel
theorem d126_1 : dc 126 1 = some (.iconst 0, 2) := by decide +kernel
theorem d126_2 : dc 126 2 = some (.putfield 1162, 5) := by decide +kernel
theorem d126_5 : dc 126 5 = some (.aload_n 0, 6) := by decide +kernel
theorem d126_6 : dc 126 6 = some (.iconst 0, 7) := by decide +kernel
theorem d126_7 : dc 126 7 = some (.putfield 1165, 10) := by decide +kernel
theorem d126_10 : dc 126 10 = some (.iconst 0, 11) := by decide +kernel
theorem d126_11 : dc 126 11 = some (.istore_n 3, 12) := by decide +kernel
theorem d126_12 : dc 126 12 = some (.iload_n 3, 13) := by decide +kernel
theorem d126_13 : dc 126 13 = some (.aload_n 1, 14) := by decide +kernel
theorem d126_14 : dc 126 14 = some (.getfield 133, 17) := by decide +kernel
theorem d126_17 : dc 126 17 = some (.if_icmp .ge ((133 : Nat) : Int), 20) := by decide +kernel
theorem d126_20 : dc 126 20 = some (.aload_n 0, 21) := by decide +kernel
theorem d126_21 : dc 126 21 = some (.dload 1153, 24) := by decide +kernel
theorem d126_24 : dc 126 24 = some (.iload_n 3, 25) := by decide +kernel
theorem d126_25 : dc 126 25 = some (.aaload, 26) := by decide +kernel
theorem d126_26 : dc 126 26 = some (.astore 4, 28) := by decide +kernel
theorem d126_28 : dc 126 28 = some (.iconst 0, 29) := by decide +kernel
theorem d126_29 : dc 126 29 = some (.istore 5, 31) := by decide +kernel
theorem d126_31 : dc 126 31 = some (.iconst 0, 32) := by decide +kernel
theorem d126_32 : dc 126 32 = some (.istore 6, 34) := by decide +kernel
theorem d126_34 : dc 126 34 = some (.iload 5, 36) := by decide +kernel
theorem d126_36 : dc 126 36 = some (.aload 4, 38) := by decide +kernel
theorem d126_38 : dc 126 38 = some (.invokevirtual 13, 41) := by decide +kernel
theorem d126_41 : dc 126 41 = some (.if_icmp .ge ((127 : Nat) : Int), 44) := by decide +kernel
theorem d126_44 : dc 126 44 = some (.aload 4, 46) := by decide +kernel
theorem d126_46 : dc 126 46 = some (.iload 5, 48) := by decide +kernel
theorem d126_48 : dc 126 48 = some (.invokevirtual 117, 51) := by decide +kernel
theorem d126_51 : dc 126 51 = some (.istore 7, 53) := by decide +kernel
theorem d126_53 : dc 126 53 = some (.aload_n 1, 54) := by decide +kernel
theorem d126_54 : dc 126 54 = some (.dload 134, 57) := by decide +kernel
theorem d126_57 : dc 126 57 = some (.iload_n 3, 58) := by decide +kernel
theorem d126_58 : dc 126 58 = some (.baload, 59) := by decide +kernel
theorem d126_59 : dc 126 59 = some (.ifCond .eq ((78 : Nat) : Int), 62) := by decide +kernel
theorem d126_62 : dc 126 62 = some (.aload_n 0, 63) := by decide +kernel
theorem d126_63 : dc 126 63 = some (.aload 4, 65) := by decide +kernel
theorem d126_65 : dc 126 65 = some (.iload 5, 67) := by decide +kernel
theorem d126_67 : dc 126 67 = some (.iload 7, 69) := by decide +kernel
theorem d126_69 : dc 126 69 = some (.invokevirtual 127, 72) := by decide +kernel
theorem d126_72 : dc 126 72 = some (.ifCond .ne ((115 : Nat) : Int), 75) := by decide +kernel
theorem d126_75 : dc 126 75 = some (.goto ((91 : Nat) : Int), 78) := by decide +kernel
theorem d126_78 : dc 126 78 = some (.aload_n 0, 79) := by decide +kernel
theorem d126_79 : dc 126 79 = some (.aload 4, 81) := by decide +kernel
theorem d126_81 : dc 126 81 = some (.iload 5, 83) := by decide +kernel
theorem d126_83 : dc 126 83 = some (.iload 7, 85) := by decide +kernel
theorem d126_85 : dc 126 85 = some (.invokevirtual 128, 88) := by decide +kernel
theorem d126_88 : dc 126 88 = some (.ifCond .ne ((115 : Nat) : Int), 91) := by decide +kernel
theorem d126_91 : dc 126 91 = some (.aload_n 2, 92) := by decide +kernel
theorem d126_92 : dc 126 92 = some (.getstatic 77, 94) := by decide +kernel
theorem d126_94 : dc 126 94 = some (.invokevirtual 84, 97) := by decide +kernel
theorem d126_97 : dc 126 97 = some (.aload_n 2, 98) := by decide +kernel
theorem d126_98 : dc 126 98 = some (.iload_n 3, 99) := by decide +kernel
theorem d126_99 : dc 126 99 = some (.invokevirtual 124, 102) := by decide +kernel
theorem d126_102 : dc 126 102 = some (.aload_n 2, 103) := by decide +kernel
theorem d126_103 : dc 126 103 = some (.bipush 32, 105) := by decide +kernel
theorem d126_105 : dc 126 105 = some (.invokevirtual 15, 108) := by decide +kernel
theorem d126_108 : dc 126 108 = some (.aload_n 2, 109) := by decide +kernel
theorem d126_109 : dc 126 109 = some (.iload 6, 111) := by decide +kernel
theorem d126_111 : dc 126 111 = some (.invokevirtual 124, 114) := by decide +kernel
theorem d126_114 : dc 126 114 = some (.return_, 115) := by decide +kernel
theorem d126_115 : dc 126 115 = some (.iload 7, 117) := by decide +kernel
theorem d126_117 : dc 126 117 = some (.iconst 1, 118) := by decide +kernel
theorem d126_118 : dc 126 118 = some (.iadd, 119) := by decide +kernel
theorem d126_119 : dc 126 119 = some (.istore 5, 121) := by decide +kernel
theorem d126_121 : dc 126 121 = some (.iinc 6 1, 124) := by decide +kernel
theorem d126_124 : dc 126 124 = some (.goto ((34 : Nat) : Int), 127) := by decide +kernel
theorem d126_127 : dc 126 127 = some (.iinc 3 1, 130) := by decide +kernel
theorem d126_130 : dc 126 130 = some (.goto ((12 : Nat) : Int), 133) := by decide +kernel
theorem d126_133 : dc 126 133 = some (.return_, 134) := by decide +kernel
theorem k_Wk_compile {S : Shp} {G : Nat → Option Nat} {d : Nat} {h : Hp} {Q : Option MV → Hp → Prop} {w : Nat} {dd : Nat} {y : Nat}  (ok : Ok S h) (h1 : 5 ≤ d) (hw : sK S w = 10) (hdd : sK S dd = 2) (hy : sK S y = 6) {t : TgV} {tx : List Nat} (D : DefC S h dd t tx) {P : Nat → Prop} {ins : List (List Nat)} (ic : InsC S h w P ins) (hin : ins.length = (tgI t).length) (hP : ∀ r, P r → ¬ U S w r ∧ r ≠ y) (hwy : ¬ U S w y) (tg : Tg S G)
    (kk : ∀ h', Mo S (fun x => x = w ∨ x = sT S 1159 w ∨ x = sT S 1160 w ∨ x = sT S 1161 w ∨ x = sT S 1163 w ∨ x = sT S 1164 w ∨ x = y) h h' → SrC S h' w (cmW t ins).2.1 → rl h' y = addBs (cap h y) (rl h y) (badT (cmW t ins).1) → cap h' y = cap h y → Q none h') : Cl G d 126 [vR (some w), vR (some dd), vR (some y)] h Q := by
  show Wp G d 126 0 [some (vR (some w)), some (vR (some dd)), some (vR (some y)), none, none, none, none, none] [] h Q
  have i6 := ic.1
  have ny : ∀ x, U S w x → x ≠ y := fun x u z => hwy (z ▸ u)
  obtain ⟨D1, D2, D3, D4, D5, D6, D7, D8, D9, D10, D11, D12, D13, D14, D15⟩ := D
  have K34 := kT134 ok hdd
  have K53 := kT1153 ok hw
  have K59 := kT1159 ok hw
  have K60 := kT1160 ok hw
  have K61 := kT1161 ok hw
  have K63 := kT1163 ok hw
  have K64 := kT1164 ok hw
  have nA : ∀ x, (sK S x ≠ 10 ∧ sK S x ≠ 44 ∧ sK S x ≠ 40) → sK S x ≠ 42 ∨ sK S x = 42 ∧ x ≠ sT S 1161 w → x ≠ y → ¬ (x = w ∨ x = sT S 1159 w ∨ x = sT S 1160 w ∨ x = sT S 1161 w ∨ x = sT S 1163 w ∨ x = sT S 1164 w ∨ x = y) := fun x h1 h2 h3 z => by rcases z with z | z | z | z | z | z | z <;> first | exact h3 z | (rw [z] at h1 h2; omega)
  have nw : ∀ f, f < 4096 → f ≠ 1159 ∧ f ≠ 1160 ∧ f ≠ 1161 ∧ f ≠ 1163 ∧ f ≠ 1164 → sK S (sT S f w) ≠ 10 → ¬ (sT S f w = w ∨ sT S f w = sT S 1159 w ∨ sT S f w = sT S 1160 w ∨ sT S f w = sT S 1161 w ∨ sT S f w = sT S 1163 w ∨ sT S f w = sT S 1164 w ∨ sT S f w = y) := fun f hf hn h3 z => by
    rcases z with z | z | z | z | z | z | z
    · exact ok.so.pT hf z
    · exact ok.so.ou hf (by decide) (Or.inl hn.1) z
    · exact ok.so.ou hf (by decide) (Or.inl hn.2.1) z
    · exact ok.so.ou hf (by decide) (Or.inl hn.2.2.1) z
    · exact ok.so.ou hf (by decide) (Or.inl hn.2.2.2.1) z
    · exact ok.so.ou hf (by decide) (Or.inl hn.2.2.2.2) z
    · exact ny _ (ok.so.uT hf U_refl) z
  have ny3 : ¬ (y = w ∨ y = sT S 1163 w ∨ y = sT S 1164 w) := fun z => by rcases z with z | z | z <;> (rw [z] at hy; omega)
  have ny4 : ¬ (y = w ∨ y = sT S 1159 w ∨ y = sT S 1160 w ∨ y = sT S 1161 w) := fun z => by rcases z with z | z | z | z <;> (rw [z] at hy; omega)
  have n134 : sT S 134 dd ≠ sT S 1161 w := ok.so.ou (by decide) (by decide) (Or.inl (by decide))
  have ndy : dd ≠ y := fun z => by rw [z] at hdd; omega
  have n4y : sT S 134 dd ≠ y := fun z => by rw [z] at K34; omega
  refine w_aload_n d126_0 rfl ?_
  refine w_iconst d126_1 (by decide) ?_
  refine wf1162 d126_2 ok hw (by omega) (fun h2 e2 m2 => ?_)
  have ok2 := m2.ok
  have M2 := Mo.tr ok (Mo.refl (A := (fun x => x = w ∨ x = (sT S 1159 w) ∨ x = (sT S 1160 w) ∨ x = (sT S 1161 w) ∨ x = (sT S 1163 w) ∨ x = (sT S 1164 w) ∨ x = y)) ok) m2 (fun x e => (Or.inl e))
  refine w_aload_n d126_5 rfl ?_
  refine w_iconst d126_6 (by decide) ?_
  refine wf1165 d126_7 ok2 hw (by omega) (fun h7 e7 m7 => ?_)
  have ok7 := m7.ok
  have M7 := Mo.tr ok M2 m7 (fun x e => (Or.inl e))
  refine w_iconst d126_10 (by decide) ?_
  refine w_istore3 d126_11 rfl ?_
  have L12 : ∀ (m12 : Nat) (g : Hp) (i : Nat) (ss : List SrV) (fs : List FaV), ins.length - i = m12 → Mo S (fun x => x = w ∨ x = (sT S 1159 w) ∨ x = (sT S 1160 w) ∨ x = (sT S 1161 w) ∨ x = (sT S 1163 w) ∨ x = (sT S 1164 w) ∨ x = y) h g → (i ≤ ins.length) → (SrC S g w ss) → (FaC S g w fs) → (rl g y = rl h y ∧ cap g y = cap h y) → (cmG t ins ins.length 0 [] [] = cmG t ins (ins.length - i) i ss fs) → Wp G d 126 12 [some (vR (some w)), some (vR (some dd)), some (vR (some y)), some (vI (i : Nat)), none, none, none, none] [] g Q := by
    intro m12
    induction m12 using Nat.strongRecOn with | ind m12 IH12 => ?_
    intro g i ss fs hm12 Mg i1 i2 i3 i4 i5
    have okg := Mg.ok
    refine w_iload_n d126_12 rfl ?_
    refine w_aload_n d126_13 rfl ?_
    refine w_getI (x := (((tgI t).length : Nat) : Int)) d126_14 (okg.kd hdd) ((Mg.fi ok (by omega) (by intro z; rcases z with z | z | z | z | z | z | z <;> (rw [z] at hdd; omega)) 133).trans D5) ?_
    refine w_icmpge d126_17 (fun c17 => ?_) (fun c17 => ?_)
    · refine w_return d126_133 ?_
      rw [show ins.length - i = 0 by omega, cmG] at i5
      refine kk g Mg ?_ ?_ i4.2
      · rw [show cmW t ins = _ from i5]; exact i2
      · rw [show cmW t ins = _ from i5, i4.1]; rfl
    · obtain ⟨r, r1, r2, r3, r4, r5⟩ := ic.2 i (by omega)
      obtain ⟨E1, E2, E3⟩ := D6 i (by omega)
      have nry : r ≠ y := by rcases r4 with q | q; rw [q]; exact ny _ (ok.so.uT (by decide) U_refl); exact (hP r q).2
      have nrA := nA r ⟨by omega, by omega, by omega⟩ (Or.inl (by omega)) nry
      refine w_aload_n d126_20 rfl ?_
      refine w_dloadS d126_21 (okg.kd hw) (fr1153 okg hw) ?_
      refine w_iload_n d126_24 rfl ?_
      refine w_aaloadSN d126_25 (gi1153 okg hw (by omega)) ((congrFun (Mg.ar ok (by omega) (nw 1153 (by decide) (by decide) (by omega))) i).trans r1) ?_
      refine w_astore4 d126_26 rfl ?_
      refine w_iconst d126_28 (by decide) ?_
      refine w_istore5 d126_29 rfl ?_
      refine w_iconst d126_31 (by decide) ?_
      refine w_istore6 d126_32 rfl ?_
      have L34 : ∀ (m34 : Nat) (g2 : Hp) (n f k : Nat) (s2 : List SrV) (f2 : List FaV), (ins.getD i []).length + 1 - f = m34 → Mo S (fun x => x = w ∨ x = (sT S 1159 w) ∨ x = (sT S 1160 w) ∨ x = (sT S 1161 w) ∨ x = (sT S 1163 w) ∨ x = (sT S 1164 w) ∨ x = y) h g2 → (f ≤ (ins.getD i []).length + 1 ∧ k ≤ f ∧ (ins.getD i []).length < n + f) → (SrC S g2 w s2) → (FaC S g2 w f2) → (cmI (ins.getD i []) (inB (tgI t) i) ((ins.getD i []).length + 1) 0 0 ss fs = cmI (ins.getD i []) (inB (tgI t) i) n f k s2 f2) → (rl g2 y = rl h y) → (cap g2 y = cap h y) → Wp G d 126 34 [some (vR (some w)), some (vR (some dd)), some (vR (some y)), some (vI (i : Nat)), some (vR (some r)), some (vI (f : Nat)), some (vI (k : Nat)), none] [] g2 Q := by
        intro m34
        induction m34 using Nat.strongRecOn with | ind m34 IH34 => ?_
        intro g2 n f k s2 f2 hm34 Mg2 j1 sc2 fc2 j5 j6 j7
        have okg2 := Mg2.ok
        have rr2 : rl g2 r = (ins.getD i []) := (Mg2.rb ok r2 nrA).trans r3
        refine w_iload d126_34 rfl ?_
        refine w_aload d126_36 rfl ?_
        refine w_callv1 d126_38 (by omega) rfl (okg2.kd r2) (by simp) (Nat.le_of_ble_eq_true rfl) ?_
        refine r_Row_size okg2 r2 ?_
        rw [rr2]
        refine w_icmpge d126_41 (fun c41 => ?_) (fun c41 => ?_)
        · refine w_iinc3 d126_127 rfl (by constructor <;> omega) ?_
          refine w_goto d126_130 ?_
          refine w_less ?_ (IH12 _ (by omega) g2 (i + 1) s2 f2 rfl Mg2 (by omega) sc2 fc2 ⟨j6, j7⟩ (i5.trans ((cmG_on (by omega) (j5.trans (cmI_end (by omega)))).trans (by rw [show ins.length - i - 1 = ins.length - (i + 1) by omega]))))
          exact ⟨Or.inr rfl, Or.inr rfl, Or.inr rfl, Or.inr rfl, Or.inl rfl, Or.inl rfl, Or.inl rfl, Or.inl rfl, trivial⟩
        · have le := lineE_le (l := (ins.getD i [])) (i := f) (by omega)
          have lg := lineE_ge (ins.getD i []) f
          refine w_aload d126_44 rfl ?_
          refine w_iload d126_46 rfl ?_
          refine w_callv2 d126_48 (by omega) rfl (okg2.kd r2) (by simp) (Nat.le_of_ble_eq_true rfl) ?_
          refine r_Row_lineEndN (by omega) okg2 r2 (by omega) ?_
          rw [rr2]
          refine w_istore7 d126_51 rfl ?_
          refine w_aload_n d126_53 rfl ?_
          refine w_dloadS d126_54 (okg2.kd hdd) (fr134 okg2 hdd) ?_
          refine w_iload_n d126_57 rfl ?_
          refine w_baloadV (x := (b2i (inB (tgI t) i))) d126_58 (gi134 okg2 hdd (by omega)) ((congrFun (Mg2.ai ok ⟨by omega, by omega⟩ (nA _ ⟨by omega, by omega, by omega⟩ (Or.inr ⟨K34, n134⟩) n4y)) i).trans E1) ?_
          refine w_ifeq d126_59 (fun c59 => ?_) (fun c59 => ?_)
          · have bf : ¬ (inB (tgI t) i) = true := fun z => by rw [z] at c59; exact absurd c59 (by decide)
            refine w_aload_n d126_78 rfl ?_
            refine w_aload d126_79 rfl ?_
            refine w_iload d126_81 rfl ?_
            refine w_iload d126_83 rfl ?_
            refine w_callv4 d126_85 (by omega) rfl (okg2.kd hw) (by simp) (Nat.le_of_ble_eq_true rfl) ?_
            refine k_Wk_readSource (l := (ins.getD i [])) okg2 (by omega) hw r2 rr2 ⟨lg, le, by omega⟩ sc2 fc2 (fun h85 m85 e85_1 e85_2 => ?_)
            have ok85 := m85.ok
            have M85 := Mo.tr ok Mg2 m85 (fun x q => by rcases q with q | q | q | q <;> simp [q])
            refine w_ifne d126_88 (fun c88 => ?_) (fun c88 => ?_)
            · have yk : (srR (ins.getD i []) f (lineE (ins.getD i []) f) s2 f2).1 = true := by cases z : (srR (ins.getD i []) f (lineE (ins.getD i []) f) s2 f2).1 with
                | true => rfl
                | false => rw [z] at c88; exact absurd rfl c88
              refine w_iload d126_115 rfl ?_
              refine w_iconst d126_117 (by decide) ?_
              refine w_iadd d126_118 (by constructor <;> omega) ?_
              rw [show (((lineE (ins.getD i []) f) : Nat) : Int) + 1 = (((lineE (ins.getD i []) f) + 1 : Nat) : Int) by omega]
              refine w_istore5 d126_119 rfl ?_
              refine w_iinc6 d126_121 rfl (by constructor <;> omega) ?_
              refine w_goto d126_124 ?_
              refine w_less ?_ (IH34 _ (by omega) h85 (n - 1) ((lineE (ins.getD i []) f) + 1) (k + 1) (srR (ins.getD i []) f (lineE (ins.getD i []) f) s2 f2).2 f2 rfl M85 ⟨by omega, by omega, by omega⟩ e85_1 (e85_2 _ fc2) (j5.trans (cmI_s (by omega) (by omega) bf yk)) (by rw [m85.rb okg2 hy ny4]; exact j6) (by rw [show cap h85 y = cap g2 y from (m85.cp okg2 hy).2 ny4]; exact j7))
              exact ⟨Or.inr rfl, Or.inr rfl, Or.inr rfl, Or.inr rfl, Or.inr rfl, Or.inr rfl, Or.inr rfl, Or.inl rfl, trivial⟩
            · have nk : ¬ (srR (ins.getD i []) f (lineE (ins.getD i []) f) s2 f2).1 = true := fun z => by rw [z] at c88; exact absurd c88 (by decide)
              refine w_aload_n d126_91 rfl ?_
              obtain ⟨g92, v92, s92⟩ := tg.tx ok85 27 (by decide)
              refine w_getstaticS d126_92 v92 ?_
              refine w_callv2 d126_94 (by omega) rfl (ok85.kd hy) (by simp) (Nat.le_of_ble_eq_true rfl) ?_
              refine r_Row_addText (by omega) ok85 hy s92 (fun h94 m94 e94_1 e94_2 => ?_)
              have ok94 := m94.ok
              have M94 := Mo.tr ok M85 m94 (fun x e => (Or.inr (Or.inr (Or.inr (Or.inr (Or.inr (Or.inr e)))))))
              refine w_aload_n d126_97 rfl ?_
              refine w_iload_n d126_98 rfl ?_
              refine w_callv2 d126_99 (by omega) rfl (ok94.kd hy) (by simp) (Nat.le_of_ble_eq_true rfl) ?_
              refine r_Row_addNumber (by omega) ok94 hy (by omega) (fun h99 m99 e99_1 e99_2 => ?_)
              have ok99 := m99.ok
              have M99 := Mo.tr ok M94 m99 (fun x e => (Or.inr (Or.inr (Or.inr (Or.inr (Or.inr (Or.inr e)))))))
              refine w_aload_n d126_102 rfl ?_
              refine w_bipush d126_103 (by decide) ?_
              refine w_callv2 d126_105 (by omega) rfl (ok99.kd hy) (by simp) (Nat.le_of_ble_eq_true rfl) ?_
              refine r_Row_add ok99 hy (fun h105 m105 e105_1 e105_2 => ?_)
              have ok105 := m105.ok
              have M105 := Mo.tr ok M99 m105 (fun x e => (Or.inr (Or.inr (Or.inr (Or.inr (Or.inr (Or.inr e)))))))
              refine w_aload_n d126_108 rfl ?_
              refine w_iload d126_109 rfl ?_
              refine w_callv2 d126_111 (by omega) rfl (ok105.kd hy) (by simp) (Nat.le_of_ble_eq_true rfl) ?_
              refine r_Row_addNumber (by omega) ok105 hy (by omega) (fun h111 m111 e111_1 e111_2 => ?_)
              have ok111 := m111.ok
              have M111 := Mo.tr ok M105 m111 (fun x e => (Or.inr (Or.inr (Or.inr (Or.inr (Or.inr (Or.inr e)))))))
              refine w_return d126_114 ?_
              have ec := cmG_bad (m := ins.length - i) (by omega) (j5.trans (cmI_sx (by omega) (by omega) bf nk))
              rw [← i5] at ec
              refine kk h111 M111 ?_ ?_ ?_
              · rw [show cmW t ins = _ from ec]; exact ((((e85_1).y ok85 m94 hw ny).y ok94 m99 hw ny).y ok99 m105 hw ny).y ok105 m111 hw ny
              · rw [show cmW t ins = _ from ec, e111_1, e105_1, e105_2, e99_1, e99_2, e94_1, e94_2, m85.rb okg2 hy ny4, (m85.cp okg2 hy).2 ny4, j6, j7, addBs3, addBs3, addBs3]; unfold badT; first | done | rfl | simp
              · rw [e111_2, e105_2, e99_2, e94_2, (m85.cp okg2 hy).2 ny4]; exact j7
          · have bt : (inB (tgI t) i) = true := by cases z : (inB (tgI t) i) with
              | true => rfl
              | false => rw [z] at c59; exact absurd rfl c59
            refine w_aload_n d126_62 rfl ?_
            refine w_aload d126_63 rfl ?_
            refine w_iload d126_65 rfl ?_
            refine w_iload d126_67 rfl ?_
            refine w_callv4 d126_69 (by omega) rfl (okg2.kd hw) (by simp) (Nat.le_of_ble_eq_true rfl) ?_
            refine k_Wk_readFace (l := (ins.getD i [])) okg2 (by omega) hw r2 rr2 ⟨lg, le, by omega⟩ fc2 (fun h69 m69 e69_1 e69_2 => ?_)
            have ok69 := m69.ok
            have M69 := Mo.tr ok Mg2 m69 (fun x q => by rcases q with q | q | q <;> simp [q])
            refine w_ifne d126_72 (fun c72 => ?_) (fun c72 => ?_)
            · have yk : rfK (ins.getD i []) f (lineE (ins.getD i []) f) f2.length = true := by cases z : rfK (ins.getD i []) f (lineE (ins.getD i []) f) f2.length with
                | true => rfl
                | false => rw [z] at c72; exact absurd rfl c72
              refine w_iload d126_115 rfl ?_
              refine w_iconst d126_117 (by decide) ?_
              refine w_iadd d126_118 (by constructor <;> omega) ?_
              rw [show (((lineE (ins.getD i []) f) : Nat) : Int) + 1 = (((lineE (ins.getD i []) f) + 1 : Nat) : Int) by omega]
              refine w_istore5 d126_119 rfl ?_
              refine w_iinc6 d126_121 rfl (by constructor <;> omega) ?_
              refine w_goto d126_124 ?_
              refine w_less ?_ (IH34 _ (by omega) h69 (n - 1) ((lineE (ins.getD i []) f) + 1) (k + 1) s2 (rfL (ins.getD i []) f (lineE (ins.getD i []) f) f2) rfl M69 ⟨by omega, by omega, by omega⟩ (e69_2 _ sc2) e69_1 (j5.trans (cmI_f (by omega) (by omega) bt yk)) (by rw [m69.rb okg2 hy ny3]; exact j6) (by rw [show cap h69 y = cap g2 y from (m69.cp okg2 hy).2 ny3]; exact j7))
              exact ⟨Or.inr rfl, Or.inr rfl, Or.inr rfl, Or.inr rfl, Or.inr rfl, Or.inr rfl, Or.inr rfl, Or.inl rfl, trivial⟩
            · have nk : ¬ rfK (ins.getD i []) f (lineE (ins.getD i []) f) f2.length = true := fun z => by rw [z] at c72; exact absurd c72 (by decide)
              refine w_goto d126_75 ?_
              refine w_aload_n d126_91 rfl ?_
              obtain ⟨g92, v92, s92⟩ := tg.tx ok69 27 (by decide)
              refine w_getstaticS d126_92 v92 ?_
              refine w_callv2 d126_94 (by omega) rfl (ok69.kd hy) (by simp) (Nat.le_of_ble_eq_true rfl) ?_
              refine r_Row_addText (by omega) ok69 hy s92 (fun h94 m94 e94_1 e94_2 => ?_)
              have ok94 := m94.ok
              have M94 := Mo.tr ok M69 m94 (fun x e => (Or.inr (Or.inr (Or.inr (Or.inr (Or.inr (Or.inr e)))))))
              refine w_aload_n d126_97 rfl ?_
              refine w_iload_n d126_98 rfl ?_
              refine w_callv2 d126_99 (by omega) rfl (ok94.kd hy) (by simp) (Nat.le_of_ble_eq_true rfl) ?_
              refine r_Row_addNumber (by omega) ok94 hy (by omega) (fun h99 m99 e99_1 e99_2 => ?_)
              have ok99 := m99.ok
              have M99 := Mo.tr ok M94 m99 (fun x e => (Or.inr (Or.inr (Or.inr (Or.inr (Or.inr (Or.inr e)))))))
              refine w_aload_n d126_102 rfl ?_
              refine w_bipush d126_103 (by decide) ?_
              refine w_callv2 d126_105 (by omega) rfl (ok99.kd hy) (by simp) (Nat.le_of_ble_eq_true rfl) ?_
              refine r_Row_add ok99 hy (fun h105 m105 e105_1 e105_2 => ?_)
              have ok105 := m105.ok
              have M105 := Mo.tr ok M99 m105 (fun x e => (Or.inr (Or.inr (Or.inr (Or.inr (Or.inr (Or.inr e)))))))
              refine w_aload_n d126_108 rfl ?_
              refine w_iload d126_109 rfl ?_
              refine w_callv2 d126_111 (by omega) rfl (ok105.kd hy) (by simp) (Nat.le_of_ble_eq_true rfl) ?_
              refine r_Row_addNumber (by omega) ok105 hy (by omega) (fun h111 m111 e111_1 e111_2 => ?_)
              have ok111 := m111.ok
              have M111 := Mo.tr ok M105 m111 (fun x e => (Or.inr (Or.inr (Or.inr (Or.inr (Or.inr (Or.inr e)))))))
              refine w_return d126_114 ?_
              have ec := cmG_bad (m := ins.length - i) (by omega) (j5.trans (cmI_fx (by omega) (by omega) bt nk))
              rw [← i5] at ec
              refine kk h111 M111 ?_ ?_ ?_
              · rw [show cmW t ins = _ from ec]; exact ((((e69_2 _ sc2).y ok69 m94 hw ny).y ok94 m99 hw ny).y ok99 m105 hw ny).y ok105 m111 hw ny
              · rw [show cmW t ins = _ from ec, e111_1, e105_1, e105_2, e99_1, e99_2, e94_1, e94_2, m69.rb okg2 hy ny3, (m69.cp okg2 hy).2 ny3, j6, j7, addBs3, addBs3, addBs3]; unfold badT; first | done | rfl | simp
              · rw [e111_2, e105_2, e99_2, e94_2, (m69.cp okg2 hy).2 ny3]; exact j7
      refine w_less ?_ (L34 _ g ((ins.getD i []).length + 1) 0 0 ss fs rfl Mg ⟨by omega, by omega, by omega⟩ i2 i3 rfl i4.1 i4.2)
      exact ⟨Or.inr rfl, Or.inr rfl, Or.inr rfl, Or.inr rfl, Or.inr rfl, Or.inr rfl, Or.inr rfl, Or.inl rfl, trivial⟩
  refine w_less ?_ (L12 _ h7 0 [] [] rfl M7 (Nat.zero_le _) ⟨by rw [e7, FI_sFI, if_neg (fun z => absurd z.1 (by decide)), e2, FI_sFI, if_pos ⟨rfl, rfl⟩]; first | done | rfl, Nat.zero_le _, fun i hi => absurd hi (Nat.not_lt_zero _)⟩ ⟨by rw [e7, FI_sFI, if_pos ⟨rfl, rfl⟩]; first | done | rfl, Nat.zero_le _, fun i hi => absurd hi (Nat.not_lt_zero _)⟩ ⟨by rw [m7.rb ok2 hy (Ne.symm (ny w U_refl)), m2.rb ok hy (Ne.symm (ny w U_refl))], by rw [show cap h7 y = cap h2 y from (m7.cp ok2 hy).2 (Ne.symm (ny w U_refl)), show cap h2 y = cap h y from (m2.cp ok hy).2 (Ne.symm (ny w U_refl))]⟩ rfl)
  exact ⟨Or.inr rfl, Or.inr rfl, Or.inr rfl, Or.inr rfl, Or.inl rfl, Or.inl rfl, Or.inl rfl, Or.inl rfl, trivial⟩
