/-! what targets need -/
theorem tix_rg (ts : List (Bool × TgV)) (n : List Nat) : -1 ≤ tix ts n ∧ tix ts n < ts.length := by
  rcases srF_rg (p := fun i => tgN (tD ts i) == n) (n := ts.length) (i := 0) with e | ⟨j, -, j2, e, hp⟩ <;> unfold tix <;> omega
theorem tat_rg (ts : List (Bool × TgV)) (n : List Nat) : -1 ≤ tat ts n ∧ tat ts n < ts.length := by
  have := tix_rg ts n
  unfold tat ifH
  split <;> omega
theorem tat_H {ts : List (Bool × TgV)} {n : List Nat} (h : 0 ≤ tat ts n) : tH ts (tat ts n).toNat = true := by
  unfold tat ifH at h ⊢
  split
  · rename_i q; exact q.2
  · rename_i q; rw [if_neg q] at h; omega
/-- the target that input i of target u names, where both are there; else -1 -/
def inT (ts : List (Bool × TgV)) (u i : Nat) : Int := if u < ts.length ∧ i < (tgI (tD ts u)).length ∧ tH ts u = true ∧ inB (tgI (tD ts u)) i = true then tat ts (inN (tgI (tD ts u)) i) else -1
theorem inT_rg (ts : List (Bool × TgV)) (u i : Nat) : -1 ≤ inT ts u i ∧ inT ts u i < ts.length := by
  have := tat_rg ts (inN (tgI (tD ts u)) i)
  unfold inT
  split <;> omega
theorem inT_end {ts : List (Bool × TgV)} {u i : Nat} (h : (tgI (tD ts u)).length ≤ i) : inT ts u i = -1 := by unfold inT; rw [if_neg (by omega)]
theorem k_Plan_inputTargetN {S : Shp} {G : Nat → Option Nat} {d : Nat} {h : Hp} {Q : Option MV → Hp → Prop} {p t i : Nat} {ts : List (Bool × TgV)} (ok : Ok S h) (h1 : 1 ≤ d) (hp : sK S p = 4) (tc : TsC S h p ts) (kk : Q (some (vI (inT ts t i))) h) : Cl G d 78 [vR (some p), vI (t : Nat), vI (i : Nat)] h Q := by
  refine k_Plan_inputTarget ok h1 hp tc (qI ?_ kk)
  unfold inT
  rw [Int.toNat_natCast, Int.toNat_natCast]
  by_cases q : t < ts.length ∧ i < (tgI (tD ts t)).length ∧ tH ts t = true ∧ inB (tgI (tD ts t)) i = true
  · rw [if_pos q, if_pos ⟨by omega, by omega, by omega, by omega, q.2.2.1, q.2.2.2⟩]
  · rw [if_neg q, if_neg (fun z => q ⟨by omega, by omega, z.2.2.2.2.1, z.2.2.2.2.2⟩)]
def edge (ts : List (Bool × TgV)) (u v : Nat) : Prop := ∃ i, inT ts u i = (v : Nat)
def stp (ts : List (Bool × TgV)) : Nat → Nat → Nat → Prop
  | 0, t, u => t = u
  | n + 1, t, u => ∃ v, stp ts n t v ∧ edge ts v u
/-- t needs u -/
def Rc (ts : List (Bool × TgV)) (t u : Nat) : Prop := ∃ n, stp ts n t u
theorem Rc.refl (ts : List (Bool × TgV)) (t : Nat) : Rc ts t t := ⟨0, rfl⟩
theorem Rc.step {ts : List (Bool × TgV)} {t u v : Nat} (r : Rc ts t u) (e : edge ts u v) : Rc ts t v := by
  obtain ⟨n, s⟩ := r
  exact ⟨n + 1, u, s, e⟩
theorem Rc.ind {ts : List (Bool × TgV)} {t : Nat} {P : Nat → Prop} (h0 : P t) (hs : ∀ u v, Rc ts t u → P u → edge ts u v → P v) {u : Nat} (r : Rc ts t u) : P u := by
  obtain ⟨n, s⟩ := r
  induction n generalizing u with
  | zero => have e : t = u := s; rw [← e]; exact h0
  | succ n ih =>
    obtain ⟨v, s1, s2⟩ := s
    exact hs v u ⟨n, s1⟩ (ih s1) s2
def cnt1 (f : Nat → Int) : Nat → Nat
  | 0 => 0
  | n + 1 => cnt1 f n + (if f n = 1 then 1 else 0)
theorem cnt1_le (f : Nat → Int) : ∀ n, cnt1 f n ≤ n
  | 0 => Nat.le_refl _
  | n + 1 => by
    have := cnt1_le f n
    unfold cnt1
    split <;> omega
theorem cnt1_same {f f' : Nat → Int} : ∀ n, (∀ u, u < n → f' u = f u) → cnt1 f' n = cnt1 f n
  | 0, _ => rfl
  | n + 1, h => by
    unfold cnt1
    rw [cnt1_same n (fun u hu => h u (by omega)), h n (by omega)]
theorem cnt1_up {f f' : Nat → Int} {v : Nat} (h1 : f' v = 1) (h0 : f v ≠ 1) (hs : ∀ u, u ≠ v → f' u = f u) : ∀ n, v < n → cnt1 f' n = cnt1 f n + 1
  | 0, h => by omega
  | n + 1, h => by
    unfold cnt1
    by_cases q : v = n
    · subst q
      rw [if_pos h1, if_neg h0, cnt1_same v (fun u hu => hs u (by omega))]
    · rw [cnt1_up h1 h0 hs n (by omega), hs n (fun z => q z.symm)]
      omega
theorem cnt1_pos {f : Nat → Int} {t : Nat} (h1 : f t = 1) : ∀ n, t < n → 1 ≤ cnt1 f n
  | 0, h => by omega
  | n + 1, h => by
    unfold cnt1
    by_cases q : t = n
    · subst q; rw [if_pos h1]; omega
    · have := cnt1_pos h1 n (by omega); omega
theorem sArr {h : Hp} {b j : Nat} {v : Int} (i : Nat) : AI (sAI h b j v) b i = if i = j then v else AI h b i := by
  rw [AI_sAI]
  by_cases q : i = j
  · rw [if_pos ⟨rfl, q⟩, if_pos q]
  · rw [if_neg (fun z => q z.2), if_neg q]
theorem d58_0 : dc 58 0 = some (.iconst 0, 1) := by decide +kernel
theorem d58_1 : dc 58 1 = some (.istore_n 2, 2) := by decide +kernel
theorem d58_2 : dc 58 2 = some (.aload_n 0, 3) := by decide +kernel
theorem d58_3 : dc 58 3 = some (.arraylength, 4) := by decide +kernel
theorem d58_4 : dc 58 4 = some (.istore_n 3, 5) := by decide +kernel
theorem d58_5 : dc 58 5 = some (.iload_n 2, 6) := by decide +kernel
theorem d58_6 : dc 58 6 = some (.iload_n 3, 7) := by decide +kernel
theorem d58_7 : dc 58 7 = some (.if_icmp .ge ((20 : Nat) : Int), 10) := by decide +kernel
theorem d58_10 : dc 58 10 = some (.aload_n 0, 11) := by decide +kernel
theorem d58_11 : dc 58 11 = some (.iload_n 2, 12) := by decide +kernel
theorem d58_12 : dc 58 12 = some (.iload_n 1, 13) := by decide +kernel
theorem d58_13 : dc 58 13 = some (.iastore, 14) := by decide +kernel
theorem d58_14 : dc 58 14 = some (.iinc 2 1, 17) := by decide +kernel
theorem d58_17 : dc 58 17 = some (.goto ((5 : Nat) : Int), 20) := by decide +kernel
theorem d58_20 : dc 58 20 = some (.return_, 21) := by decide +kernel
theorem k_Arrays_fill {S : Shp} {G : Nat → Option Nat} {d : Nat} {h : Hp} {Q : Option MV → Hp → Prop} {v : Int} {f b n : Nat} (ok : Ok S h) (h1 : 0 ≤ d)  (hb : sK S b = kFld f) (hk : fk f = 40) (hl : fl f = n) (hn : n ≠ 0 ∧ n ≤ 100000) (hr : alo f ≤ v ∧ v ≤ ahi f)
    (kk : ∀ h', Mo S (fun y => y = sT S f b) h h' → (∀ j, j < n → AI h' (sT S f b) j = v) → Q none h') : Cl G d 58 [vR (some (sT S f b)), vI v] h Q := by
  show Wp G d 58 0 [some (vR (some (sT S f b))), some (vI v), none, none] [] h Q
  refine w_iconst d58_0 (by decide) ?_
  refine w_istore2 d58_1 rfl ?_
  refine w_aload_n d58_2 rfl ?_
  refine p_len d58_3 ok hb (by rw [hk]; rfl) hl hn.1 ?_
  refine w_istore3 d58_4 rfl ?_
  have L5 : ∀ (m5 : Nat) (g : Hp) (i : Nat), n - i = m5 → Mo S (fun x => x = (sT S f b)) h g → (i ≤ n) → (∀ j, j < i → AI g (sT S f b) j = v) → Wp G d 58 5 [some (vR (some (sT S f b))), some (vI v), some (vI (i : Nat)), some (vI (n : Nat))] [] g Q := by
    intro m5
    induction m5 using Nat.strongRecOn with | ind m5 IH5 => ?_
    intro g i hm5 Mg i1 i2
    have okg := Mg.ok
    refine w_iload_n d58_5 rfl ?_
    refine w_iload_n d58_6 rfl ?_
    refine w_icmpge d58_7 (fun c7 => ?_) (fun c7 => ?_)
    · refine w_return d58_20 ?_
      exact kk g Mg (fun j hj => i2 j (by omega))
    · refine w_aload_n d58_10 rfl ?_
      refine w_iload_n d58_11 rfl ?_
      refine w_iload_n d58_12 rfl ?_
      refine p_AI d58_13 okg hb hk hl (by omega) hr (fun h13 e13 m13 => ?_)
      have e13 : h13 = sAI g (sT S f b) i v := e13
      have ok13 := m13.ok
      have M13 := Mo.tr ok Mg m13 (fun x e => e)
      refine w_iinc2 d58_14 rfl (by constructor <;> omega) ?_
      refine w_goto d58_17 ?_
      refine w_less ?_ (IH5 _ (by omega) h13 (i + 1) rfl M13 (by omega) (fun j hj => by rw [e13, sArr]; split; rfl; exact i2 j (by omega)))
      exact ⟨Or.inr rfl, Or.inr rfl, Or.inr rfl, Or.inr rfl, trivial⟩
  have M0_ := Mo.refl (A := (fun x => x = (sT S f b))) ok
  refine w_less ?_ (L5 _ h 0 rfl M0_ (by omega) (fun j hj => by omega))
  exact ⟨Or.inr rfl, Or.inr rfl, Or.inr rfl, Or.inr rfl, trivial⟩
theorem d98_0 : dc 98 0 = some (.aload_n 2, 1) := by decide +kernel
theorem d98_1 : dc 98 1 = some (.iconst 0, 2) := by decide +kernel
theorem d98_2 : dc 98 2 = some (.invokevirtual 58, 5) := by decide +kernel
theorem d98_5 : dc 98 5 = some (.iload_n 1, 6) := by decide +kernel
theorem d98_6 : dc 98 6 = some (.ifCond .lt ((26 : Nat) : Int), 9) := by decide +kernel
theorem d98_9 : dc 98 9 = some (.iload_n 1, 10) := by decide +kernel
theorem d98_10 : dc 98 10 = some (.aload_n 0, 11) := by decide +kernel
theorem d98_11 : dc 98 11 = some (.getfield 391, 14) := by decide +kernel
theorem d98_14 : dc 98 14 = some (.if_icmp .ge ((26 : Nat) : Int), 17) := by decide +kernel
theorem d98_17 : dc 98 17 = some (.aload_n 2, 18) := by decide +kernel
theorem d98_18 : dc 98 18 = some (.arraylength, 19) := by decide +kernel
theorem d98_19 : dc 98 19 = some (.aload_n 0, 20) := by decide +kernel
theorem d98_20 : dc 98 20 = some (.getfield 391, 23) := by decide +kernel
theorem d98_23 : dc 98 23 = some (.if_icmp .ge ((27 : Nat) : Int), 26) := by decide +kernel
theorem d98_27 : dc 98 27 = some (.aload_n 2, 28) := by decide +kernel
theorem d98_28 : dc 98 28 = some (.iload_n 1, 29) := by decide +kernel
theorem d98_29 : dc 98 29 = some (.iconst 1, 30) := by decide +kernel
theorem d98_30 : dc 98 30 = some (.iastore, 31) := by decide +kernel
theorem d98_31 : dc 98 31 = some (.iconst 1, 32) := by decide +kernel
theorem d98_32 : dc 98 32 = some (.istore_n 3, 33) := by decide +kernel
theorem d98_33 : dc 98 33 = some (.iconst 0, 34) := by decide +kernel
theorem d98_34 : dc 98 34 = some (.istore 4, 36) := by decide +kernel
theorem d98_36 : dc 98 36 = some (.iload_n 3, 37) := by decide +kernel
theorem d98_37 : dc 98 37 = some (.ifCond .eq ((134 : Nat) : Int), 40) := by decide +kernel
theorem d98_40 : dc 98 40 = some (.iload 4, 42) := by decide +kernel
theorem d98_42 : dc 98 42 = some (.bipush 14, 44) := by decide +kernel
theorem d98_44 : dc 98 44 = some (.if_icmp .ge ((134 : Nat) : Int), 47) := by decide +kernel
theorem d98_47 : dc 98 47 = some (.iconst 0, 48) := by decide +kernel
theorem d98_48 : dc 98 48 = some (.istore_n 3, 49) := by decide +kernel
theorem d98_49 : dc 98 49 = some (.iconst 0, 50) := by decide +kernel
theorem d98_50 : dc 98 50 = some (.istore 5, 52) := by decide +kernel
theorem d98_52 : dc 98 52 = some (.iload 5, 54) := by decide +kernel
theorem d98_54 : dc 98 54 = some (.aload_n 0, 55) := by decide +kernel
theorem d98_55 : dc 98 55 = some (.getfield 391, 58) := by decide +kernel
theorem d98_58 : dc 98 58 = some (.if_icmp .ge ((128 : Nat) : Int), 61) := by decide +kernel
theorem d98_61 : dc 98 61 = some (.iconst 0, 62) := by decide +kernel
theorem d98_62 : dc 98 62 = some (.istore 6, 64) := by decide +kernel
theorem d98_64 : dc 98 64 = some (.aload_n 2, 65) := by decide +kernel
theorem d98_65 : dc 98 65 = some (.iload 5, 67) := by decide +kernel
theorem d98_67 : dc 98 67 = some (.iaload, 68) := by decide +kernel
theorem d98_68 : dc 98 68 = some (.iconst 1, 69) := by decide +kernel
theorem d98_69 : dc 98 69 = some (.if_icmp .ne ((122 : Nat) : Int), 72) := by decide +kernel
theorem d98_72 : dc 98 72 = some (.iload 6, 74) := by decide +kernel
theorem d98_74 : dc 98 74 = some (.aload_n 0, 75) := by decide +kernel
theorem d98_75 : dc 98 75 = some (.dload 392, 78) := by decide +kernel
theorem d98_78 : dc 98 78 = some (.iload 5, 80) := by decide +kernel
theorem d98_80 : dc 98 80 = some (.aaload, 81) := by decide +kernel
theorem d98_81 : dc 98 81 = some (.getfield 133, 84) := by decide +kernel
theorem d98_84 : dc 98 84 = some (.if_icmp .ge ((122 : Nat) : Int), 87) := by decide +kernel
theorem d98_87 : dc 98 87 = some (.aload_n 0, 88) := by decide +kernel
theorem d98_88 : dc 98 88 = some (.iload 5, 90) := by decide +kernel
theorem d98_90 : dc 98 90 = some (.iload 6, 92) := by decide +kernel
theorem d98_92 : dc 98 92 = some (.invokevirtual 78, 95) := by decide +kernel
theorem d98_95 : dc 98 95 = some (.istore 7, 97) := by decide +kernel
theorem d98_97 : dc 98 97 = some (.iload 7, 99) := by decide +kernel
theorem d98_99 : dc 98 99 = some (.ifCond .lt ((116 : Nat) : Int), 102) := by decide +kernel
theorem d98_102 : dc 98 102 = some (.aload_n 2, 103) := by decide +kernel
theorem d98_103 : dc 98 103 = some (.iload 7, 105) := by decide +kernel
theorem d98_105 : dc 98 105 = some (.iaload, 106) := by decide +kernel
theorem d98_106 : dc 98 106 = some (.ifCond .ne ((116 : Nat) : Int), 109) := by decide +kernel
theorem d98_109 : dc 98 109 = some (.aload_n 2, 110) := by decide +kernel
theorem d98_110 : dc 98 110 = some (.iload 7, 112) := by decide +kernel
theorem d98_112 : dc 98 112 = some (.iconst 1, 113) := by decide +kernel
theorem d98_113 : dc 98 113 = some (.iastore, 114) := by decide +kernel
theorem d98_114 : dc 98 114 = some (.iconst 1, 115) := by decide +kernel
theorem d98_115 : dc 98 115 = some (.istore_n 3, 116) := by decide +kernel
theorem d98_116 : dc 98 116 = some (.iinc 6 1, 119) := by decide +kernel
theorem d98_119 : dc 98 119 = some (.goto ((64 : Nat) : Int), 122) := by decide +kernel
theorem d98_122 : dc 98 122 = some (.iinc 5 1, 125) := by decide +kernel
theorem d98_125 : dc 98 125 = some (.goto ((52 : Nat) : Int), 128) := by decide +kernel
theorem d98_128 : dc 98 128 = some (.iinc 4 1, 131) := by decide +kernel
theorem d98_131 : dc 98 131 = some (.goto ((36 : Nat) : Int), 134) := by decide +kernel
theorem d98_134 : dc 98 134 = some (.return_, 135) := by decide +kernel
theorem k_Plan_markNeeds {S : Shp} {G : Nat → Option Nat} {d : Nat} {h : Hp} {Q : Option MV → Hp → Prop} {p : Nat} {t : Nat} {f b : Nat} (ok : Ok S h) (h1 : 2 ≤ d) (hp : sK S p = 4) {ts : List (Bool × TgV)} (tc : TsC S h p ts) (ht : t < ts.length) (hb : sK S b = kFld f) (hk : fk f = 40) (hl : fl f = 14) (hr : alo f ≤ 0 ∧ 1 ≤ ahi f) (hne : p ≠ sT S f b) (hnE : ∀ i y, i < ts.length → U S (sE S (sT S 392 p) i) y → ¬ y = sT S f b)
    (kk : ∀ h', Mo S (fun y => y = sT S f b) h h' → (∀ u, u < 14 → (AI h' (sT S f b) u = 1 ∧ Rc ts t u) ∨ (AI h' (sT S f b) u = 0 ∧ ¬ Rc ts t u)) → Q none h') : Cl G d 98 [vR (some p), vI (t : Nat), vR (some (sT S f b))] h Q := by
  show Wp G d 98 0 [some (vR (some p)), some (vI (t : Nat)), some (vR (some (sT S f b))), none, none, none, none, none] [] h Q
  have tc0 := tc
  have hl14 := tc.2.1
  refine w_aload_n d98_0 rfl ?_
  refine w_iconst d98_1 (by decide) ?_
  refine w_calls2 d98_2 (by omega) rfl rfl (by simp) (Nat.le_of_ble_eq_true rfl) ?_
  refine k_Arrays_fill ok (by omega) hb hk hl ⟨by omega, by omega⟩ ⟨by omega, by omega⟩ (fun h2 m2 e2_1 => ?_)
  have ok2 := m2.ok
  have M2 := Mo.tr ok (Mo.refl (A := (fun x => x = (sT S f b))) ok) m2 (fun x e => e)
  have tc2 := tc0.fr ok m2 hp (Or.inl hne) hnE
  refine w_iload_n d98_5 rfl ?_
  refine w_iflt d98_6 (fun c6 => ?_) (fun c6 => ?_)
  · omega
  · refine w_iload_n d98_9 rfl ?_
    refine w_aload_n d98_10 rfl ?_
    refine w_getI (x := (ts.length : Int)) d98_11 (ok2.kd hp) tc2.1 ?_
    refine w_icmpge d98_14 (fun c14 => ?_) (fun c14 => ?_)
    · omega
    · refine w_aload_n d98_17 rfl ?_
      refine p_len d98_18 ok2 hb (by rw [hk]; rfl) hl (by omega) ?_
      refine w_aload_n d98_19 rfl ?_
      refine w_getI (x := (ts.length : Int)) d98_20 (ok2.kd hp) tc2.1 ?_
      refine w_icmpge d98_23 (fun c23 => ?_) (fun c23 => ?_)
      · refine w_aload_n d98_27 rfl ?_
        refine w_iload_n d98_28 rfl ?_
        refine w_iconst d98_29 (by decide) ?_
        refine p_AI d98_30 ok2 hb hk hl (by omega) (by omega) (fun h30 e30 m30 => ?_)
        have e30 : h30 = sAI h2 (sT S f b) t 1 := e30
        have ok30 := m30.ok
        have M30 := Mo.tr ok M2 m30 (fun x e => e)
        refine w_iconst d98_31 (by decide) ?_
        refine w_istore3 d98_32 rfl ?_
        refine w_iconst d98_33 (by decide) ?_
        refine w_istore4 d98_34 rfl ?_
        have L36 : ∀ (m36 : Nat) (g : Hp) (r : Nat) (mr : Bool), 14 - r = m36 → Mo S (fun x => x = (sT S f b)) h g → (r ≤ 14) → (∀ u, u < 14 → AI g (sT S f b) u = 0 ∨ AI g (sT S f b) u = 1) → (AI g (sT S f b) t = 1) → (∀ u, u < 14 → AI g (sT S f b) u = 1 → u < ts.length ∧ Rc ts t u) → (mr = true → r + 1 ≤ cnt1 (AI g (sT S f b)) 14) → (mr = false → ∀ u, u < 14 → ∀ i, AI g (sT S f b) u = 1 → ∀ v : Nat, inT ts u i = (v : Nat) → AI g (sT S f b) v = 1) → Wp G d 98 36 [some (vR (some p)), some (vI (t : Nat)), some (vR (some (sT S f b))), some (vI (b2i mr)), some (vI (r : Nat)), none, none, none] [] g Q := by
          intro m36
          induction m36 using Nat.strongRecOn with | ind m36 IH36 => ?_
          intro g r mr hm36 Mg i1 i2 i3 i4 i5 i6
          have okg := Mg.ok
          have tcg := tc0.fr ok Mg hp (Or.inl hne) hnE
          refine w_iload_n d98_36 rfl ?_
          refine w_ifeq d98_37 (fun c37 => ?_) (fun c37 => ?_)
          · have b0 := b2i_f.mp c37
            refine w_return d98_134 ?_
            refine kk g Mg (fun u hu => ?_)
            by_cases q : AI g (sT S f b) u = 1
            · exact Or.inl ⟨q, (i4 u hu q).2⟩
            · refine Or.inr ⟨(i2 u hu).resolve_right q, fun rr => q ?_⟩
              refine Rc.ind (P := fun u => AI g (sT S f b) u = 1) i3 (fun u v ru hu1 he => ?_) rr
              obtain ⟨i, e⟩ := he
              have hlu : u < ts.length := by
                rcases Nat.lt_or_ge u ts.length with z | z
                · exact z
                · unfold inT at e; rw [if_neg (by omega)] at e; omega
              exact i6 b0 u (by omega) i hu1 v e
          · have b1 : mr = true := by cases mr <;> simp_all [b2i]
            have b5 := i5 b1
            refine w_iload d98_40 rfl ?_
            refine w_bipush d98_42 (by decide) ?_
            refine w_icmpge d98_44 (fun c44 => ?_) (fun c44 => ?_)
            · have := cnt1_le (AI g (sT S f b)) 14
              omega
            · refine w_iconst d98_47 (by decide) ?_
              refine w_istore3 d98_48 rfl ?_
              refine w_iconst d98_49 (by decide) ?_
              refine w_istore5 d98_50 rfl ?_
              have L52 : ∀ (m52 : Nat) (g2 : Hp) (u : Nat) (mr2 : Bool), ts.length - u = m52 → Mo S (fun x => x = (sT S f b)) h g2 → (u ≤ ts.length) → (∀ w, w < 14 → AI g2 (sT S f b) w = 0 ∨ AI g2 (sT S f b) w = 1) → (AI g2 (sT S f b) t = 1) → (∀ w, w < 14 → AI g2 (sT S f b) w = 1 → w < ts.length ∧ Rc ts t w) → (mr2 = true → r + 1 + 1 ≤ cnt1 (AI g2 (sT S f b)) 14) → (r + 1 ≤ cnt1 (AI g2 (sT S f b)) 14) → (mr2 = false → ∀ w, w < u → ∀ i, AI g2 (sT S f b) w = 1 → ∀ v : Nat, inT ts w i = (v : Nat) → AI g2 (sT S f b) v = 1) → Wp G d 98 52 [some (vR (some p)), some (vI (t : Nat)), some (vR (some (sT S f b))), some (vI (b2i mr2)), some (vI (r : Nat)), some (vI (u : Nat)), none, none] [] g2 Q := by
                intro m52
                induction m52 using Nat.strongRecOn with | ind m52 IH52 => ?_
                intro g2 u mr2 hm52 Mg2 j1 j2 j3 j4 j5 j6 j7
                have okg2 := Mg2.ok
                have tcg2 := tc0.fr ok Mg2 hp (Or.inl hne) hnE
                refine w_iload d98_52 rfl ?_
                refine w_aload_n d98_54 rfl ?_
                refine w_getI (x := (ts.length : Int)) d98_55 (okg2.kd hp) tcg2.1 ?_
                refine w_icmpge d98_58 (fun c58 => ?_) (fun c58 => ?_)
                · refine w_iinc4 d98_128 rfl (by constructor <;> omega) ?_
                  refine w_goto d98_131 ?_
                  refine w_less ?_ (IH36 _ (by omega) g2 (r + 1) mr2 rfl Mg2 (by omega) j2 j3 j4 (fun q => j5 q) (fun q u hu i q1 v q2 => j7 q u (by have := (j4 u hu q1).1; omega) i q1 v q2))
                  exact ⟨Or.inr rfl, Or.inr rfl, Or.inr rfl, Or.inr rfl, Or.inr rfl, Or.inl rfl, Or.inl rfl, Or.inl rfl, trivial⟩
                · have hu : u < ts.length := by omega
                  refine w_iconst d98_61 (by decide) ?_
                  refine w_istore6 d98_62 rfl ?_
                  have L64 : ∀ (m64 : Nat) (g3 : Hp) (i : Nat) (mr3 : Bool), 6 - i = m64 → Mo S (fun x => x = (sT S f b)) h g3 → (i ≤ 6) → (∀ w, w < 14 → AI g3 (sT S f b) w = 0 ∨ AI g3 (sT S f b) w = 1) → (AI g3 (sT S f b) t = 1) → (∀ w, w < 14 → AI g3 (sT S f b) w = 1 → w < ts.length ∧ Rc ts t w) → (mr3 = true → r + 1 + 1 ≤ cnt1 (AI g3 (sT S f b)) 14) → (r + 1 ≤ cnt1 (AI g3 (sT S f b)) 14) → (mr3 = false → ∀ w, w < u → ∀ i, AI g3 (sT S f b) w = 1 → ∀ v : Nat, inT ts w i = (v : Nat) → AI g3 (sT S f b) v = 1) → (mr3 = false → ∀ i2, i2 < i → AI g3 (sT S f b) u = 1 → ∀ v : Nat, inT ts u i2 = (v : Nat) → AI g3 (sT S f b) v = 1) → Wp G d 98 64 [some (vR (some p)), some (vI (t : Nat)), some (vR (some (sT S f b))), some (vI (b2i mr3)), some (vI (r : Nat)), some (vI (u : Nat)), some (vI (i : Nat)), none] [] g3 Q := by
                    intro m64
                    induction m64 using Nat.strongRecOn with | ind m64 IH64 => ?_
                    intro g3 i mr3 hm64 Mg3 l1 l2 l3 l4 l5 l6 l7 l8
                    have okg3 := Mg3.ok
                    have tcg3 := tc0.fr ok Mg3 hp (Or.inl hne) hnE
                    obtain ⟨a1, a2, a3⟩ := tcg3.2.2 u hu
                    have a6 := a2.2.2.2.2.2.2.2.2.2.2.2.2.1.1
                    refine w_aload_n d98_64 rfl ?_
                    refine w_iload d98_65 rfl ?_
                    refine w_ialoadN d98_67 (by have := g_ix (i := ((u : Nat) : Int)) okg3 hb (by omega) hl (by omega); rw [hk] at this; exact ⟨by rw [this.1]; rfl, this.2⟩) ?_
                    refine w_iconst d98_68 (by decide) ?_
                    refine w_icmpne d98_69 (fun c69 => ?_) (fun c69 => ?_)
                    · have l9 : mr3 = false → ∀ i2, AI g3 (sT S f b) u = 1 → ∀ v : Nat, inT ts u i2 = (v : Nat) → AI g3 (sT S f b) v = 1 := fun _ _ q => absurd q c69
                      refine w_iinc5 d98_122 rfl (by constructor <;> omega) ?_
                      refine w_goto d98_125 ?_
                      refine w_less ?_ (IH52 _ (by omega) g3 (u + 1) mr3 rfl Mg3 (by omega) l2 l3 l4 l5 l6 (fun q w hw i q1 v q2 => by
                          by_cases z : w = u
                          · subst z; exact l9 q i q1 v q2
                          · exact l7 q w (by omega) i q1 v q2))
                      exact ⟨Or.inr rfl, Or.inr rfl, Or.inr rfl, Or.inr rfl, Or.inr rfl, Or.inr rfl, Or.inl rfl, Or.inl rfl, trivial⟩
                    · have c69 : AI g3 (sT S f b) u = 1 := c69
                      refine w_iload d98_72 rfl ?_
                      refine w_aload_n d98_74 rfl ?_
                      refine w_dloadS d98_75 (okg3.kd hp) (fr392 okg3 hp) ?_
                      refine w_iload d98_78 rfl ?_
                      have k80 := kE392 okg3 hp (j := u) (by omega)
                      refine w_aaloadSN d98_80 (gi392 okg3 hp (by omega)) (er392 okg3 hp (by omega)) ?_
                      refine w_getI (x := ((tgI (tD ts u)).length : Int)) d98_81 (okg3.kd k80) a2.2.2.2.2.1 ?_
                      refine w_icmpge d98_84 (fun c84 => ?_) (fun c84 => ?_)
                      · have l9 : mr3 = false → ∀ i2, AI g3 (sT S f b) u = 1 → ∀ v : Nat, inT ts u i2 = (v : Nat) → AI g3 (sT S f b) v = 1 := fun z i2 q v e => by
                          by_cases y : i2 < i
                          · exact l8 z i2 y q v e
                          · rw [inT_end (by omega)] at e; omega
                        refine w_iinc5 d98_122 rfl (by constructor <;> omega) ?_
                        refine w_goto d98_125 ?_
                        refine w_less ?_ (IH52 _ (by omega) g3 (u + 1) mr3 rfl Mg3 (by omega) l2 l3 l4 l5 l6 (fun q w hw i q1 v q2 => by
                            by_cases z : w = u
                            · subst z; exact l9 q i q1 v q2
                            · exact l7 q w (by omega) i q1 v q2))
                        exact ⟨Or.inr rfl, Or.inr rfl, Or.inr rfl, Or.inr rfl, Or.inr rfl, Or.inr rfl, Or.inl rfl, Or.inl rfl, trivial⟩
                      · have hi : i < (tgI (tD ts u)).length := by omega
                        refine w_aload_n d98_87 rfl ?_
                        refine w_iload d98_88 rfl ?_
                        refine w_iload d98_90 rfl ?_
                        refine w_callv3 d98_92 (by omega) rfl (okg3.kd hp) (by simp) (Nat.le_of_ble_eq_true rfl) ?_
                        refine k_Plan_inputTargetN okg3 (by omega) hp tcg3 ?_
                        refine w_istore7 d98_95 rfl ?_
                        refine w_iload d98_97 rfl ?_
                        refine w_iflt d98_99 (fun c99 => ?_) (fun c99 => ?_)
                        · have n8 : mr3 = false → ∀ i2, i2 < i + 1 → AI g3 (sT S f b) u = 1 → ∀ v : Nat, inT ts u i2 = (v : Nat) → AI g3 (sT S f b) v = 1 := fun z i2 hi2 q v e => by
                            by_cases y : i2 = i
                            · subst y; omega
                            · exact l8 z i2 (by omega) q v e
                          refine w_iinc6 d98_116 rfl (by constructor <;> omega) ?_
                          refine w_goto d98_119 ?_
                          refine w_less ?_ (IH64 _ (by omega) g3 (i + 1) mr3 rfl Mg3 (by omega) l2 l3 l4 l5 l6 l7 n8)
                          exact ⟨Or.inr rfl, Or.inr rfl, Or.inr rfl, Or.inr rfl, Or.inr rfl, Or.inr rfl, Or.inr rfl, Or.inl rfl, trivial⟩
                        · have hvr := inT_rg ts u i
                          have hv : inT ts u i = (((inT ts u i).toNat : Nat) : Int) := by omega
                          generalize (inT ts u i).toNat = v at hv
                          rw [hv]
                          have hv14 : v < 14 := by omega
                          refine w_aload_n d98_102 rfl ?_
                          refine w_iload d98_103 rfl ?_
                          refine w_ialoadN d98_105 (by have := g_ix (i := ((v : Nat) : Int)) okg3 hb (by omega) hl (by omega); rw [hk] at this; exact ⟨by rw [this.1]; rfl, this.2⟩) ?_
                          refine w_ifne d98_106 (fun c106 => ?_) (fun c106 => ?_)
                          · have c106 : AI g3 (sT S f b) v ≠ 0 := c106
                            have n8 : mr3 = false → ∀ i2, i2 < i + 1 → AI g3 (sT S f b) u = 1 → ∀ v : Nat, inT ts u i2 = (v : Nat) → AI g3 (sT S f b) v = 1 := fun z i2 hi2 q w e => by
                              by_cases y : i2 = i
                              · subst y; have : w = v := by omega
                                subst this; exact (l2 w hv14).resolve_left c106
                              · exact l8 z i2 (by omega) q w e
                            refine w_iinc6 d98_116 rfl (by constructor <;> omega) ?_
                            refine w_goto d98_119 ?_
                            refine w_less ?_ (IH64 _ (by omega) g3 (i + 1) mr3 rfl Mg3 (by omega) l2 l3 l4 l5 l6 l7 n8)
                            exact ⟨Or.inr rfl, Or.inr rfl, Or.inr rfl, Or.inr rfl, Or.inr rfl, Or.inr rfl, Or.inr rfl, Or.inl rfl, trivial⟩
                          · have c106 : AI g3 (sT S f b) v = 0 := c106
                            refine w_aload_n d98_109 rfl ?_
                            refine w_iload d98_110 rfl ?_
                            refine w_iconst d98_112 (by decide) ?_
                            refine p_AI d98_113 okg3 hb hk hl (by omega) (by omega) (fun h113 e113 m113 => ?_)
                            have e113 : h113 = sAI g3 (sT S f b) v 1 := e113
                            have ok113 := m113.ok
                            have M113 := Mo.tr ok Mg3 m113 (fun x e => e)
                            refine w_iconst d98_114 (by decide) ?_
                            refine w_istore3 d98_115 rfl ?_
                            refine w_iinc6 d98_116 rfl (by constructor <;> omega) ?_
                            refine w_goto d98_119 ?_
                            have cu := cnt1_up (f := AI g3 (sT S f b)) (f' := AI h113 (sT S f b)) (v := v) (by rw [e113, sArr, if_pos rfl]) (by omega) (fun w hw => by rw [e113, sArr, if_neg hw]) 14 hv14
                            refine w_less ?_ (IH64 _ (by omega) h113 (i + 1) true rfl M113 (by omega) (fun w hw => by rw [e113, sArr]; split; exact Or.inr rfl; exact l2 w hw) (by rw [e113, sArr]; split; rfl; exact l3) (fun w hw q => by
                                rw [e113, sArr] at q
                                split at q
                                · rename_i z; subst z; exact ⟨by omega, (l4 u (by omega) c69).2.step ⟨i, hv⟩⟩
                                · exact l4 w hw q) (fun _ => by omega) (by omega) (fun q => by cases q) (fun q => by cases q))
                            exact ⟨Or.inr rfl, Or.inr rfl, Or.inr rfl, Or.inr rfl, Or.inr rfl, Or.inr rfl, Or.inr rfl, Or.inl rfl, trivial⟩
                  refine w_less ?_ (L64 _ g2 0 mr2 rfl Mg2 (by omega) j2 j3 j4 j5 j6 j7 (fun _ i2 h2 => by omega))
                  exact ⟨Or.inr rfl, Or.inr rfl, Or.inr rfl, Or.inr rfl, Or.inr rfl, Or.inr rfl, Or.inr rfl, Or.inl rfl, trivial⟩
              refine w_less ?_ (L52 _ g 0 false rfl Mg (by omega) i2 i3 i4 (fun q => by cases q) (by omega) (fun _ w hw => by omega))
              exact ⟨Or.inr rfl, Or.inr rfl, Or.inr rfl, Or.inr rfl, Or.inr rfl, Or.inr rfl, Or.inl rfl, Or.inl rfl, trivial⟩
        refine w_less ?_ (L36 _ h30 0 true rfl M30 (by omega) (fun u hu => by rw [e30, sArr, e2_1 u hu]; split <;> simp) (by rw [e30, sArr, if_pos rfl]) (fun u hu q => by
            rw [e30, sArr, e2_1 u hu] at q
            split at q
            · rename_i z; subst z; exact ⟨ht, Rc.refl _ _⟩
            · omega) (fun _ => cnt1_pos (by rw [e30, sArr, if_pos rfl]) 14 (by omega)) (fun q => by cases q))
        exact ⟨Or.inr rfl, Or.inr rfl, Or.inr rfl, Or.inr rfl, Or.inr rfl, Or.inl rfl, Or.inl rfl, Or.inl rfl, trivial⟩
      · omega
