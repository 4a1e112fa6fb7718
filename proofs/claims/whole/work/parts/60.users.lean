/-! users marked, circles -/
theorem inT_lt {ts : List (Bool × TgV)} {u i v : Nat} (e : inT ts u i = (v : Nat)) : u < ts.length ∧ v < ts.length := by
  have := inT_rg ts u i
  refine ⟨?_, by omega⟩
  rcases Nat.lt_or_ge u ts.length with z | z
  · exact z
  · unfold inT at e; rw [if_neg (by omega)] at e; omega
theorem Rc.back {ts : List (Bool × TgV)} {P : Nat → Prop} {t u : Nat} (h0 : P u) (hs : ∀ u v, P v → edge ts u v → P u) (r : Rc ts t u) : P t := by
  obtain ⟨n, s⟩ := r
  induction n generalizing u with
  | zero => have e : t = u := s; rw [e]; exact h0
  | succ n ih =>
    obtain ⟨v, s1, s2⟩ := s
    exact ih (hs v u h0 s2) s1
theorem Rc.front {ts : List (Bool × TgV)} {u v w : Nat} (e : edge ts u v) (r : Rc ts v w) : Rc ts u w := by
  refine Rc.ind (P := fun w => Rc ts u w) ((Rc.refl ts u).step e) (fun a b _ ih eb => ih.step eb) r
theorem d77_0 : dc 77 0 = some (.iconst 1, 1) := by decide +kernel
theorem d77_1 : dc 77 1 = some (.istore_n 1, 2) := by decide +kernel
theorem d77_2 : dc 77 2 = some (.iconst 0, 3) := by decide +kernel
theorem d77_3 : dc 77 3 = some (.istore_n 2, 4) := by decide +kernel
theorem d77_4 : dc 77 4 = some (.iload_n 1, 5) := by decide +kernel
theorem d77_5 : dc 77 5 = some (.ifCond .eq ((104 : Nat) : Int), 8) := by decide +kernel
theorem d77_8 : dc 77 8 = some (.iload_n 2, 9) := by decide +kernel
theorem d77_9 : dc 77 9 = some (.bipush 14, 11) := by decide +kernel
theorem d77_11 : dc 77 11 = some (.if_icmp .ge ((104 : Nat) : Int), 14) := by decide +kernel
theorem d77_14 : dc 77 14 = some (.iconst 0, 15) := by decide +kernel
theorem d77_15 : dc 77 15 = some (.istore_n 1, 16) := by decide +kernel
theorem d77_16 : dc 77 16 = some (.iconst 0, 17) := by decide +kernel
theorem d77_17 : dc 77 17 = some (.istore_n 3, 18) := by decide +kernel
theorem d77_18 : dc 77 18 = some (.iload_n 3, 19) := by decide +kernel
theorem d77_19 : dc 77 19 = some (.aload_n 0, 20) := by decide +kernel
theorem d77_20 : dc 77 20 = some (.getfield 391, 23) := by decide +kernel
theorem d77_23 : dc 77 23 = some (.if_icmp .ge ((98 : Nat) : Int), 26) := by decide +kernel
theorem d77_26 : dc 77 26 = some (.iconst 0, 27) := by decide +kernel
theorem d77_27 : dc 77 27 = some (.istore 4, 29) := by decide +kernel
theorem d77_29 : dc 77 29 = some (.aload_n 0, 30) := by decide +kernel
theorem d77_30 : dc 77 30 = some (.dload 393, 33) := by decide +kernel
theorem d77_33 : dc 77 33 = some (.iload_n 3, 34) := by decide +kernel
theorem d77_34 : dc 77 34 = some (.iaload, 35) := by decide +kernel
theorem d77_35 : dc 77 35 = some (.ifCond .ne ((92 : Nat) : Int), 38) := by decide +kernel
theorem d77_38 : dc 77 38 = some (.iload 4, 40) := by decide +kernel
theorem d77_40 : dc 77 40 = some (.aload_n 0, 41) := by decide +kernel
theorem d77_41 : dc 77 41 = some (.dload 392, 44) := by decide +kernel
theorem d77_44 : dc 77 44 = some (.iload_n 3, 45) := by decide +kernel
theorem d77_45 : dc 77 45 = some (.aaload, 46) := by decide +kernel
theorem d77_46 : dc 77 46 = some (.getfield 133, 49) := by decide +kernel
theorem d77_49 : dc 77 49 = some (.if_icmp .ge ((92 : Nat) : Int), 52) := by decide +kernel
theorem d77_52 : dc 77 52 = some (.aload_n 0, 53) := by decide +kernel
theorem d77_53 : dc 77 53 = some (.iload_n 3, 54) := by decide +kernel
theorem d77_54 : dc 77 54 = some (.iload 4, 56) := by decide +kernel
theorem d77_56 : dc 77 56 = some (.invokevirtual 78, 59) := by decide +kernel
theorem d77_59 : dc 77 59 = some (.istore 5, 61) := by decide +kernel
theorem d77_61 : dc 77 61 = some (.iload 5, 63) := by decide +kernel
theorem d77_63 : dc 77 63 = some (.ifCond .lt ((86 : Nat) : Int), 66) := by decide +kernel
theorem d77_66 : dc 77 66 = some (.aload_n 0, 67) := by decide +kernel
theorem d77_67 : dc 77 67 = some (.dload 393, 70) := by decide +kernel
theorem d77_70 : dc 77 70 = some (.iload 5, 72) := by decide +kernel
theorem d77_72 : dc 77 72 = some (.iaload, 73) := by decide +kernel
theorem d77_73 : dc 77 73 = some (.iconst 1, 74) := by decide +kernel
theorem d77_74 : dc 77 74 = some (.if_icmp .ne ((86 : Nat) : Int), 77) := by decide +kernel
theorem d77_77 : dc 77 77 = some (.aload_n 0, 78) := by decide +kernel
theorem d77_78 : dc 77 78 = some (.dload 393, 81) := by decide +kernel
theorem d77_81 : dc 77 81 = some (.iload_n 3, 82) := by decide +kernel
theorem d77_82 : dc 77 82 = some (.iconst 1, 83) := by decide +kernel
theorem d77_83 : dc 77 83 = some (.iastore, 84) := by decide +kernel
theorem d77_84 : dc 77 84 = some (.iconst 1, 85) := by decide +kernel
theorem d77_85 : dc 77 85 = some (.istore_n 1, 86) := by decide +kernel
theorem d77_86 : dc 77 86 = some (.iinc 4 1, 89) := by decide +kernel
theorem d77_89 : dc 77 89 = some (.goto ((29 : Nat) : Int), 92) := by decide +kernel
theorem d77_92 : dc 77 92 = some (.iinc 3 1, 95) := by decide +kernel
theorem d77_95 : dc 77 95 = some (.goto ((18 : Nat) : Int), 98) := by decide +kernel
theorem d77_98 : dc 77 98 = some (.iinc 2 1, 101) := by decide +kernel
theorem d77_101 : dc 77 101 = some (.goto ((4 : Nat) : Int), 104) := by decide +kernel
theorem d77_104 : dc 77 104 = some (.return_, 105) := by decide +kernel
theorem k_Plan_markUsers {S : Shp} {G : Nat → Option Nat} {d : Nat} {h : Hp} {Q : Option MV → Hp → Prop} {p : Nat}  (ok : Ok S h) (h1 : 2 ≤ d) (hp : sK S p = 4) {ts : List (Bool × TgV)} {m0 : Nat → Int} (tc : TsC S h p ts) (hm : ∀ u, u < ts.length → AI h (sT S 393 p) u = m0 u ∧ (m0 u = 0 ∨ m0 u = 1))
    (kk : ∀ h', Mo S (fun y => y = sT S 393 p) h h' → (∀ u, u < ts.length → (AI h' (sT S 393 p) u = 1 ∧ ∃ z, z < ts.length ∧ m0 z = 1 ∧ Rc ts u z) ∨ (AI h' (sT S 393 p) u = 0 ∧ ¬ ∃ z, z < ts.length ∧ m0 z = 1 ∧ Rc ts u z)) → Q none h') : Cl G d 77 [vR (some p)] h Q := by
  show Wp G d 77 0 [some (vR (some p)), none, none, none, none, none] [] h Q
  have tc0 := tc
  have hl14 := tc.2.1
  have hne : p ≠ sT S 393 p := fun q => ok.so.pT (by decide) q.symm
  have hnE : ∀ i y, i < ts.length → U S (sE S (sT S 392 p) i) y → ¬ y = sT S 393 p := fun i y hi u q => by
    subst q
    exact (ok.so.defN (f := 393) (by omega) (by decide) (by decide)).2.1 u
  refine w_iconst d77_0 (by decide) ?_
  refine w_istore1 d77_1 rfl ?_
  refine w_iconst d77_2 (by decide) ?_
  refine w_istore2 d77_3 rfl ?_
  have L4 : ∀ (m4 : Nat) (g : Hp) (r : Nat) (mr : Bool), 14 - r = m4 → Mo S (fun x => x = (sT S 393 p)) h g → (r ≤ 14) → (∀ w, w < ts.length → AI g (sT S 393 p) w = 0 ∨ AI g (sT S 393 p) w = 1) → (∀ w, w < ts.length → m0 w = 1 → AI g (sT S 393 p) w = 1) → (∀ w, w < ts.length → AI g (sT S 393 p) w = 1 → ∃ z, z < ts.length ∧ m0 z = 1 ∧ Rc ts w z) → (mr = true → r = 0 ∨ r + 1 ≤ cnt1 (AI g (sT S 393 p)) ts.length) → (mr = false → ∀ u, u < ts.length → ∀ i, AI g (sT S 393 p) u = 0 → ∀ v : Nat, inT ts u i = (v : Nat) → AI g (sT S 393 p) v ≠ 1) → Wp G d 77 4 [some (vR (some p)), some (vI (b2i mr)), some (vI (r : Nat)), none, none, none] [] g Q := by
    intro m4
    induction m4 using Nat.strongRecOn with | ind m4 IH4 => ?_
    intro g r mr hm4 Mg i1 i2 i3 i4 i5 i6
    have okg := Mg.ok
    refine w_iload_n d77_4 rfl ?_
    refine w_ifeq d77_5 (fun c5 => ?_) (fun c5 => ?_)
    · have b0 := b2i_f.mp c5
      refine w_return d77_104 ?_
      refine kk g Mg (fun u hu => ?_)
      by_cases q : AI g (sT S 393 p) u = 1
      · exact Or.inl ⟨q, i4 u hu q⟩
      · refine Or.inr ⟨(i2 u hu).resolve_right q, fun ⟨z, z1, z2, z3⟩ => q ?_⟩
        refine Rc.back (P := fun u => AI g (sT S 393 p) u = 1) (i3 z z1 z2) (fun u v pv he => ?_) z3
        obtain ⟨i, e⟩ := he
        have hlt := inT_lt e
        exact (i2 u hlt.1).resolve_left (fun q0 => i6 b0 u hlt.1 i q0 v e pv)
    · have b1 : mr = true := by cases mr <;> simp_all [b2i]
      have b5 := i5 b1
      refine w_iload_n d77_8 rfl ?_
      refine w_bipush d77_9 (by decide) ?_
      refine w_icmpge d77_11 (fun c11 => ?_) (fun c11 => ?_)
      · have := cnt1_le (AI g (sT S 393 p)) ts.length
        omega
      · refine w_iconst d77_14 (by decide) ?_
        refine w_istore1 d77_15 rfl ?_
        refine w_iconst d77_16 (by decide) ?_
        refine w_istore3 d77_17 rfl ?_
        have L18 : ∀ (m18 : Nat) (g2 : Hp) (u : Nat) (mr2 : Bool), ts.length - u = m18 → Mo S (fun x => x = (sT S 393 p)) h g2 → (u ≤ ts.length) → (∀ w, w < ts.length → AI g2 (sT S 393 p) w = 0 ∨ AI g2 (sT S 393 p) w = 1) → (∀ w, w < ts.length → m0 w = 1 → AI g2 (sT S 393 p) w = 1) → (∀ w, w < ts.length → AI g2 (sT S 393 p) w = 1 → ∃ z, z < ts.length ∧ m0 z = 1 ∧ Rc ts w z) → (mr2 = true → r + 1 + 1 ≤ cnt1 (AI g2 (sT S 393 p)) ts.length) → (r = 0 ∨ r + 1 ≤ cnt1 (AI g2 (sT S 393 p)) ts.length) → (mr2 = false → ∀ w, w < u → ∀ i, AI g2 (sT S 393 p) w = 0 → ∀ v : Nat, inT ts w i = (v : Nat) → AI g2 (sT S 393 p) v ≠ 1) → Wp G d 77 18 [some (vR (some p)), some (vI (b2i mr2)), some (vI (r : Nat)), some (vI (u : Nat)), none, none] [] g2 Q := by
          intro m18
          induction m18 using Nat.strongRecOn with | ind m18 IH18 => ?_
          intro g2 u mr2 hm18 Mg2 j1 j2 j3 j4 j5 j6 j7
          have okg2 := Mg2.ok
          have tcg2 := tc0.fr ok Mg2 hp (Or.inl hne) hnE
          refine w_iload_n d77_18 rfl ?_
          refine w_aload_n d77_19 rfl ?_
          refine w_getI (x := (ts.length : Int)) d77_20 (okg2.kd hp) tcg2.1 ?_
          refine w_icmpge d77_23 (fun c23 => ?_) (fun c23 => ?_)
          · have uu : u = ts.length := by omega
            refine w_iinc2 d77_98 rfl (by constructor <;> omega) ?_
            refine w_goto d77_101 ?_
            refine w_less ?_ (IH4 _ (by omega) g2 (r + 1) mr2 rfl Mg2 (by omega) j2 j3 j4 (fun q => Or.inr (j5 q)) (fun q u hu i q1 v q2 => j7 q u (by omega) i q1 v q2))
            exact ⟨Or.inr rfl, Or.inr rfl, Or.inr rfl, Or.inl rfl, Or.inl rfl, Or.inl rfl, trivial⟩
          · have hu : u < ts.length := by omega
            refine w_iconst d77_26 (by decide) ?_
            refine w_istore4 d77_27 rfl ?_
            have L29 : ∀ (m29 : Nat) (g3 : Hp) (i : Nat) (mr3 : Bool), 6 - i = m29 → Mo S (fun x => x = (sT S 393 p)) h g3 → (i ≤ 6) → (∀ w, w < ts.length → AI g3 (sT S 393 p) w = 0 ∨ AI g3 (sT S 393 p) w = 1) → (∀ w, w < ts.length → m0 w = 1 → AI g3 (sT S 393 p) w = 1) → (∀ w, w < ts.length → AI g3 (sT S 393 p) w = 1 → ∃ z, z < ts.length ∧ m0 z = 1 ∧ Rc ts w z) → (mr3 = true → r + 1 + 1 ≤ cnt1 (AI g3 (sT S 393 p)) ts.length) → (r = 0 ∨ r + 1 ≤ cnt1 (AI g3 (sT S 393 p)) ts.length) → (mr3 = false → ∀ w, w < u → ∀ i, AI g3 (sT S 393 p) w = 0 → ∀ v : Nat, inT ts w i = (v : Nat) → AI g3 (sT S 393 p) v ≠ 1) → (mr3 = false → ∀ i2, i2 < i → AI g3 (sT S 393 p) u = 0 → ∀ v : Nat, inT ts u i2 = (v : Nat) → AI g3 (sT S 393 p) v ≠ 1) → Wp G d 77 29 [some (vR (some p)), some (vI (b2i mr3)), some (vI (r : Nat)), some (vI (u : Nat)), some (vI (i : Nat)), none] [] g3 Q := by
              intro m29
              induction m29 using Nat.strongRecOn with | ind m29 IH29 => ?_
              intro g3 i mr3 hm29 Mg3 l1 l2 l3 l4 l5 l6 l7 l8
              have okg3 := Mg3.ok
              have tcg3 := tc0.fr ok Mg3 hp (Or.inl hne) hnE
              obtain ⟨a1, a2, a3⟩ := tcg3.2.2 u hu
              have a6 := a2.2.2.2.2.2.2.2.2.2.2.2.2.1.1
              refine w_aload_n d77_29 rfl ?_
              refine w_dloadS d77_30 (okg3.kd hp) (fr393 okg3 hp) ?_
              refine w_iload_n d77_33 rfl ?_
              refine w_ialoadN d77_34 (gi393 okg3 hp (by omega)) ?_
              have r34 := ra393 okg3 hp u
              refine w_ifne d77_35 (fun c35 => ?_) (fun c35 => ?_)
              · have c35 : AI g3 (sT S 393 p) u ≠ 0 := c35
                have l9 : mr3 = false → ∀ i2, AI g3 (sT S 393 p) u = 0 → ∀ v : Nat, inT ts u i2 = (v : Nat) → AI g3 (sT S 393 p) v ≠ 1 := fun _ _ q => absurd q c35
                refine w_iinc3 d77_92 rfl (by constructor <;> omega) ?_
                refine w_goto d77_95 ?_
                refine w_less ?_ (IH18 _ (by omega) g3 (u + 1) mr3 rfl Mg3 (by omega) l2 l3 l4 l5 l6 (fun q w hw i q1 v q2 => by
                  by_cases z : w = u
                  · subst z; exact l9 q i q1 v q2
                  · exact l7 q w (by omega) i q1 v q2))
                exact ⟨Or.inr rfl, Or.inr rfl, Or.inr rfl, Or.inr rfl, Or.inl rfl, Or.inl rfl, trivial⟩
              · have c35 : AI g3 (sT S 393 p) u = 0 := c35
                refine w_iload d77_38 rfl ?_
                refine w_aload_n d77_40 rfl ?_
                refine w_dloadS d77_41 (okg3.kd hp) (fr392 okg3 hp) ?_
                refine w_iload_n d77_44 rfl ?_
                have k45 := kE392 okg3 hp (j := u) (by omega)
                refine w_aaloadSN d77_45 (gi392 okg3 hp (by omega)) (er392 okg3 hp (by omega)) ?_
                refine w_getI (x := ((tgI (tD ts u)).length : Int)) d77_46 (okg3.kd k45) a2.2.2.2.2.1 ?_
                refine w_icmpge d77_49 (fun c49 => ?_) (fun c49 => ?_)
                · have l9 : mr3 = false → ∀ i2, AI g3 (sT S 393 p) u = 0 → ∀ v : Nat, inT ts u i2 = (v : Nat) → AI g3 (sT S 393 p) v ≠ 1 := fun z i2 q v e => by
                    by_cases y : i2 < i
                    · exact l8 z i2 y q v e
                    · rw [inT_end (by omega)] at e; omega
                  refine w_iinc3 d77_92 rfl (by constructor <;> omega) ?_
                  refine w_goto d77_95 ?_
                  refine w_less ?_ (IH18 _ (by omega) g3 (u + 1) mr3 rfl Mg3 (by omega) l2 l3 l4 l5 l6 (fun q w hw i q1 v q2 => by
                    by_cases z : w = u
                    · subst z; exact l9 q i q1 v q2
                    · exact l7 q w (by omega) i q1 v q2))
                  exact ⟨Or.inr rfl, Or.inr rfl, Or.inr rfl, Or.inr rfl, Or.inl rfl, Or.inl rfl, trivial⟩
                · have hi : i < (tgI (tD ts u)).length := by omega
                  refine w_aload_n d77_52 rfl ?_
                  refine w_iload_n d77_53 rfl ?_
                  refine w_iload d77_54 rfl ?_
                  refine w_callv3 d77_56 (by omega) rfl (okg3.kd hp) (by simp) (Nat.le_of_ble_eq_true rfl) ?_
                  refine k_Plan_inputTargetN okg3 (by omega) hp tcg3 ?_
                  refine w_istore5 d77_59 rfl ?_
                  refine w_iload d77_61 rfl ?_
                  refine w_iflt d77_63 (fun c63 => ?_) (fun c63 => ?_)
                  · have n8 : mr3 = false → ∀ i2, i2 < i + 1 → AI g3 (sT S 393 p) u = 0 → ∀ v : Nat, inT ts u i2 = (v : Nat) → AI g3 (sT S 393 p) v ≠ 1 := fun z i2 hi2 q v e => by
                      by_cases y : i2 = i
                      · subst y; omega
                      · exact l8 z i2 (by omega) q v e
                    refine w_iinc4 d77_86 rfl (by constructor <;> omega) ?_
                    refine w_goto d77_89 ?_
                    refine w_less ?_ (IH29 _ (by omega) g3 (i + 1) mr3 rfl Mg3 (by omega) l2 l3 l4 l5 l6 l7 n8)
                    exact ⟨Or.inr rfl, Or.inr rfl, Or.inr rfl, Or.inr rfl, Or.inr rfl, Or.inl rfl, trivial⟩
                  · have hvr := inT_rg ts u i
                    have hv : inT ts u i = (((inT ts u i).toNat : Nat) : Int) := by omega
                    generalize (inT ts u i).toNat = v at hv
                    rw [hv]
                    have hv14 : v < 14 := by omega
                    refine w_aload_n d77_66 rfl ?_
                    refine w_dloadS d77_67 (okg3.kd hp) (fr393 okg3 hp) ?_
                    refine w_iload d77_70 rfl ?_
                    refine w_ialoadN d77_72 (gi393 okg3 hp (by omega)) ?_
                    have r72 := ra393 okg3 hp v
                    refine w_iconst d77_73 (by decide) ?_
                    refine w_icmpne d77_74 (fun c74 => ?_) (fun c74 => ?_)
                    · have c74 : AI g3 (sT S 393 p) v ≠ 1 := c74
                      have n8 : mr3 = false → ∀ i2, i2 < i + 1 → AI g3 (sT S 393 p) u = 0 → ∀ v : Nat, inT ts u i2 = (v : Nat) → AI g3 (sT S 393 p) v ≠ 1 := fun z i2 hi2 q w e => by
                        by_cases y : i2 = i
                        · subst y; have : w = v := by omega
                          subst this; exact c74
                        · exact l8 z i2 (by omega) q w e
                      refine w_iinc4 d77_86 rfl (by constructor <;> omega) ?_
                      refine w_goto d77_89 ?_
                      refine w_less ?_ (IH29 _ (by omega) g3 (i + 1) mr3 rfl Mg3 (by omega) l2 l3 l4 l5 l6 l7 n8)
                      exact ⟨Or.inr rfl, Or.inr rfl, Or.inr rfl, Or.inr rfl, Or.inr rfl, Or.inl rfl, trivial⟩
                    · have c74 : AI g3 (sT S 393 p) v = 1 := c74
                      refine w_aload_n d77_77 rfl ?_
                      refine w_dloadS d77_78 (okg3.kd hp) (fr393 okg3 hp) ?_
                      refine w_iload_n d77_81 rfl ?_
                      refine w_iconst d77_82 (by decide) ?_
                      refine wa393 d77_83 okg3 hp (by omega) (by omega) (fun h83 e83 m83 => ?_)
                      have e83 : h83 = sAI g3 (sT S 393 p) u 1 := e83
                      have ok83 := m83.ok
                      have M83 := Mo.tr ok Mg3 m83 (fun x e => e)
                      refine w_iconst d77_84 (by decide) ?_
                      refine w_istore1 d77_85 rfl ?_
                      refine w_iinc4 d77_86 rfl (by constructor <;> omega) ?_
                      refine w_goto d77_89 ?_
                      have cu := cnt1_up (f := AI g3 (sT S 393 p)) (f' := AI h83 (sT S 393 p)) (v := u) (by rw [e83, sArr, if_pos rfl]) (by omega) (fun w hw => by rw [e83, sArr, if_neg hw]) ts.length hu
                      have cp := cnt1_pos (f := AI g3 (sT S 393 p)) c74 ts.length (by omega)
                      refine w_less ?_ (IH29 _ (by omega) h83 (i + 1) true rfl M83 (by omega) (fun w hw => by rw [e83, sArr]; split; exact Or.inr rfl; exact l2 w hw) (fun w hw q => by rw [e83, sArr]; split; rfl; exact l3 w hw q) (fun w hw q => by
                        rw [e83, sArr] at q
                        split at q
                        · rename_i z; subst z
                          obtain ⟨z, z1, z2, z3⟩ := l4 v (by omega) c74
                          exact ⟨z, z1, z2, z3.front ⟨i, hv⟩⟩
                        · exact l4 w hw q) (fun _ => by omega) (by omega) (fun q => by cases q) (fun q => by cases q))
                      exact ⟨Or.inr rfl, Or.inr rfl, Or.inr rfl, Or.inr rfl, Or.inr rfl, Or.inl rfl, trivial⟩
            refine w_less ?_ (L29 _ g2 0 mr2 rfl Mg2 (by omega) j2 j3 j4 j5 j6 j7 (fun _ i2 h2 => by omega))
            exact ⟨Or.inr rfl, Or.inr rfl, Or.inr rfl, Or.inr rfl, Or.inr rfl, Or.inl rfl, trivial⟩
        refine w_less ?_ (L18 _ g 0 false rfl Mg (by omega) i2 i3 i4 (fun q => by cases q) b5 (fun _ w hw => by omega))
        exact ⟨Or.inr rfl, Or.inr rfl, Or.inr rfl, Or.inr rfl, Or.inl rfl, Or.inl rfl, trivial⟩
  have M0_ := Mo.refl (A := (fun x => x = (sT S 393 p))) ok
  refine w_less ?_ (L4 _ h 0 true rfl M0_ (by omega) (fun w hw => by rw [(hm w hw).1]; exact (hm w hw).2) (fun w hw q => by rw [(hm w hw).1]; exact q) (fun w hw q => ⟨w, hw, by rw [← (hm w hw).1]; exact q, Rc.refl _ _⟩) (fun _ => Or.inl rfl) (fun q => by cases q))
  exact ⟨Or.inr rfl, Or.inr rfl, Or.inr rfl, Or.inl rfl, Or.inl rfl, Or.inl rfl, trivial⟩
/-- a target would need itself -/
def circV (ts : List (Bool × TgV)) (t : TgV) : Prop := namesT (tgI t) (tgN t) = true ∨ ∃ i, i < (tgI t).length ∧ inB (tgI t) i = true ∧ 0 ≤ tat ts (inN (tgI t) i) ∧ ∃ z, z < ts.length ∧ (tH ts z = true ∧ namesT (tgI (tD ts z)) (tgN t) = true) ∧ Rc ts (tat ts (inN (tgI t) i)).toNat z
theorem d75_0 : dc 75 0 = some (.aload_n 1, 1) := by decide +kernel
theorem d75_1 : dc 75 1 = some (.aload_n 1, 2) := by decide +kernel
theorem d75_2 : dc 75 2 = some (.fload 129, 5) := by decide +kernel
theorem d75_5 : dc 75 5 = some (.invokevirtual 76, 8) := by decide +kernel
theorem d75_8 : dc 75 8 = some (.ifCond .eq ((13 : Nat) : Int), 11) := by decide +kernel
theorem d75_11 : dc 75 11 = some (.iconst 1, 12) := by decide +kernel
theorem d75_12 : dc 75 12 = some (.freturn, 13) := by decide +kernel
theorem d75_13 : dc 75 13 = some (.iconst 0, 14) := by decide +kernel
theorem d75_14 : dc 75 14 = some (.istore_n 2, 15) := by decide +kernel
theorem d75_15 : dc 75 15 = some (.iload_n 2, 16) := by decide +kernel
theorem d75_16 : dc 75 16 = some (.aload_n 0, 17) := by decide +kernel
theorem d75_17 : dc 75 17 = some (.getfield 391, 20) := by decide +kernel
theorem d75_20 : dc 75 20 = some (.if_icmp .ge ((68 : Nat) : Int), 23) := by decide +kernel
theorem d75_23 : dc 75 23 = some (.aload_n 0, 24) := by decide +kernel
theorem d75_24 : dc 75 24 = some (.dload 393, 27) := by decide +kernel
theorem d75_27 : dc 75 27 = some (.iload_n 2, 28) := by decide +kernel
theorem d75_28 : dc 75 28 = some (.aload_n 0, 29) := by decide +kernel
theorem d75_29 : dc 75 29 = some (.dload 392, 32) := by decide +kernel
theorem d75_32 : dc 75 32 = some (.iload_n 2, 33) := by decide +kernel
theorem d75_33 : dc 75 33 = some (.aaload, 34) := by decide +kernel
theorem d75_34 : dc 75 34 = some (.getfield 128, 37) := by decide +kernel
theorem d75_37 : dc 75 37 = some (.ifCond .eq ((60 : Nat) : Int), 40) := by decide +kernel
theorem d75_40 : dc 75 40 = some (.aload_n 0, 41) := by decide +kernel
theorem d75_41 : dc 75 41 = some (.dload 392, 44) := by decide +kernel
theorem d75_44 : dc 75 44 = some (.iload_n 2, 45) := by decide +kernel
theorem d75_45 : dc 75 45 = some (.aaload, 46) := by decide +kernel
theorem d75_46 : dc 75 46 = some (.aload_n 1, 47) := by decide +kernel
theorem d75_47 : dc 75 47 = some (.fload 129, 50) := by decide +kernel
theorem d75_50 : dc 75 50 = some (.invokevirtual 76, 53) := by decide +kernel
theorem d75_53 : dc 75 53 = some (.ifCond .eq ((60 : Nat) : Int), 56) := by decide +kernel
theorem d75_56 : dc 75 56 = some (.iconst 1, 57) := by decide +kernel
theorem d75_57 : dc 75 57 = some (.goto ((61 : Nat) : Int), 60) := by decide +kernel
theorem d75_60 : dc 75 60 = some (.iconst 0, 61) := by decide +kernel
theorem d75_61 : dc 75 61 = some (.iastore, 62) := by decide +kernel
theorem d75_62 : dc 75 62 = some (.iinc 2 1, 65) := by decide +kernel
theorem d75_65 : dc 75 65 = some (.goto ((15 : Nat) : Int), 68) := by decide +kernel
theorem d75_68 : dc 75 68 = some (.aload_n 0, 69) := by decide +kernel
theorem d75_69 : dc 75 69 = some (.invokevirtual 77, 72) := by decide +kernel
theorem d75_72 : dc 75 72 = some (.iconst 0, 73) := by decide +kernel
theorem d75_73 : dc 75 73 = some (.istore_n 2, 74) := by decide +kernel
theorem d75_74 : dc 75 74 = some (.iload_n 2, 75) := by decide +kernel
theorem d75_75 : dc 75 75 = some (.aload_n 1, 76) := by decide +kernel
theorem d75_76 : dc 75 76 = some (.getfield 133, 79) := by decide +kernel
theorem d75_79 : dc 75 79 = some (.if_icmp .ge ((128 : Nat) : Int), 82) := by decide +kernel
theorem d75_82 : dc 75 82 = some (.aload_n 1, 83) := by decide +kernel
theorem d75_83 : dc 75 83 = some (.dload 134, 86) := by decide +kernel
theorem d75_86 : dc 75 86 = some (.iload_n 2, 87) := by decide +kernel
theorem d75_87 : dc 75 87 = some (.baload, 88) := by decide +kernel
theorem d75_88 : dc 75 88 = some (.ifCond .eq ((104 : Nat) : Int), 91) := by decide +kernel
theorem d75_91 : dc 75 91 = some (.aload_n 0, 92) := by decide +kernel
theorem d75_92 : dc 75 92 = some (.aload_n 1, 93) := by decide +kernel
theorem d75_93 : dc 75 93 = some (.dload 135, 96) := by decide +kernel
theorem d75_96 : dc 75 96 = some (.iload_n 2, 97) := by decide +kernel
theorem d75_97 : dc 75 97 = some (.laload, 98) := by decide +kernel
theorem d75_98 : dc 75 98 = some (.invokevirtual 79, 101) := by decide +kernel
theorem d75_101 : dc 75 101 = some (.goto ((105 : Nat) : Int), 104) := by decide +kernel
theorem d75_104 : dc 75 104 = some (.iconst (-1), 105) := by decide +kernel
theorem d75_105 : dc 75 105 = some (.istore_n 3, 106) := by decide +kernel
theorem d75_106 : dc 75 106 = some (.iload_n 3, 107) := by decide +kernel
theorem d75_107 : dc 75 107 = some (.ifCond .lt ((122 : Nat) : Int), 110) := by decide +kernel
theorem d75_110 : dc 75 110 = some (.aload_n 0, 111) := by decide +kernel
theorem d75_111 : dc 75 111 = some (.dload 393, 114) := by decide +kernel
theorem d75_114 : dc 75 114 = some (.iload_n 3, 115) := by decide +kernel
theorem d75_115 : dc 75 115 = some (.iaload, 116) := by decide +kernel
theorem d75_116 : dc 75 116 = some (.iconst 1, 117) := by decide +kernel
theorem d75_117 : dc 75 117 = some (.if_icmp .ne ((122 : Nat) : Int), 120) := by decide +kernel
theorem d75_120 : dc 75 120 = some (.iconst 1, 121) := by decide +kernel
theorem d75_121 : dc 75 121 = some (.freturn, 122) := by decide +kernel
theorem d75_122 : dc 75 122 = some (.iinc 2 1, 125) := by decide +kernel
theorem d75_125 : dc 75 125 = some (.goto ((74 : Nat) : Int), 128) := by decide +kernel
theorem d75_128 : dc 75 128 = some (.iconst 0, 129) := by decide +kernel
theorem d75_129 : dc 75 129 = some (.freturn, 130) := by decide +kernel
theorem k_Plan_wouldCircle {S : Shp} {G : Nat → Option Nat} {d : Nat} {h : Hp} {Q : Option MV → Hp → Prop} {p : Nat} {a : Nat}  (ok : Ok S h) (h1 : 3 ≤ d) (hp : sK S p = 4) (ha : sK S a = 2) {ts : List (Bool × TgV)} {t : TgV} {tx : List Nat} (tc : TsC S h p ts) (D : DefC S h a t tx) (hap : ¬ U S a p)
    (kk : ∀ h' b, Mo S (fun y => y = sT S 393 p) h h' → (b = true ↔ circV ts t) → Q (some (vI (b2i b))) h') : Cl G d 75 [vR (some p), vR (some a)] h Q := by
  show Wp G d 75 0 [some (vR (some p)), some (vR (some a)), none, none] [] h Q
  have tc0 := tc
  have D0 := D
  obtain ⟨d1, d2, d3, d4, d5, d6, d7, d8, d9, o1, o2, o3, o4, o5, o6⟩ := D
  have o40 := o4.1
  have hl14 := tc.2.1
  have hne : p ≠ sT S 393 p := fun q => ok.so.pT (by decide) q.symm
  have hnE : ∀ i y, i < ts.length → U S (sE S (sT S 392 p) i) y → ¬ y = sT S 393 p := fun i y hi u q => by
    subst q
    exact (ok.so.defN (f := 393) (by omega) (by decide) (by decide)).2.1 u
  have nA : ∀ y, U S a y → ¬ y = sT S 393 p := fun y u q => by
    subst q
    rcases (ok.so.U_T (by decide)).mp u with z | z
    · have := kT393 ok hp; rw [← z] at this; omega
    · exact hap z
  refine w_aload_n d75_0 rfl ?_
  refine w_aload_n d75_1 rfl ?_
  refine w_floadV (x := (hd (tgN t))) d75_2 (ok.kd ha) d1 ?_
  refine w_callv2 d75_5 (by omega) rfl (ok.kd ha) (by simp) (Nat.le_of_ble_eq_true rfl) ?_
  refine k_Def_namesTarget ok (by omega) ha D0 o1 rfl ?_
  refine w_ifeq d75_8 (fun c8 => ?_) (fun c8 => ?_)
  · have nn := b2i_f.mp c8
    refine w_iconst d75_13 (by decide) ?_
    refine w_istore2 d75_14 rfl ?_
    have L15 : ∀ (m15 : Nat) (g : Hp) (u : Nat), ts.length - u = m15 → Mo S (fun x => x = (sT S 393 p)) h g → (u ≤ ts.length) → (∀ w, w < u → AI g (sT S 393 p) w = b2i (tH ts w && namesT (tgI (tD ts w)) (tgN t))) → Wp G d 75 15 [some (vR (some p)), some (vR (some a)), some (vI (u : Nat)), none] [] g Q := by
      intro m15
      induction m15 using Nat.strongRecOn with | ind m15 IH15 => ?_
      intro g u hm15 Mg i1 i2
      have okg := Mg.ok
      have tcg := tc0.fr ok Mg hp (Or.inl hne) hnE
      have Dg := D0.mo ok Mg ha nA
      refine w_iload_n d75_15 rfl ?_
      refine w_aload_n d75_16 rfl ?_
      refine w_getI (x := (ts.length : Int)) d75_17 (okg.kd hp) tcg.1 ?_
      refine w_icmpge d75_20 (fun c20 => ?_) (fun c20 => ?_)
      · refine w_aload_n d75_68 rfl ?_
        refine w_callv1 d75_69 (by omega) rfl (okg.kd hp) (by simp) (Nat.le_of_ble_eq_true rfl) ?_
        refine k_Plan_markUsers (m0 := (fun z => b2i (tH ts z && namesT (tgI (tD ts z)) (tgN t)))) okg (by omega) hp tcg (fun u hu => ⟨i2 u (by omega), b2i_01 _⟩) (fun h69 m69 e69_1 => ?_)
        have ok69 := m69.ok
        have M69 := Mo.tr ok Mg m69 (fun x e => e)
        have tcm := tc0.fr ok M69 hp (Or.inl hne) hnE
        have Dm := D0.mo ok M69 ha nA
        obtain ⟨f1, f2, f3, f4, f5, f6, -⟩ := Dm
        refine w_iconst d75_72 (by decide) ?_
        refine w_istore2 d75_73 rfl ?_
        have L74 : ∀ (m74 : Nat) (i : Nat), (tgI t).length - i = m74 → (i ≤ (tgI t).length) → (∀ j, j < i → ¬ (inB (tgI t) j = true ∧ 0 ≤ tat ts (inN (tgI t) j) ∧ ∃ z, z < ts.length ∧ (tH ts z = true ∧ namesT (tgI (tD ts z)) (tgN t) = true) ∧ Rc ts (tat ts (inN (tgI t) j)).toNat z)) → Wp G d 75 74 [some (vR (some p)), some (vR (some a)), some (vI (i : Nat)), none] [] h69 Q := by
          intro m74
          induction m74 using Nat.strongRecOn with | ind m74 IH74 => ?_
          intro i hm74 k1 k2
          refine w_iload_n d75_74 rfl ?_
          refine w_aload_n d75_75 rfl ?_
          refine w_getI (x := ((tgI t).length : Int)) d75_76 (ok69.kd ha) f5 ?_
          refine w_icmpge d75_79 (fun c79 => ?_) (fun c79 => ?_)
          · refine w_iconst d75_128 (by decide) ?_
            refine w_zreturn d75_129 (by decide) ?_
            exact kk h69 false M69 ⟨(fun q => by cases q), (fun q => by
              rcases q with q | ⟨i, q1, q2⟩
              · rw [nn] at q; cases q
              · exact absurd q2 (k2 i (by omega)))⟩
          · have hi : i < (tgI t).length := by omega
            obtain ⟨b1, b2, b3⟩ := f6 i hi
            refine w_aload_n d75_82 rfl ?_
            refine w_dloadS d75_83 (ok69.kd ha) (fr134 ok69 ha) ?_
            refine w_iload_n d75_86 rfl ?_
            refine w_baloadV (x := (b2i (inB (tgI t) i))) d75_87 (gi134 ok69 ha (by omega)) b1 ?_
            refine w_ifeq d75_88 (fun c88 => ?_) (fun c88 => ?_)
            · have b4 := b2i_f.mp c88
              have nk : ¬ (inB (tgI t) i = true ∧ 0 ≤ tat ts (inN (tgI t) i) ∧ ∃ z, z < ts.length ∧ (tH ts z = true ∧ namesT (tgI (tD ts z)) (tgN t) = true) ∧ Rc ts (tat ts (inN (tgI t) i)).toNat z) := fun q => by rw [b4] at q; cases q.1
              refine w_iconst d75_104 (by decide) ?_
              refine w_istore3 d75_105 rfl ?_
              refine w_iload_n d75_106 rfl ?_
              refine w_iflt d75_107 (fun c107 => ?_) (fun c107 => ?_)
              · refine w_iinc2 d75_122 rfl (by constructor <;> omega) ?_
                refine w_goto d75_125 ?_
                refine w_less ?_ (IH74 _ (by omega) (i + 1) rfl (by omega) (fun j hj => by
                  by_cases z : j = i
                  · subst z; exact nk
                  · exact k2 j (by omega)))
                exact ⟨Or.inr rfl, Or.inr rfl, Or.inr rfl, Or.inl rfl, trivial⟩
              · exact absurd c107 (by decide)
            · have b4 : inB (tgI t) i = true := by cases q : inB (tgI t) i <;> simp_all [b2i]
              refine w_aload_n d75_91 rfl ?_
              refine w_aload_n d75_92 rfl ?_
              refine w_dloadS d75_93 (ok69.kd ha) (fr135 ok69 ha) ?_
              refine w_iload_n d75_96 rfl ?_
              refine w_laloadV (x := (hd (inN (tgI t) i))) d75_97 (gi135 ok69 ha (by omega)) b2 ?_
              refine w_callv2 d75_98 (by omega) rfl (ok69.kd hp) (by simp) (Nat.le_of_ble_eq_true rfl) ?_
              refine k_Plan_targetAt ok69 (by omega) hp tcm ?_
              rw [show tatJ ts (hd (inN (tgI t) i)) = tat ts (inN (tgI t) i) by unfold tatJ tat; rw [tixJ_eq tcm.okn ((o4.2 i hi).2 b4)]]
              refine w_goto d75_101 ?_
              refine w_istore3 d75_105 rfl ?_
              refine w_iload_n d75_106 rfl ?_
              refine w_iflt d75_107 (fun c107 => ?_) (fun c107 => ?_)
              · have nk : ¬ (inB (tgI t) i = true ∧ 0 ≤ tat ts (inN (tgI t) i) ∧ ∃ z, z < ts.length ∧ (tH ts z = true ∧ namesT (tgI (tD ts z)) (tgN t) = true) ∧ Rc ts (tat ts (inN (tgI t) i)).toNat z) := fun q => absurd q.2.1 (by omega)
                refine w_iinc2 d75_122 rfl (by constructor <;> omega) ?_
                refine w_goto d75_125 ?_
                refine w_less ?_ (IH74 _ (by omega) (i + 1) rfl (by omega) (fun j hj => by
                  by_cases z : j = i
                  · subst z; exact nk
                  · exact k2 j (by omega)))
                exact ⟨Or.inr rfl, Or.inr rfl, Or.inr rfl, Or.inl rfl, trivial⟩
              · have hvr := tat_rg ts (inN (tgI t) i)
                have hv : tat ts (inN (tgI t) i) = (((tat ts (inN (tgI t) i)).toNat : Nat) : Int) := by omega
                generalize hvv : (tat ts (inN (tgI t) i)).toNat = v at hv
                rw [hv]
                have hvl : v < ts.length := by omega
                have em := e69_1 v hvl
                refine w_aload_n d75_110 rfl ?_
                refine w_dloadS d75_111 (ok69.kd hp) (fr393 ok69 hp) ?_
                refine w_iload_n d75_114 rfl ?_
                refine w_ialoadN d75_115 (gi393 ok69 hp (by omega)) ?_
                have r115 := ra393 ok69 hp v
                refine w_iconst d75_116 (by decide) ?_
                refine w_icmpne d75_117 (fun c117 => ?_) (fun c117 => ?_)
                · have c117 : AI h69 (sT S 393 p) v ≠ 1 := c117
                  have nk : ¬ (inB (tgI t) i = true ∧ 0 ≤ tat ts (inN (tgI t) i) ∧ ∃ z, z < ts.length ∧ (tH ts z = true ∧ namesT (tgI (tD ts z)) (tgN t) = true) ∧ Rc ts (tat ts (inN (tgI t) i)).toNat z) := fun ⟨_, _, z, z1, z2, z3⟩ => by
                    rcases em with q | q
                    · exact c117 q.1
                    · exact q.2 ⟨z, z1, by show b2i (tH ts z && namesT (tgI (tD ts z)) (tgN t)) = 1; rw [z2.1, z2.2]; rfl, by rw [hvv] at z3; exact z3⟩
                  refine w_iinc2 d75_122 rfl (by constructor <;> omega) ?_
                  refine w_goto d75_125 ?_
                  refine w_less ?_ (IH74 _ (by omega) (i + 1) rfl (by omega) (fun j hj => by
                    by_cases z : j = i
                    · subst z; exact nk
                    · exact k2 j (by omega)))
                  exact ⟨Or.inr rfl, Or.inr rfl, Or.inr rfl, Or.inl rfl, trivial⟩
                · have c117 : AI h69 (sT S 393 p) v = 1 := c117
                  refine w_iconst d75_120 (by decide) ?_
                  refine w_zreturn d75_121 (by decide) ?_
                  obtain ⟨z, z1, z2, z3⟩ := (em.resolve_right (fun q => by omega)).2
                  have z2 : b2i (tH ts z && namesT (tgI (tD ts z)) (tgN t)) = 1 := z2
                  rw [b2i_t, Bool.and_eq_true] at z2
                  exact kk h69 true M69 ⟨fun _ => Or.inr ⟨i, hi, b4, by omega, z, z1, z2, by rw [hvv]; exact z3⟩, fun _ => rfl⟩
        refine w_less ?_ (L74 _ 0 rfl (by omega) (fun j hj => by omega))
        exact ⟨Or.inr rfl, Or.inr rfl, Or.inr rfl, Or.inl rfl, trivial⟩
      · have hu : u < ts.length := by omega
        obtain ⟨a1, a2, a3⟩ := tcg.2.2 u hu
        refine w_aload_n d75_23 rfl ?_
        refine w_dloadS d75_24 (okg.kd hp) (fr393 okg hp) ?_
        refine w_iload_n d75_27 rfl ?_
        refine w_aload_n d75_28 rfl ?_
        refine w_dloadS d75_29 (okg.kd hp) (fr392 okg hp) ?_
        refine w_iload_n d75_32 rfl ?_
        have k33 := kE392 okg hp (j := u) (by omega)
        refine w_aaloadSN d75_33 (gi392 okg hp (by omega)) (er392 okg hp (by omega)) ?_
        refine w_getI (x := (b2i (tH ts u))) d75_34 (okg.kd k33) a1 ?_
        refine w_ifeq d75_37 (fun c37 => ?_) (fun c37 => ?_)
        · have zz : 0 = b2i (tH ts u && namesT (tgI (tD ts u)) (tgN t)) := by rw [b2i_f.mp c37]; rfl
          refine w_iconst d75_60 (by decide) ?_
          refine wa393 d75_61 okg hp (by omega) (by omega) (fun h61 e61 m61 => ?_)
          have e61 : h61 = sAI g (sT S 393 p) u 0 := e61
          have ok61 := m61.ok
          have M61 := Mo.tr ok Mg m61 (fun x e => e)
          refine w_iinc2 d75_62 rfl (by constructor <;> omega) ?_
          refine w_goto d75_65 ?_
          refine w_less ?_ (IH15 _ (by omega) h61 (u + 1) rfl M61 (by omega) (fun w hw => by
            rw [e61, sArr]
            split
            · rename_i z; subst z; exact zz
            · exact i2 w (by omega)))
          exact ⟨Or.inr rfl, Or.inr rfl, Or.inr rfl, Or.inl rfl, trivial⟩
        · have b1 : tH ts u = true := by cases q : tH ts u <;> simp_all [b2i]
          refine w_aload_n d75_40 rfl ?_
          refine w_dloadS d75_41 (okg.kd hp) (fr392 okg hp) ?_
          refine w_iload_n d75_44 rfl ?_
          have k45 := kE392 okg hp (j := u) (by omega)
          refine w_aaloadSN d75_45 (gi392 okg hp (by omega)) (er392 okg hp (by omega)) ?_
          refine w_aload_n d75_46 rfl ?_
          refine w_floadV (x := (hd (tgN t))) d75_47 (okg.kd ha) Dg.1 ?_
          refine w_callv2 d75_50 (by omega) rfl (okg.kd k45) (by simp) (Nat.le_of_ble_eq_true rfl) ?_
          refine k_Def_namesTarget okg (by omega) k45 a2 o1 rfl ?_
          refine w_ifeq d75_53 (fun c53 => ?_) (fun c53 => ?_)
          · have zz : 0 = b2i (tH ts u && namesT (tgI (tD ts u)) (tgN t)) := by rw [b2i_f.mp c53, Bool.and_false]; rfl
            refine w_iconst d75_60 (by decide) ?_
            refine wa393 d75_61 okg hp (by omega) (by omega) (fun h61 e61 m61 => ?_)
            have e61 : h61 = sAI g (sT S 393 p) u 0 := e61
            have ok61 := m61.ok
            have M61 := Mo.tr ok Mg m61 (fun x e => e)
            refine w_iinc2 d75_62 rfl (by constructor <;> omega) ?_
            refine w_goto d75_65 ?_
            refine w_less ?_ (IH15 _ (by omega) h61 (u + 1) rfl M61 (by omega) (fun w hw => by
              rw [e61, sArr]
              split
              · rename_i z; subst z; exact zz
              · exact i2 w (by omega)))
            exact ⟨Or.inr rfl, Or.inr rfl, Or.inr rfl, Or.inl rfl, trivial⟩
          · have zz : 1 = b2i (tH ts u && namesT (tgI (tD ts u)) (tgN t)) := by cases q : namesT (tgI (tD ts u)) (tgN t) <;> simp_all [b2i]
            refine w_iconst d75_56 (by decide) ?_
            refine w_goto d75_57 ?_
            refine wa393 d75_61 okg hp (by omega) (by omega) (fun h61 e61 m61 => ?_)
            have e61 : h61 = sAI g (sT S 393 p) u 1 := e61
            have ok61 := m61.ok
            have M61 := Mo.tr ok Mg m61 (fun x e => e)
            refine w_iinc2 d75_62 rfl (by constructor <;> omega) ?_
            refine w_goto d75_65 ?_
            refine w_less ?_ (IH15 _ (by omega) h61 (u + 1) rfl M61 (by omega) (fun w hw => by
              rw [e61, sArr]
              split
              · rename_i z; subst z; exact zz
              · exact i2 w (by omega)))
            exact ⟨Or.inr rfl, Or.inr rfl, Or.inr rfl, Or.inl rfl, trivial⟩
    have M0_ := Mo.refl (A := (fun x => x = (sT S 393 p))) ok
    refine w_less ?_ (L15 _ h 0 rfl M0_ (by omega) (fun w hw => by omega))
    exact ⟨Or.inr rfl, Or.inr rfl, Or.inr rfl, Or.inl rfl, trivial⟩
  · refine w_iconst d75_11 (by decide) ?_
    refine w_zreturn d75_12 (by decide) ?_
    exact kk h true (Mo.refl ok) ⟨fun _ => Or.inl (by cases q : namesT (tgI t) (tgN t) <;> simp_all [b2i]), fun _ => rfl⟩
