/-! the longest rows -/
/-- what the marks of lengths say of u, of rows of at most r steps -/
def lngI (ts : List (Bool × TgV)) (mk : Nat → Int) (r u : Nat) : Prop := ∃ k : Nat, mk u = ((k + 1 : Nat) : Int) ∧ (∃ x, stp ts k u x) ∧ ∀ j, j ≤ r → ∀ x, stp ts j u x → j ≤ k
theorem lngI.congr {ts : List (Bool × TgV)} {mk mk' : Nat → Int} {r u : Nat} (e : mk' u = mk u) (s : lngI ts mk r u) : lngI ts mk' r u := by unfold lngI at s ⊢; rw [e]; exact s
theorem lngI.lt {ts : List (Bool × TgV)} (ha : acy ts) {mk : Nat → Int} {r u : Nat} (hu : u < ts.length) (s : lngI ts mk r u) : 1 ≤ mk u ∧ mk u ≤ ts.length := by
  obtain ⟨k, k1, ⟨x, k2⟩, -⟩ := s
  have := acy_len ha hu k2
  omega
theorem lngI.up {ts : List (Bool × TgV)} {mk : Nat → Int} {r u : Nat} (hl : ∀ w, w < ts.length → lngI ts mk r w) (hu : u < ts.length) (hm : ∀ i, ∀ v : Nat, inT ts u i = (v : Nat) → mk v < mk u) : lngI ts mk (r + 1) u := by
  obtain ⟨k, k1, k2, k3⟩ := hl u hu
  refine ⟨k, k1, k2, fun j hj x s => ?_⟩
  cases j with
  | zero => omega
  | succ j =>
    obtain ⟨v, ⟨i, e⟩, s2⟩ := stp_front.mp s
    obtain ⟨kv, v1, v2, v3⟩ := hl v (inT_lt e).2
    have := v3 j (by omega) x s2
    have := hm i v e
    omega
theorem lngI.mono {ts : List (Bool × TgV)} {mk : Nat → Int} {r r' u : Nat} (h : r' ≤ r) (s : lngI ts mk r u) : lngI ts mk r' u := by
  obtain ⟨k, k1, k2, k3⟩ := s
  exact ⟨k, k1, k2, fun j hj => k3 j (by omega)⟩
/-- u's longest row has k steps -/
def lng (ts : List (Bool × TgV)) (u k : Nat) : Prop := (∃ x, stp ts k u x) ∧ ∀ x, ¬ stp ts (k + 1) u x
theorem lngI.fin {ts : List (Bool × TgV)} (ha : acy ts) (hl : ts.length ≤ 14) {mk : Nat → Int} {u : Nat} (hu : u < ts.length) (s : lngI ts mk 14 u) : ∃ k : Nat, mk u = ((k + 1 : Nat) : Int) ∧ lng ts u k := by
  obtain ⟨k, k1, k2, k3⟩ := s
  refine ⟨k, k1, k2, fun x z => ?_⟩
  have := acy_len ha hu z
  have := k3 (k + 1) (by omega) x z
  omega
theorem d156_0 : dc 156 0 = some (.aload_n 0, 1) := by decide +kernel
theorem d156_1 : dc 156 1 = some (.dload 393, 4) := by decide +kernel
theorem d156_4 : dc 156 4 = some (.iconst 1, 5) := by decide +kernel
theorem d156_5 : dc 156 5 = some (.invokevirtual 58, 8) := by decide +kernel
theorem d156_8 : dc 156 8 = some (.iconst 0, 9) := by decide +kernel
theorem d156_9 : dc 156 9 = some (.istore_n 1, 10) := by decide +kernel
theorem d156_10 : dc 156 10 = some (.iload_n 1, 11) := by decide +kernel
theorem d156_11 : dc 156 11 = some (.bipush 14, 13) := by decide +kernel
theorem d156_13 : dc 156 13 = some (.if_icmp .ge ((103 : Nat) : Int), 16) := by decide +kernel
theorem d156_16 : dc 156 16 = some (.iconst 0, 17) := by decide +kernel
theorem d156_17 : dc 156 17 = some (.istore_n 2, 18) := by decide +kernel
theorem d156_18 : dc 156 18 = some (.iload_n 2, 19) := by decide +kernel
theorem d156_19 : dc 156 19 = some (.aload_n 0, 20) := by decide +kernel
theorem d156_20 : dc 156 20 = some (.getfield 391, 23) := by decide +kernel
theorem d156_23 : dc 156 23 = some (.if_icmp .ge ((97 : Nat) : Int), 26) := by decide +kernel
theorem d156_26 : dc 156 26 = some (.iconst 0, 27) := by decide +kernel
theorem d156_27 : dc 156 27 = some (.istore_n 3, 28) := by decide +kernel
theorem d156_28 : dc 156 28 = some (.iload_n 3, 29) := by decide +kernel
theorem d156_29 : dc 156 29 = some (.aload_n 0, 30) := by decide +kernel
theorem d156_30 : dc 156 30 = some (.dload 392, 33) := by decide +kernel
theorem d156_33 : dc 156 33 = some (.iload_n 2, 34) := by decide +kernel
theorem d156_34 : dc 156 34 = some (.aaload, 35) := by decide +kernel
theorem d156_35 : dc 156 35 = some (.getfield 133, 38) := by decide +kernel
theorem d156_38 : dc 156 38 = some (.if_icmp .ge ((91 : Nat) : Int), 41) := by decide +kernel
theorem d156_41 : dc 156 41 = some (.aload_n 0, 42) := by decide +kernel
theorem d156_42 : dc 156 42 = some (.iload_n 2, 43) := by decide +kernel
theorem d156_43 : dc 156 43 = some (.iload_n 3, 44) := by decide +kernel
theorem d156_44 : dc 156 44 = some (.invokevirtual 78, 47) := by decide +kernel
theorem d156_47 : dc 156 47 = some (.istore 4, 49) := by decide +kernel
theorem d156_49 : dc 156 49 = some (.iload 4, 51) := by decide +kernel
theorem d156_51 : dc 156 51 = some (.ifCond .lt ((85 : Nat) : Int), 54) := by decide +kernel
theorem d156_54 : dc 156 54 = some (.aload_n 0, 55) := by decide +kernel
theorem d156_55 : dc 156 55 = some (.dload 393, 58) := by decide +kernel
theorem d156_58 : dc 156 58 = some (.iload 4, 60) := by decide +kernel
theorem d156_60 : dc 156 60 = some (.iaload, 61) := by decide +kernel
theorem d156_61 : dc 156 61 = some (.aload_n 0, 62) := by decide +kernel
theorem d156_62 : dc 156 62 = some (.dload 393, 65) := by decide +kernel
theorem d156_65 : dc 156 65 = some (.iload_n 2, 66) := by decide +kernel
theorem d156_66 : dc 156 66 = some (.iaload, 67) := by decide +kernel
theorem d156_67 : dc 156 67 = some (.if_icmp .lt ((85 : Nat) : Int), 70) := by decide +kernel
theorem d156_70 : dc 156 70 = some (.aload_n 0, 71) := by decide +kernel
theorem d156_71 : dc 156 71 = some (.dload 393, 74) := by decide +kernel
theorem d156_74 : dc 156 74 = some (.iload_n 2, 75) := by decide +kernel
theorem d156_75 : dc 156 75 = some (.aload_n 0, 76) := by decide +kernel
theorem d156_76 : dc 156 76 = some (.dload 393, 79) := by decide +kernel
theorem d156_79 : dc 156 79 = some (.iload 4, 81) := by decide +kernel
theorem d156_81 : dc 156 81 = some (.iaload, 82) := by decide +kernel
theorem d156_82 : dc 156 82 = some (.iconst 1, 83) := by decide +kernel
theorem d156_83 : dc 156 83 = some (.iadd, 84) := by decide +kernel
theorem d156_84 : dc 156 84 = some (.iastore, 85) := by decide +kernel
theorem d156_85 : dc 156 85 = some (.iinc 3 1, 88) := by decide +kernel
theorem d156_88 : dc 156 88 = some (.goto ((28 : Nat) : Int), 91) := by decide +kernel
theorem d156_91 : dc 156 91 = some (.iinc 2 1, 94) := by decide +kernel
theorem d156_94 : dc 156 94 = some (.goto ((18 : Nat) : Int), 97) := by decide +kernel
theorem d156_97 : dc 156 97 = some (.iinc 1 1, 100) := by decide +kernel
theorem d156_100 : dc 156 100 = some (.goto ((10 : Nat) : Int), 103) := by decide +kernel
theorem d156_103 : dc 156 103 = some (.return_, 104) := by decide +kernel
theorem k_Plan_markLengths {S : Shp} {G : Nat → Option Nat} {d : Nat} {h : Hp} {Q : Option MV → Hp → Prop} {p : Nat}  (ok : Ok S h) (h1 : 2 ≤ d) (hp : sK S p = 4) {ts : List (Bool × TgV)} (tc : TsC S h p ts) (ha : acy ts)
    (kk : ∀ h', Mo S (fun y => y = sT S 393 p) h h' → (∀ w, w < ts.length → ∃ k : Nat, AI h' (sT S 393 p) w = ((k + 1 : Nat) : Int) ∧ lng ts w k) → Q none h') : Cl G d 156 [vR (some p)] h Q := by
  show Wp G d 156 0 [some (vR (some p)), none, none, none, none] [] h Q
  have tc0 := tc
  have hl14 := tc.2.1
  have kM := kT393 ok hp
  have hne : p ≠ sT S 393 p := fun q => ok.so.pT (by decide) q.symm
  have hnE : ∀ i y, i < ts.length → U S (sE S (sT S 392 p) i) y → ¬ y = sT S 393 p := fun i y hi u q => by
    subst q
    exact (ok.so.defN (f := 393) (by omega) (by decide) (by decide)).2.1 u
  refine w_aload_n d156_0 rfl ?_
  refine w_dloadS d156_1 (ok.kd hp) (fr393 ok hp) ?_
  refine w_iconst d156_4 (by decide) ?_
  refine w_calls2 d156_5 (by omega) rfl rfl (by simp) (Nat.le_of_ble_eq_true rfl) ?_
  refine k_Arrays_fill (f := 393) (n := 14) ok (by omega) hp rfl rfl ⟨by omega, by omega⟩ ⟨by decide, by decide⟩ (fun h5 m5 e5_1 => ?_)
  have ok5 := m5.ok
  have M5 := Mo.tr ok (Mo.refl (A := (fun x => x = (sT S 393 p))) ok) m5 (fun x e => e)
  refine w_iconst d156_8 (by decide) ?_
  refine w_istore1 d156_9 rfl ?_
  have L10 : ∀ (m10 : Nat) (g : Hp) (r : Nat), 14 - r = m10 → Mo S (fun x => x = (sT S 393 p)) h g → (r ≤ 14) → (∀ w, w < ts.length → lngI ts (AI g (sT S 393 p)) (r) w) → Wp G d 156 10 [some (vR (some p)), some (vI (r : Nat)), none, none, none] [] g Q := by
    intro m10
    induction m10 using Nat.strongRecOn with | ind m10 IH10 => ?_
    intro g r hm10 Mg i1 i2
    have okg := Mg.ok
    refine w_iload_n d156_10 rfl ?_
    refine w_bipush d156_11 (by decide) ?_
    refine w_icmpge d156_13 (fun c13 => ?_) (fun c13 => ?_)
    · refine w_return d156_103 ?_
      exact kk g Mg (fun w hw => by
        have z := i2 w hw
        rw [show r = 14 by omega] at z
        exact z.fin ha hl14 hw)
    · refine w_iconst d156_16 (by decide) ?_
      refine w_istore2 d156_17 rfl ?_
      have L18 : ∀ (m18 : Nat) (g2 : Hp) (u : Nat), ts.length - u = m18 → Mo S (fun x => x = (sT S 393 p)) h g2 → (u ≤ ts.length) → (∀ w, w < u → lngI ts (AI g2 (sT S 393 p)) (r + 1) w) → (∀ w, w < ts.length → lngI ts (AI g2 (sT S 393 p)) (r) w) → Wp G d 156 18 [some (vR (some p)), some (vI (r : Nat)), some (vI (u : Nat)), none, none] [] g2 Q := by
        intro m18
        induction m18 using Nat.strongRecOn with | ind m18 IH18 => ?_
        intro g2 u hm18 Mg2 j1 j2 j3
        have okg2 := Mg2.ok
        have tcg := tc0.fr ok Mg2 hp (Or.inl hne) hnE
        refine w_iload_n d156_18 rfl ?_
        refine w_aload_n d156_19 rfl ?_
        refine w_getI (x := (ts.length : Int)) d156_20 (okg2.kd hp) tcg.1 ?_
        refine w_icmpge d156_23 (fun c23 => ?_) (fun c23 => ?_)
        · have uu : u = ts.length := by omega
          refine w_iinc1 d156_97 rfl (by constructor <;> omega) ?_
          refine w_goto d156_100 ?_
          refine w_less ?_ (IH10 _ (by omega) g2 (r + 1) rfl Mg2 (by omega) (fun w hw => j2 w (by omega)))
          exact ⟨Or.inr rfl, Or.inr rfl, Or.inl rfl, Or.inl rfl, Or.inl rfl, trivial⟩
        · have hu : u < ts.length := by omega
          refine w_iconst d156_26 (by decide) ?_
          refine w_istore3 d156_27 rfl ?_
          have L28 : ∀ (m28 : Nat) (g3 : Hp) (i : Nat), 6 - i = m28 → Mo S (fun x => x = (sT S 393 p)) h g3 → (i ≤ 6) → (∀ w, w < u → lngI ts (AI g3 (sT S 393 p)) (r + 1) w) → (∀ w, w < ts.length → lngI ts (AI g3 (sT S 393 p)) (r) w) → (∀ j, j < i → ∀ v : Nat, inT ts u j = (v : Nat) → AI g3 (sT S 393 p) v < AI g3 (sT S 393 p) u) → Wp G d 156 28 [some (vR (some p)), some (vI (r : Nat)), some (vI (u : Nat)), some (vI (i : Nat)), none] [] g3 Q := by
            intro m28
            induction m28 using Nat.strongRecOn with | ind m28 IH28 => ?_
            intro g3 i hm28 Mg3 l1 l2 l3 l4
            have okg3 := Mg3.ok
            have tcg3 := tc0.fr ok Mg3 hp (Or.inl hne) hnE
            obtain ⟨a1, a2, a3⟩ := tcg3.2.2 u hu
            have a6 := a2.2.2.2.2.2.2.2.2.2.2.2.2.1.1
            refine w_iload_n d156_28 rfl ?_
            refine w_aload_n d156_29 rfl ?_
            refine w_dloadS d156_30 (okg3.kd hp) (fr392 okg3 hp) ?_
            refine w_iload_n d156_33 rfl ?_
            have k34 := kE392 okg3 hp (j := u) (by omega)
            refine w_aaloadSN d156_34 (gi392 okg3 hp (by omega)) (er392 okg3 hp (by omega)) ?_
            refine w_getI (x := ((tgI (tD ts u)).length : Int)) d156_35 (okg3.kd k34) a2.2.2.2.2.1 ?_
            refine w_icmpge d156_38 (fun c38 => ?_) (fun c38 => ?_)
            · have l9 : lngI ts (AI g3 (sT S 393 p)) (r + 1) u := lngI.up l3 hu (fun j v e => by
                by_cases q : j < i
                · exact l4 j q v e
                · rw [inT_end (by omega)] at e; omega)
              refine w_iinc2 d156_91 rfl (by constructor <;> omega) ?_
              refine w_goto d156_94 ?_
              refine w_less ?_ (IH18 _ (by omega) g3 (u + 1) rfl Mg3 (by omega) (fun w hw => by
                by_cases z : w = u
                · subst z; exact l9
                · exact l2 w (by omega)) l3)
              exact ⟨Or.inr rfl, Or.inr rfl, Or.inr rfl, Or.inl rfl, Or.inl rfl, trivial⟩
            · have hi : i < (tgI (tD ts u)).length := by omega
              refine w_aload_n d156_41 rfl ?_
              refine w_iload_n d156_42 rfl ?_
              refine w_iload_n d156_43 rfl ?_
              refine w_callv3 d156_44 (by omega) rfl (okg3.kd hp) (by simp) (Nat.le_of_ble_eq_true rfl) ?_
              refine k_Plan_inputTargetN okg3 (by omega) hp tcg3 ?_
              refine w_istore4 d156_47 rfl ?_
              refine w_iload d156_49 rfl ?_
              refine w_iflt d156_51 (fun c51 => ?_) (fun c51 => ?_)
              · have n4 : ∀ v : Nat, inT ts u i = (v : Nat) → AI g3 (sT S 393 p) v < AI g3 (sT S 393 p) u := fun v e => by omega
                refine w_iinc3 d156_85 rfl (by constructor <;> omega) ?_
                refine w_goto d156_88 ?_
                refine w_less ?_ (IH28 _ (by omega) g3 (i + 1) rfl Mg3 (by omega) l2 l3 (fun j hj v e => by
                  by_cases z : j = i
                  · subst z; exact n4 v e
                  · exact l4 j (by omega) v e))
                exact ⟨Or.inr rfl, Or.inr rfl, Or.inr rfl, Or.inr rfl, Or.inl rfl, trivial⟩
              · have hvr := inT_rg ts u i
                have hv : inT ts u i = (((inT ts u i).toNat : Nat) : Int) := by omega
                generalize (inT ts u i).toNat = v at hv
                rw [hv]
                have hv14 : v < ts.length := by omega
                have lv := (l3 v hv14).lt ha hv14
                have hvu : v ≠ u := fun q => ha 0 u ⟨u, rfl, i, by rw [hv, q]⟩
                refine w_aload_n d156_54 rfl ?_
                refine w_dloadS d156_55 (okg3.kd hp) (fr393 okg3 hp) ?_
                refine w_iload d156_58 rfl ?_
                refine w_ialoadN d156_60 (gi393 okg3 hp (by omega)) ?_
                have r60 := ra393 okg3 hp v
                refine w_aload_n d156_61 rfl ?_
                refine w_dloadS d156_62 (okg3.kd hp) (fr393 okg3 hp) ?_
                refine w_iload_n d156_65 rfl ?_
                refine w_ialoadN d156_66 (gi393 okg3 hp (by omega)) ?_
                have r66 := ra393 okg3 hp u
                refine w_icmplt d156_67 (fun c67 => ?_) (fun c67 => ?_)
                · have c67 : AI g3 (sT S 393 p) v < AI g3 (sT S 393 p) u := c67
                  have n4 : ∀ w : Nat, inT ts u i = (w : Nat) → AI g3 (sT S 393 p) w < AI g3 (sT S 393 p) u := fun w e => by
                    have e2 : w = v := by omega
                    subst e2; exact c67
                  refine w_iinc3 d156_85 rfl (by constructor <;> omega) ?_
                  refine w_goto d156_88 ?_
                  refine w_less ?_ (IH28 _ (by omega) g3 (i + 1) rfl Mg3 (by omega) l2 l3 (fun j hj v e => by
                    by_cases z : j = i
                    · subst z; exact n4 v e
                    · exact l4 j (by omega) v e))
                  exact ⟨Or.inr rfl, Or.inr rfl, Or.inr rfl, Or.inr rfl, Or.inl rfl, trivial⟩
                · have c67 : AI g3 (sT S 393 p) u ≤ AI g3 (sT S 393 p) v := c67
                  have lu : AI g3 (sT S 393 p) v + 1 ≤ ts.length := by
                    obtain ⟨k, k1, ⟨x, k2⟩, -⟩ := l3 v hv14
                    have := acy_len ha hu (stp_front.mpr ⟨v, ⟨i, hv⟩, k2⟩)
                    omega
                  refine w_aload_n d156_70 rfl ?_
                  refine w_dloadS d156_71 (okg3.kd hp) (fr393 okg3 hp) ?_
                  refine w_iload_n d156_74 rfl ?_
                  refine w_aload_n d156_75 rfl ?_
                  refine w_dloadS d156_76 (okg3.kd hp) (fr393 okg3 hp) ?_
                  refine w_iload d156_79 rfl ?_
                  refine w_ialoadN d156_81 (gi393 okg3 hp (by omega)) ?_
                  have r81 := ra393 okg3 hp v
                  refine w_iconst d156_82 (by decide) ?_
                  refine w_iadd d156_83 (by constructor <;> omega) ?_
                  refine wa393 d156_84 okg3 hp (by omega) (by have : AI g3 (sT S 393 p) ((v : Nat) : Int).toNat = AI g3 (sT S 393 p) v := rfl; omega) (fun h84 e84 m84 => ?_)
                  have e84 : h84 = sAI g3 (sT S 393 p) u ((AI g3 (sT S 393 p) v) + 1) := e84
                  have ok84 := m84.ok
                  have M84 := Mo.tr ok Mg3 m84 (fun x e => e)
                  refine w_iinc3 d156_85 rfl (by constructor <;> omega) ?_
                  refine w_goto d156_88 ?_
                  have eo : ∀ w, w ≠ u → AI h84 (sT S 393 p) w = AI g3 (sT S 393 p) w := fun w hw => by rw [e84, sArr, if_neg hw]
                  have eu : AI h84 (sT S 393 p) u = AI g3 (sT S 393 p) v + 1 := by rw [e84, sArr, if_pos rfl]
                  refine w_less ?_ (IH28 _ (by omega) h84 (i + 1) rfl M84 (by omega) (fun w hw => (l2 w hw).congr (eo w (by omega))) (fun w hw => by
                    by_cases z : w = u
                    · subst z
                      obtain ⟨k, k1, ⟨x, k2⟩, k3⟩ := l3 v hv14
                      refine ⟨k + 1, by rw [eu, k1]; rfl, ⟨x, stp_front.mpr ⟨v, ⟨i, hv⟩, k2⟩⟩, fun j hj y s => ?_⟩
                      obtain ⟨k0, q1, q2, q3⟩ := l3 w hw
                      have := q3 j hj y s
                      omega
                    · exact (l3 w hw).congr (eo w z)) (fun j hj w e => by
                    rw [eu]
                    by_cases z : j = i
                    · subst z
                      have e2 : w = v := by omega
                      subst e2; rw [eo w hvu]; omega
                    · have := l4 j (by omega) w e
                      have hwu : w ≠ u := fun q => ha 0 u ⟨u, rfl, j, by rw [e, q]⟩
                      rw [eo w hwu]; omega))
                  exact ⟨Or.inr rfl, Or.inr rfl, Or.inr rfl, Or.inr rfl, Or.inl rfl, trivial⟩
          refine w_less ?_ (L28 _ g2 0 rfl Mg2 (by omega) j2 j3 (fun j hj => by omega))
          exact ⟨Or.inr rfl, Or.inr rfl, Or.inr rfl, Or.inr rfl, Or.inl rfl, trivial⟩
      refine w_less ?_ (L18 _ g 0 rfl Mg (by omega) (fun w hw => by omega) i2)
      exact ⟨Or.inr rfl, Or.inr rfl, Or.inr rfl, Or.inl rfl, Or.inl rfl, trivial⟩
  refine w_less ?_ (L10 _ h5 0 rfl M5 (by omega) (fun w hw => ⟨0, by rw [e5_1 w (by omega)]; rfl, ⟨w, rfl⟩, fun j hj x _ => hj⟩))
  exact ⟨Or.inr rfl, Or.inr rfl, Or.inl rfl, Or.inl rfl, Or.inl rfl, trivial⟩
theorem d152_0 : dc 152 0 = some (.iload_n 1, 1) := by decide +kernel
theorem d152_1 : dc 152 1 = some (.ifCond .lt ((24 : Nat) : Int), 4) := by decide +kernel
theorem d152_4 : dc 152 4 = some (.iload_n 1, 5) := by decide +kernel
theorem d152_5 : dc 152 5 = some (.aload_n 0, 6) := by decide +kernel
theorem d152_6 : dc 152 6 = some (.getfield 391, 9) := by decide +kernel
theorem d152_9 : dc 152 9 = some (.if_icmp .ge ((24 : Nat) : Int), 12) := by decide +kernel
theorem d152_12 : dc 152 12 = some (.iload_n 2, 13) := by decide +kernel
theorem d152_13 : dc 152 13 = some (.ifCond .lt ((24 : Nat) : Int), 16) := by decide +kernel
theorem d152_16 : dc 152 16 = some (.iload_n 2, 17) := by decide +kernel
theorem d152_17 : dc 152 17 = some (.aload_n 0, 18) := by decide +kernel
theorem d152_18 : dc 152 18 = some (.getfield 391, 21) := by decide +kernel
theorem d152_21 : dc 152 21 = some (.if_icmp .lt ((25 : Nat) : Int), 24) := by decide +kernel
theorem d152_25 : dc 152 25 = some (.aload_n 0, 26) := by decide +kernel
theorem d152_26 : dc 152 26 = some (.iload_n 2, 27) := by decide +kernel
theorem d152_27 : dc 152 27 = some (.invokevirtual 153, 30) := by decide +kernel
theorem d152_30 : dc 152 30 = some (.aload_n 0, 31) := by decide +kernel
theorem d152_31 : dc 152 31 = some (.dload 393, 34) := by decide +kernel
theorem d152_34 : dc 152 34 = some (.iload_n 1, 35) := by decide +kernel
theorem d152_35 : dc 152 35 = some (.iaload, 36) := by decide +kernel
theorem d152_36 : dc 152 36 = some (.ifCond .ne ((46 : Nat) : Int), 39) := by decide +kernel
theorem d152_39 : dc 152 39 = some (.aload_n 3, 40) := by decide +kernel
theorem d152_40 : dc 152 40 = some (.getstatic 54, 42) := by decide +kernel
theorem d152_42 : dc 152 42 = some (.invokevirtual 84, 45) := by decide +kernel
theorem d152_45 : dc 152 45 = some (.return_, 46) := by decide +kernel
theorem d152_46 : dc 152 46 = some (.aload_n 0, 47) := by decide +kernel
theorem d152_47 : dc 152 47 = some (.iload_n 1, 48) := by decide +kernel
theorem d152_48 : dc 152 48 = some (.aload_n 3, 49) := by decide +kernel
theorem d152_49 : dc 152 49 = some (.invokevirtual 154, 52) := by decide +kernel
theorem d152_52 : dc 152 52 = some (.return_, 53) := by decide +kernel
theorem k_Plan_tellWay {S : Shp} {G : Nat → Option Nat} {d : Nat} {h : Hp} {Q : Option MV → Hp → Prop} {p : Nat} {f : Nat} {to : Nat} {r : Nat}  (ok : Ok S h) (h1 : 5 ≤ d) (hp : sK S p = 4) (hr : sK S r = 6) {ts : List (Bool × TgV)} (tg : Tg S G) (tc : TsC S h p ts) (hf : f < ts.length) (ht : to < ts.length) (hpr : ¬ U S p r)
    (kk : ∀ h' mk, Mo S (fun x => x = sT S 393 p ∨ x = r) h h' → (∀ w, w < ts.length → wayS ts mk to 14 w) → rl h' r = addBs (cap h r) (rl h r) (if mk f = 0 then txt 4 else tgN (tD ts f) ++ dnT ts mk ((mk f).toNat - 1) f) → cap h' r = cap h r → Q none h') : Cl G d 152 [vR (some p), vI (f : Nat), vI (to : Nat), vR (some r)] h Q := by
  show Wp G d 152 0 [some (vR (some p)), some (vI (f : Nat)), some (vI (to : Nat)), some (vR (some r))] [] h Q
  have tc0 := tc
  have hl14 := tc.2.1
  have kM := kT393 ok hp
  have hne : p ≠ sT S 393 p := fun q => ok.so.pT (by decide) q.symm
  have hnE : ∀ i y, i < ts.length → U S (sE S (sT S 392 p) i) y → ¬ y = sT S 393 p := fun i y hi u q => by
    subst q
    exact (ok.so.defN (f := 393) (by omega) (by decide) (by decide)).2.1 u
  have nA : ∀ y, U S p y → ¬ y = r := fun y u q => hpr (q ▸ u)
  have rM : ¬ sT S 393 p = r := nA _ (ok.so.uT (by decide) U_refl)
  have nAA : ∀ i q, i < ts.length → U S (sE S (sT S 392 p) i) q → ¬ (q = sT S 393 p ∨ q = r) := fun i q hi u z => z.elim (hnE i q hi u) (nA q (U_trans (ok.so.uE (by omega) (ok.so.uT (by decide) U_refl)) u))
  have nP : ¬ (p = sT S 393 p ∨ p = r) := fun z => z.elim hne (nA p U_refl)
  refine w_iload_n d152_0 rfl ?_
  refine w_iflt d152_1 (fun c1 => ?_) (fun c1 => ?_)
  · omega
  · refine w_iload_n d152_4 rfl ?_
    refine w_aload_n d152_5 rfl ?_
    refine w_getI (x := (ts.length : Int)) d152_6 (ok.kd hp) tc0.1 ?_
    refine w_icmpge d152_9 (fun c9 => ?_) (fun c9 => ?_)
    · omega
    · refine w_iload_n d152_12 rfl ?_
      refine w_iflt d152_13 (fun c13 => ?_) (fun c13 => ?_)
      · omega
      · refine w_iload_n d152_16 rfl ?_
        refine w_aload_n d152_17 rfl ?_
        refine w_getI (x := (ts.length : Int)) d152_18 (ok.kd hp) tc0.1 ?_
        refine w_icmplt d152_21 (fun c21 => ?_) (fun c21 => ?_)
        · refine w_aload_n d152_25 rfl ?_
          refine w_iload_n d152_26 rfl ?_
          refine w_callv2 d152_27 (by omega) rfl (ok.kd hp) (by simp) (Nat.le_of_ble_eq_true rfl) ?_
          refine k_Plan_markWays ok (by omega) hp tc0 ht (fun h27 m27 e27_1 => ?_)
          have ok27 := m27.ok
          have M27 := Mo.tr ok (Mo.refl (A := (fun x => x = (sT S 393 p) ∨ x = r)) ok) m27 (fun x e => (Or.inl e))
          have tcm := tc0.fr ok M27 hp (Or.inl nP) nAA
          have er : rl h27 r = rl h r := m27.rb ok hr (fun q => rM q.symm)
          have ec : cap h27 r = cap h r := (m27.cp ok hr).2 (fun q => rM q.symm)
          refine w_aload_n d152_30 rfl ?_
          refine w_dloadS d152_31 (ok27.kd hp) (fr393 ok27 hp) ?_
          refine w_iload_n d152_34 rfl ?_
          refine w_ialoadN d152_35 (gi393 ok27 hp (by omega)) ?_
          have r35 := ra393 ok27 hp f
          refine w_ifne d152_36 (fun c36 => ?_) (fun c36 => ?_)
          · have c36 : AI h27 (sT S 393 p) f ≠ 0 := c36
            refine w_aload_n d152_46 rfl ?_
            refine w_iload_n d152_47 rfl ?_
            refine w_aload_n d152_48 rfl ?_
            refine w_callv3 d152_49 (by omega) rfl (ok27.kd hp) (by simp) (Nat.le_of_ble_eq_true rfl) ?_
            refine k_Plan_tellDown ok27 (by omega) hp hr tcm hf hpr (fun h49 m49 e49_1 e49_2 => ?_)
            have ok49 := m49.ok
            have M49 := Mo.tr ok M27 m49 (fun x e => (Or.inr e))
            refine w_return d152_52 ?_
            exact kk h49 (AI h27 (sT S 393 p)) M49 e27_1 (by rw [if_neg c36, e49_1, er, ec]) (by rw [e49_2, ec])
          · have c36 : AI h27 (sT S 393 p) f = 0 := c36
            refine w_aload_n d152_39 rfl ?_
            obtain ⟨g40, v40, s40⟩ := tg.tx ok27 4 (by decide)
            refine w_getstaticS d152_40 v40 ?_
            refine w_callv2 d152_42 (by omega) rfl (ok27.kd hr) (by simp) (Nat.le_of_ble_eq_true rfl) ?_
            refine r_Row_addText (by omega) ok27 hr s40 (fun h42 m42 e42_1 e42_2 => ?_)
            have ok42 := m42.ok
            have M42 := Mo.tr ok M27 m42 (fun x e => (Or.inr e))
            refine w_return d152_45 ?_
            exact kk h42 (AI h27 (sT S 393 p)) M42 e27_1 (by rw [if_pos c36, e42_1, er, ec]) (by rw [e42_2, ec])
        · omega
theorem d155_0 : dc 155 0 = some (.iload_n 1, 1) := by decide +kernel
theorem d155_1 : dc 155 1 = some (.ifCond .lt ((12 : Nat) : Int), 4) := by decide +kernel
theorem d155_4 : dc 155 4 = some (.iload_n 1, 5) := by decide +kernel
theorem d155_5 : dc 155 5 = some (.aload_n 0, 6) := by decide +kernel
theorem d155_6 : dc 155 6 = some (.getfield 391, 9) := by decide +kernel
theorem d155_9 : dc 155 9 = some (.if_icmp .lt ((13 : Nat) : Int), 12) := by decide +kernel
theorem d155_13 : dc 155 13 = some (.aload_n 0, 14) := by decide +kernel
theorem d155_14 : dc 155 14 = some (.invokevirtual 156, 17) := by decide +kernel
theorem d155_17 : dc 155 17 = some (.aload_n 2, 18) := by decide +kernel
theorem d155_18 : dc 155 18 = some (.aload_n 0, 19) := by decide +kernel
theorem d155_19 : dc 155 19 = some (.dload 393, 22) := by decide +kernel
theorem d155_22 : dc 155 22 = some (.iload_n 1, 23) := by decide +kernel
theorem d155_23 : dc 155 23 = some (.iaload, 24) := by decide +kernel
theorem d155_24 : dc 155 24 = some (.invokevirtual 124, 27) := by decide +kernel
theorem d155_27 : dc 155 27 = some (.aload_n 2, 28) := by decide +kernel
theorem d155_28 : dc 155 28 = some (.bipush 32, 30) := by decide +kernel
theorem d155_30 : dc 155 30 = some (.invokevirtual 15, 33) := by decide +kernel
theorem d155_33 : dc 155 33 = some (.aload_n 0, 34) := by decide +kernel
theorem d155_34 : dc 155 34 = some (.iload_n 1, 35) := by decide +kernel
theorem d155_35 : dc 155 35 = some (.aload_n 2, 36) := by decide +kernel
theorem d155_36 : dc 155 36 = some (.invokevirtual 154, 39) := by decide +kernel
theorem d155_39 : dc 155 39 = some (.return_, 40) := by decide +kernel
theorem k_Plan_tellLongest {S : Shp} {G : Nat → Option Nat} {d : Nat} {h : Hp} {Q : Option MV → Hp → Prop} {p : Nat} {f : Nat} {r : Nat}  (ok : Ok S h) (h1 : 5 ≤ d) (hp : sK S p = 4) (hr : sK S r = 6) {ts : List (Bool × TgV)} (tc : TsC S h p ts) (ha : acy ts) (hf : f < ts.length) (hpr : ¬ U S p r)
    (kk : ∀ h' mk, Mo S (fun x => x = sT S 393 p ∨ x = r) h h' → (∀ w, w < ts.length → ∃ k : Nat, mk w = ((k + 1 : Nat) : Int) ∧ lng ts w k) → rl h' r = addBs (cap h r) (rl h r) (dec (mk f).toNat ++ 32 :: tgN (tD ts f) ++ dnT ts mk ((mk f).toNat - 1) f) → cap h' r = cap h r → Q none h') : Cl G d 155 [vR (some p), vI (f : Nat), vR (some r)] h Q := by
  show Wp G d 155 0 [some (vR (some p)), some (vI (f : Nat)), some (vR (some r))] [] h Q
  have tc0 := tc
  have hl14 := tc.2.1
  have kM := kT393 ok hp
  have hne : p ≠ sT S 393 p := fun q => ok.so.pT (by decide) q.symm
  have hnE : ∀ i y, i < ts.length → U S (sE S (sT S 392 p) i) y → ¬ y = sT S 393 p := fun i y hi u q => by
    subst q
    exact (ok.so.defN (f := 393) (by omega) (by decide) (by decide)).2.1 u
  have nA : ∀ y, U S p y → ¬ y = r := fun y u q => hpr (q ▸ u)
  have rM : ¬ sT S 393 p = r := nA _ (ok.so.uT (by decide) U_refl)
  have nAA : ∀ i q, i < ts.length → U S (sE S (sT S 392 p) i) q → ¬ (q = sT S 393 p ∨ q = r) := fun i q hi u z => z.elim (hnE i q hi u) (nA q (U_trans (ok.so.uE (by omega) (ok.so.uT (by decide) U_refl)) u))
  have nP : ¬ (p = sT S 393 p ∨ p = r) := fun z => z.elim hne (nA p U_refl)
  refine w_iload_n d155_0 rfl ?_
  refine w_iflt d155_1 (fun c1 => ?_) (fun c1 => ?_)
  · omega
  · refine w_iload_n d155_4 rfl ?_
    refine w_aload_n d155_5 rfl ?_
    refine w_getI (x := (ts.length : Int)) d155_6 (ok.kd hp) tc0.1 ?_
    refine w_icmplt d155_9 (fun c9 => ?_) (fun c9 => ?_)
    · refine w_aload_n d155_13 rfl ?_
      refine w_callv1 d155_14 (by omega) rfl (ok.kd hp) (by simp) (Nat.le_of_ble_eq_true rfl) ?_
      refine k_Plan_markLengths ok (by omega) hp tc0 ha (fun h14 m14 e14_1 => ?_)
      have ok14 := m14.ok
      have M14 := Mo.tr ok (Mo.refl (A := (fun x => x = (sT S 393 p) ∨ x = r)) ok) m14 (fun x e => (Or.inl e))
      have tcm := tc0.fr ok M14 hp (Or.inl nP) nAA
      have er : rl h14 r = rl h r := m14.rb ok hr (fun q => rM q.symm)
      have ec : cap h14 r = cap h r := (m14.cp ok hr).2 (fun q => rM q.symm)
      obtain ⟨kf, kf1, kf2⟩ := e14_1 f hf
      refine w_aload_n d155_17 rfl ?_
      refine w_aload_n d155_18 rfl ?_
      refine w_dloadS d155_19 (ok14.kd hp) (fr393 ok14 hp) ?_
      refine w_iload_n d155_22 rfl ?_
      refine w_ialoadV (x := ((kf + 1 : Nat) : Int)) d155_23 (gi393 ok14 hp (by omega)) kf1 ?_
      refine w_callv2 d155_24 (by omega) rfl (ok14.kd hr) (by simp) (Nat.le_of_ble_eq_true rfl) ?_
      refine r_Row_addNumber (by omega) ok14 hr (by have := acy_len ha hf kf2.1.choose_spec; omega) (fun h24 m24 e24_1 e24_2 => ?_)
      have ok24 := m24.ok
      have M24 := Mo.tr ok M14 m24 (fun x e => (Or.inr e))
      refine w_aload_n d155_27 rfl ?_
      refine w_bipush d155_28 (by decide) ?_
      refine w_callv2 d155_30 (by omega) rfl (ok24.kd hr) (by simp) (Nat.le_of_ble_eq_true rfl) ?_
      refine r_Row_add ok24 hr (fun h30 m30 e30_1 e30_2 => ?_)
      have ok30 := m30.ok
      have M30 := Mo.tr ok M24 m30 (fun x e => (Or.inr e))
      refine w_aload_n d155_33 rfl ?_
      refine w_iload_n d155_34 rfl ?_
      have n30 : Mo S (fun y => y = r) h14 h30 := m24.tr ok14 m30 (fun x e => e)
      have tc30 := tcm.mo ok14 n30 hp nA
      have em : AI h30 (sT S 393 p) = AI h14 (sT S 393 p) := n30.ai ok14 (by omega) rM
      refine w_aload_n d155_35 rfl ?_
      refine w_callv3 d155_36 (by omega) rfl (ok30.kd hp) (by simp) (Nat.le_of_ble_eq_true rfl) ?_
      refine k_Plan_tellDown ok30 (by omega) hp hr tc30 hf hpr (fun h36 m36 e36_1 e36_2 => ?_)
      have ok36 := m36.ok
      have M36 := Mo.tr ok M30 m36 (fun x e => (Or.inr e))
      refine w_return d155_39 ?_
      exact kk h36 (AI h14 (sT S 393 p)) M36 e14_1 (by rw [e36_1, em, e30_1, e30_2, e24_1, e24_2, er, ec, addBs3, addBs3, kf1]; simp [List.append_assoc]) (by rw [e36_2, e30_2, e24_2, ec])
    · omega
