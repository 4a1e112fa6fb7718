/-! the reference: ways, longest rows told -/
theorem way_next {ts : List (Bool × TgV)} {mk : Nat → Int} {to a k : Nat} (W : ∀ w, w < ts.length → wayS ts mk to 14 w) (ha : a < ts.length) (hk : 0 < k) (hm : mk a = ((k + 1 : Nat) : Int)) : ∃ v, edge ts a v ∧ mk v = (k : Nat) := by
  rcases W a ha with ⟨k2, l2, m2, d2⟩ | ⟨w1, -⟩
  · have e : k2 = k := by omega
    subst e
    obtain ⟨k3, rfl⟩ : ∃ k3, k2 = k3 + 1 := ⟨k2 - 1, by omega⟩
    obtain ⟨v, v1, v2⟩ := stp_front.mp d2.1
    refine ⟨v, v1, ?_⟩
    rcases W v (edge_lt v1).2 with ⟨k4, l4, m4, d4⟩ | ⟨w1, w2⟩
    · have h1 : ¬ k3 < k4 := fun z => d4.2 k3 z v2
      have h2 : ¬ k4 < k3 := fun z => d2.2 (k4 + 1) (by omega) (stp_front.mpr ⟨v, v1, d4.1⟩)
      omega
    · exact absurd v2 (w2 k3 (by omega))
  · omega
theorem lng_uni {ts : List (Bool × TgV)} {u k k' : Nat} (a : lng ts u k) (b : lng ts u k') : k = k' := by
  have f : ∀ {x y : Nat}, lng ts u x → lng ts u y → ¬ x < y := fun {x y} p q z => by
    obtain ⟨w, hw⟩ := q.1
    rw [show y = (x + 1) + (y - (x + 1)) by omega] at hw
    obtain ⟨v, hv⟩ := stp_pre hw
    exact p.2 v hv
  have := f a b
  have := f b a
  omega
theorem lng_next {ts : List (Bool × TgV)} {mk : Nat → Int} {a k : Nat} (W : ∀ w, w < ts.length → ∃ k : Nat, mk w = ((k + 1 : Nat) : Int) ∧ lng ts w k) (ha : a < ts.length) (hk : 0 < k) (hm : mk a = ((k + 1 : Nat) : Int)) : ∃ v, edge ts a v ∧ mk v = (k : Nat) := by
  obtain ⟨k2, m2, l2⟩ := W a ha
  have e : k2 = k := by omega
  subst e
  obtain ⟨k3, rfl⟩ : ∃ k3, k2 = k3 + 1 := ⟨k2 - 1, by omega⟩
  obtain ⟨x, hx⟩ := l2.1
  obtain ⟨v, v1, v2⟩ := stp_front.mp hx
  refine ⟨v, v1, ?_⟩
  obtain ⟨k4, m4, l4⟩ := W v (edge_lt v1).2
  have h1 : ¬ k4 < k3 := fun z => by
    rw [show k3 = (k4 + 1) + (k3 - (k4 + 1)) by omega] at v2
    obtain ⟨w, hw⟩ := stp_pre v2
    exact l4.2 w hw
  have h2 : ¬ k3 < k4 := fun z => by
    obtain ⟨y, hy⟩ := l4.1
    have s := stp_front.mpr ⟨v, v1, hy⟩
    rw [show k4 + 1 = (k3 + 1 + 1) + (k4 - (k3 + 1)) by omega] at s
    obtain ⟨w, hw⟩ := stp_pre s
    exact l2.2 w hw
  omega
theorem dnT_s {ts : List (Bool × TgV)} {mk : Nat → Int} {a k z : Nat} (hk : 0 < k) (hz : z < ts.length) (e : nxtF ts mk a k 6 = z) : dnT ts mk k a = 32 :: tgN (tD ts z) ++ dnT ts mk (k - 1) z := by
  obtain ⟨j, rfl⟩ : ∃ j, k = j + 1 := ⟨k - 1, by omega⟩
  rw [dnT, e, if_pos hz]
  rfl
theorem d293_0 : dc 293 0 = some (.aload_n 0, 1) := by decide +kernel
theorem d293_1 : dc 293 1 = some (.aload_n 1, 2) := by decide +kernel
theorem d293_2 : dc 293 2 = some (.dload 1418, 5) := by decide +kernel
theorem d293_5 : dc 293 5 = some (.bipush 8, 7) := by decide +kernel
theorem d293_7 : dc 293 7 = some (.iload_n 2, 8) := by decide +kernel
theorem d293_8 : dc 293 8 = some (.imul, 9) := by decide +kernel
theorem d293_9 : dc 293 9 = some (.aload_n 1, 10) := by decide +kernel
theorem d293_10 : dc 293 10 = some (.dload 1419, 13) := by decide +kernel
theorem d293_13 : dc 293 13 = some (.iload_n 2, 14) := by decide +kernel
theorem d293_14 : dc 293 14 = some (.iaload, 15) := by decide +kernel
theorem d293_15 : dc 293 15 = some (.invokevirtual 294, 18) := by decide +kernel
theorem d293_18 : dc 293 18 = some (.return_, 19) := by decide +kernel
theorem k_M_sayName {S : Shp} {G : Nat → Option Nat} {d : Nat} {h : Hp} {Q : Option MV → Hp → Prop} {m : Nat} {t : Nat} {fd : Nat} {P0 : PlV} {la : List Nat} (ok : Ok S h) (h1 : 2 ≤ d) (hm : sK S m = 14) (TE : TeR S h m la) (DP : DfC S h (sT S fd m) P0) (hfd : fd = 1664 ∨ fd = 1665) (ht : t < P0.2.2.length) (hcl : cln (tgN (tD P0.2.2 t)))
    (kk : ∀ h', Fr S m [1732, 1733] h h' → TeR S h' m (addBs 20000 la (tgN (tD P0.2.2 t))) → Q none h') : Cl G d 293 [vR (some m), vR (some (sT S fd m)), vI (t : Nat)] h Q := by
  show Wp G d 293 0 [some (vR (some m)), some (vR (some (sT S fd m))), some (vI (t : Nat))] [] h Q
  have TE_0 := TE
  have DP_0 := DP
  have ht14 : t < 14 := by have := DP.2.2.2.1; omega
  have hd0 := hdK ok hm hfd
  have nb := nb_fd (f := 1418) (g := 1732) (m := m) ok (by decide) (fd4 hfd) (by decide)
  refine w_aload_n d293_0 rfl ?_
  refine w_aload_n d293_1 rfl ?_
  refine w_dloadS d293_2 (ok.kd (hdK ok hm hfd)) (fr1418 ok (hdK ok hm hfd)) ?_
  refine w_bipush d293_5 (by decide) ?_
  refine w_iload_n d293_7 rfl ?_
  refine w_imul d293_8 (by constructor <;> omega) ?_
  rw [show (8 : Int) * ((t : Nat) : Int) = ((8 * t : Nat) : Int) by omega]
  refine w_aload_n d293_9 rfl ?_
  refine w_dloadS d293_10 (ok.kd (hdK ok hm hfd)) (fr1419 ok (hdK ok hm hfd)) ?_
  refine w_iload_n d293_13 rfl ?_
  refine w_ialoadV (x := ((tgN (tD P0.2.2 t)).length : Int)) d293_14 (gi1419 ok (hdK ok hm hfd) (by omega)) (DP.2.2.2.2 t ht).1 ?_
  refine w_callv4 d293_15 (by omega) rfl (ok.kd hm) (by simp) (Nat.le_of_ble_eq_true rfl) ?_
  refine k_M_sayBytes ok (by omega) hm TE rfl (DP.2.2.2.2 t ht).2.2.1 nb (SgC.le (DP.2.2.2.2 t ht).2.2.1 (fun i => (ra1418 ok hd0 i).2)) (fun h15 m15 q15 TE => ?_)
  have f15 : Fr S m [1732, 1733] _ _ := Fr.mk ok m15 (fun ζ q => q.elim ((fun ζ e => Or.inl e) ζ) ((fun ζ e => Or.inr ⟨1732, by decide, e ▸ U_refl⟩) ζ)) q15 (by decide)
  have ok15 := f15.ok
  have FR15 := Fr.le (F := [1732, 1733]) f15 (by decide)
  have DP := DfC.r (f := fd) f15 hm (by rcases hfd with rfl | rfl <;> decide) DP
  rw [hcl.map] at TE
  refine w_return d293_18 ?_
  exact kk h15 FR15 TE
theorem d315_0 : dc 315 0 = some (.aload_n 0, 1) := by decide +kernel
theorem d315_1 : dc 315 1 = some (.iload_n 1, 2) := by decide +kernel
theorem d315_2 : dc 315 2 = some (.iload_n 2, 3) := by decide +kernel
theorem d315_3 : dc 315 3 = some (.invokevirtual 316, 6) := by decide +kernel
theorem d315_6 : dc 315 6 = some (.istore_n 3, 7) := by decide +kernel
theorem d315_7 : dc 315 7 = some (.iload_n 3, 8) := by decide +kernel
theorem d315_8 : dc 315 8 = some (.ifCond .ge ((19 : Nat) : Int), 11) := by decide +kernel
theorem d315_11 : dc 315 11 = some (.aload_n 0, 12) := by decide +kernel
theorem d315_12 : dc 315 12 = some (.getstatic 54, 15) := by decide +kernel
theorem d315_15 : dc 315 15 = some (.invokevirtual 217, 18) := by decide +kernel
theorem d315_18 : dc 315 18 = some (.return_, 19) := by decide +kernel
theorem d315_19 : dc 315 19 = some (.iload_n 1, 20) := by decide +kernel
theorem d315_20 : dc 315 20 = some (.istore 4, 22) := by decide +kernel
theorem d315_22 : dc 315 22 = some (.aload_n 0, 23) := by decide +kernel
theorem d315_23 : dc 315 23 = some (.aload_n 0, 24) := by decide +kernel
theorem d315_24 : dc 315 24 = some (.dload 1664, 27) := by decide +kernel
theorem d315_27 : dc 315 27 = some (.iload 4, 29) := by decide +kernel
theorem d315_29 : dc 315 29 = some (.invokevirtual 293, 32) := by decide +kernel
theorem d315_32 : dc 315 32 = some (.iload_n 3, 33) := by decide +kernel
theorem d315_33 : dc 315 33 = some (.istore 5, 35) := by decide +kernel
theorem d315_35 : dc 315 35 = some (.iload 5, 37) := by decide +kernel
theorem d315_37 : dc 315 37 = some (.ifCond .le ((100 : Nat) : Int), 40) := by decide +kernel
theorem d315_40 : dc 315 40 = some (.iconst 0, 41) := by decide +kernel
theorem d315_41 : dc 315 41 = some (.istore 6, 43) := by decide +kernel
theorem d315_43 : dc 315 43 = some (.aload_n 0, 44) := by decide +kernel
theorem d315_44 : dc 315 44 = some (.iload 4, 46) := by decide +kernel
theorem d315_46 : dc 315 46 = some (.iload 6, 48) := by decide +kernel
theorem d315_48 : dc 315 48 = some (.invokevirtual 313, 51) := by decide +kernel
theorem d315_51 : dc 315 51 = some (.ifCond .eq ((68 : Nat) : Int), 54) := by decide +kernel
theorem d315_54 : dc 315 54 = some (.aload_n 0, 55) := by decide +kernel
theorem d315_55 : dc 315 55 = some (.iload 6, 57) := by decide +kernel
theorem d315_57 : dc 315 57 = some (.iload_n 2, 58) := by decide +kernel
theorem d315_58 : dc 315 58 = some (.invokevirtual 316, 61) := by decide +kernel
theorem d315_61 : dc 315 61 = some (.iload 5, 63) := by decide +kernel
theorem d315_63 : dc 315 63 = some (.iconst 1, 64) := by decide +kernel
theorem d315_64 : dc 315 64 = some (.isub, 65) := by decide +kernel
theorem d315_65 : dc 315 65 = some (.if_icmp .eq ((74 : Nat) : Int), 68) := by decide +kernel
theorem d315_68 : dc 315 68 = some (.iinc 6 1, 71) := by decide +kernel
theorem d315_71 : dc 315 71 = some (.goto ((43 : Nat) : Int), 74) := by decide +kernel
theorem d315_74 : dc 315 74 = some (.iload 6, 76) := by decide +kernel
theorem d315_76 : dc 315 76 = some (.istore 4, 78) := by decide +kernel
theorem d315_78 : dc 315 78 = some (.aload_n 0, 79) := by decide +kernel
theorem d315_79 : dc 315 79 = some (.bipush 32, 81) := by decide +kernel
theorem d315_81 : dc 315 81 = some (.invokevirtual 218, 84) := by decide +kernel
theorem d315_84 : dc 315 84 = some (.aload_n 0, 85) := by decide +kernel
theorem d315_85 : dc 315 85 = some (.aload_n 0, 86) := by decide +kernel
theorem d315_86 : dc 315 86 = some (.dload 1664, 89) := by decide +kernel
theorem d315_89 : dc 315 89 = some (.iload 4, 91) := by decide +kernel
theorem d315_91 : dc 315 91 = some (.invokevirtual 293, 94) := by decide +kernel
theorem d315_94 : dc 315 94 = some (.iinc 5 (-1), 97) := by decide +kernel
theorem d315_97 : dc 315 97 = some (.goto ((35 : Nat) : Int), 100) := by decide +kernel
theorem d315_100 : dc 315 100 = some (.return_, 101) := by decide +kernel
theorem k_M_tellWay {S : Shp} {G : Nat → Option Nat} {d : Nat} {h : Hp} {Q : Option MV → Hp → Prop} {m : Nat} {t : Nat} {u : Nat} {P0 : PlV} {la : List Nat} {mk : Nat → Int} (ok : Ok S h) (h1 : 6 ≤ d) (hm : sK S m = 14) (TE : TeR S h m la) (NF : DfC S h (sT S 1664 m) P0) (tg : Tg S G) (ht : t < P0.2.2.length) (hH : tH P0.2.2 t = true) (hu : u < P0.2.2.length) (W : ∀ w, w < P0.2.2.length → wayS P0.2.2 mk u 14 w) (hcl : ∀ u, cln (tgN (tD P0.2.2 u)))
    (kk : ∀ h', Fr S m [1732, 1733] h h' → TeR S h' m (addBs 20000 la (if mk t = 0 then txt 4 else (tgN (tD P0.2.2 t) ++ dnT P0.2.2 mk ((mk t).toNat - 1) t))) → Q none h') : Cl G d 315 [vR (some m), vI (t : Nat), vI (u : Nat)] h Q := by
  show Wp G d 315 0 [some (vR (some m)), some (vI (t : Nat)), some (vI (u : Nat)), none, none, none, none] [] h Q
  have TE_0 := TE
  have NF_0 := NF
  have htl := NF.2.2.2.1
  have hd0 := kT1664 ok hm
  refine w_aload_n d315_0 rfl ?_
  refine w_iload_n d315_1 rfl ?_
  refine w_iload_n d315_2 rfl ?_
  refine w_callv3 d315_3 (by omega) rfl (ok.kd hm) (by simp) (Nat.le_of_ble_eq_true rfl) ?_
  refine k_M_far ok (by omega) hm NF ht hH hu (W t ht) ?_
  refine w_istore3 d315_6 rfl ?_
  refine w_iload_n d315_7 rfl ?_
  refine w_ifge d315_8 (fun c8 => ?_) (fun c8 => ?_)
  · have m0 : ¬ mk t = 0 := by omega
    rw [if_neg m0] at kk
    obtain ⟨n, hn⟩ : ∃ n : Nat, mk t - 1 = (n : Int) := ⟨(mk t - 1).toNat, by omega⟩
    have hn14 : n < 14 := by
      rcases W t ht with ⟨k, k1, k2, k3⟩ | ⟨w1, w2⟩ <;> omega
    rw [hn]
    have n2 : (mk t).toNat - 1 = n := by omega
    rw [n2] at kk
    refine w_iload_n d315_19 rfl ?_
    refine w_istore4 d315_20 rfl ?_
    refine w_aload_n d315_22 rfl ?_
    refine w_aload_n d315_23 rfl ?_
    refine w_dloadS d315_24 (ok.kd hm) (fr1664 ok hm) ?_
    refine w_iload d315_27 rfl ?_
    refine w_callv3 d315_29 (by omega) rfl (ok.kd hm) (by simp) (Nat.le_of_ble_eq_true rfl) ?_
    refine k_M_sayName (fd := 1664) ok (by omega) hm TE NF (Or.inl rfl) ht (hcl t) (fun h29 f29 TE => ?_)
    have ok29 := f29.ok
    have FR29 := Fr.le (F := [1732, 1733]) f29 (by decide)
    have NF := DfC.r (f := 1664) f29 hm (by decide) NF
    refine w_iload_n d315_32 rfl ?_
    refine w_istore5 d315_33 rfl ?_
    have L35 : ∀ (m35 : Nat) (g35 : Hp) (k a : Nat) (X : List Nat), k = m35 → Fr S m [1732, 1733] h g35 → (a < P0.2.2.length ∧ k ≤ 14) → (tH P0.2.2 a = true) → (mk a = ((k + 1 : Nat) : Int)) → (TeR S g35 m (addBs 20000 la X)) → (X ++ dnT P0.2.2 mk k a = tgN (tD P0.2.2 t) ++ dnT P0.2.2 mk n t) → Wp G d 315 35 [some (vR (some m)), some (vI (t : Nat)), some (vI (u : Nat)), some (vI (n : Nat)), some (vI (a : Nat)), some (vI (k : Nat)), none] [] g35 Q := by
      intro m35
      induction m35 using Nat.strongRecOn with | ind m35 IH35 => ?_
      intro g35 k a X hm35 FRg35 hak aH ma TE hX
      have okg35 := FRg35.ok
      have NF := DfC.r (f := 1664) FRg35 hm (by decide) NF_0
      have ha := hak.1
      refine w_iload d315_35 rfl ?_
      refine w_ifle d315_37 (fun c37 => ?_) (fun c37 => ?_)
      · have k0 : k = 0 := by omega
        rw [k0, dnT, List.append_nil] at hX
        rw [hX] at TE
        refine w_return d315_100 ?_
        exact kk g35 FRg35 TE
      · have k0 : 0 < k := by omega
        obtain ⟨v, v1, v2⟩ := way_next W ha k0 ma
        have vl := (edge_lt v1).2
        refine w_iconst d315_40 (by decide) ?_
        refine w_istore6 d315_41 rfl ?_
        have L43 : ∀ (m43 : Nat) (z : Nat), v - z = m43 → (z ≤ v) → (∀ y, y < z → ¬ (edge P0.2.2 a y ∧ mk y = (k : Nat))) → Wp G d 315 43 [some (vR (some m)), some (vI (t : Nat)), some (vI (u : Nat)), some (vI (n : Nat)), some (vI (a : Nat)), some (vI (k : Nat)), some (vI (z : Nat))] [] g35 Q := by
          intro m43
          induction m43 using Nat.strongRecOn with | ind m43 IH43 => ?_
          intro z hm43 zl nn
          refine w_aload_n d315_43 rfl ?_
          refine w_iload d315_44 rfl ?_
          refine w_iload d315_46 rfl ?_
          refine w_callv3 d315_48 (by omega) rfl (okg35.kd hm) (by simp) (Nat.le_of_ble_eq_true rfl) ?_
          refine k_M_names okg35 (by omega) hm NF ha aH (fun b48 bq48 => ?_)
          refine w_ifeq d315_51 (fun c51 => ?_) (fun c51 => ?_)
          · have ne : ¬ edge P0.2.2 a z := fun z => by rw [bq48.mpr z] at c51; exact absurd c51 (by decide)
            refine w_iinc6 d315_68 rfl (by constructor <;> omega) ?_
            refine w_goto d315_71 ?_
            rw [show ((z : Nat) : Int) + 1 = ((z + 1 : Nat) : Int) by omega]
            have nz : ¬ (edge P0.2.2 a z ∧ mk z = (k : Nat)) := by first | exact fun y => ne y.1 | exact fun y => mz y.2
            have zv : z < v := by
              rcases Nat.lt_or_ge z v with y | y
              · exact y
              · rw [show z = v by omega] at nz; exact absurd ⟨v1, v2⟩ nz
            refine w_less ?_ (IH43 _ (by omega) (z + 1) rfl (by omega) (fun y hy => by rcases Nat.lt_or_ge y z with x | x; exact nn y x; rw [show y = z by omega]; exact nz))
            exact ⟨Or.inr rfl, Or.inr rfl, Or.inr rfl, Or.inr rfl, Or.inr rfl, Or.inr rfl, Or.inr rfl, trivial⟩
          · have ed : edge P0.2.2 a z := bq48.mp (by
              rcases Bool.eq_false_or_eq_true b48 with z | z
              · exact z
              · rw [z] at c51; exact absurd rfl c51)
            refine w_aload_n d315_54 rfl ?_
            refine w_iload d315_55 rfl ?_
            refine w_iload_n d315_57 rfl ?_
            refine w_callv3 d315_58 (by omega) rfl (okg35.kd hm) (by simp) (Nat.le_of_ble_eq_true rfl) ?_
            refine k_M_far okg35 (by omega) hm NF (edge_lt ed).2 (edge_H ed) hu (W z (edge_lt ed).2) ?_
            refine w_iload d315_61 rfl ?_
            refine w_iconst d315_63 (by decide) ?_
            refine w_isub d315_64 (by constructor <;> omega) ?_
            refine w_icmpeq d315_65 (fun c65 => ?_) (fun c65 => ?_)
            · have mz : mk z = ((k : Nat) : Int) := by omega
              have nx := nxt_is (mk := mk) (by omega) ((NF.2.2.2.2 a ha).2.2.2.2.2.2.2.2.2.2.1) ed mz nn
              have ds := dnT_s (k := k) (by omega) (edge_lt ed).2 nx
              rw [ds] at hX
              refine w_iload d315_74 rfl ?_
              refine w_istore4 d315_76 rfl ?_
              refine w_aload_n d315_78 rfl ?_
              refine w_bipush d315_79 (by decide) ?_
              refine w_callv2 d315_81 (by omega) rfl (okg35.kd hm) (by simp) (Nat.le_of_ble_eq_true rfl) ?_
              refine k_M_put (c := 32) okg35 (by omega) hm TE (by omega) (fun h81 m81 q81 TE => ?_)
              have f81 : Fr S m [1732, 1733] _ _ := Fr.mk okg35 m81 (fun ζ q => q.elim ((fun ζ e => Or.inl e) ζ) ((fun ζ e => Or.inr ⟨1732, by decide, e ▸ U_refl⟩) ζ)) q81 (by decide)
              have ok81 := f81.ok
              have FR81 := Fr.tr (F := [1732, 1733]) FRg35 f81 (by decide) (by decide)
              have NF := DfC.r (f := 1664) f81 hm (by decide) NF
              refine w_aload_n d315_84 rfl ?_
              refine w_aload_n d315_85 rfl ?_
              refine w_dloadS d315_86 (ok81.kd hm) (fr1664 ok81 hm) ?_
              refine w_iload d315_89 rfl ?_
              refine w_callv3 d315_91 (by omega) rfl (ok81.kd hm) (by simp) (Nat.le_of_ble_eq_true rfl) ?_
              refine k_M_sayName (fd := 1664) ok81 (by omega) hm TE NF (Or.inl rfl) (edge_lt ed).2 (hcl z) (fun h91 f91 TE => ?_)
              have ok91 := f91.ok
              have FR91 := Fr.tr (F := [1732, 1733]) FR81 f91 (by decide) (by decide)
              have NF := DfC.r (f := 1664) f91 hm (by decide) NF
              rw [← addBs_app, ← addBs_app] at TE
              refine w_iinc5 d315_94 rfl (by constructor <;> omega) ?_
              rw [show ((k : Nat) : Int) + (-1) = ((k - 1 : Nat) : Int) by omega]
              refine w_goto d315_97 ?_
              refine w_less ?_ (IH35 _ (by omega) h91 (k - 1) z (X ++ ([32] ++ tgN (tD P0.2.2 z))) rfl FR91 ⟨(edge_lt ed).2, by omega⟩ (edge_H ed) (by rw [mz]; omega) TE (by rw [← hX]; simp only [List.append_assoc, List.cons_append, List.nil_append]))
              exact ⟨Or.inr rfl, Or.inr rfl, Or.inr rfl, Or.inr rfl, Or.inr rfl, Or.inr rfl, Or.inl rfl, trivial⟩
            · have mz : ¬ mk z = ((k : Nat) : Int) := by omega
              refine w_iinc6 d315_68 rfl (by constructor <;> omega) ?_
              refine w_goto d315_71 ?_
              rw [show ((z : Nat) : Int) + 1 = ((z + 1 : Nat) : Int) by omega]
              have nz : ¬ (edge P0.2.2 a z ∧ mk z = (k : Nat)) := by first | exact fun y => ne y.1 | exact fun y => mz y.2
              have zv : z < v := by
                rcases Nat.lt_or_ge z v with y | y
                · exact y
                · rw [show z = v by omega] at nz; exact absurd ⟨v1, v2⟩ nz
              refine w_less ?_ (IH43 _ (by omega) (z + 1) rfl (by omega) (fun y hy => by rcases Nat.lt_or_ge y z with x | x; exact nn y x; rw [show y = z by omega]; exact nz))
              exact ⟨Or.inr rfl, Or.inr rfl, Or.inr rfl, Or.inr rfl, Or.inr rfl, Or.inr rfl, Or.inr rfl, trivial⟩
        refine w_less ?_ (L43 _ 0 rfl (Nat.zero_le _) (fun y hy => absurd hy (Nat.not_lt_zero _)))
        exact ⟨Or.inr rfl, Or.inr rfl, Or.inr rfl, Or.inr rfl, Or.inr rfl, Or.inr rfl, Or.inr rfl, trivial⟩
    refine w_less ?_ (L35 _ h29 n t (tgN (tD P0.2.2 t)) rfl FR29 ⟨ht, by omega⟩ hH (by omega) TE rfl)
    exact ⟨Or.inr rfl, Or.inr rfl, Or.inr rfl, Or.inr rfl, Or.inr rfl, Or.inr rfl, Or.inl rfl, trivial⟩
  · have m0 : mk t = 0 := by rcases W t ht with ⟨k, k1, k2, k3⟩ | ⟨w1, w2⟩ <;> omega
    rw [if_pos m0] at kk
    refine w_aload_n d315_11 rfl ?_
    obtain ⟨g12, v12, s12⟩ := tg.al ok 4 (by decide)
    refine w_getstaticS d315_12 v12 ?_
    refine w_callv2 d315_15 (by omega) rfl (ok.kd hm) (by simp) (Nat.le_of_ble_eq_true rfl) ?_
    refine k_M_say ok (by omega) hm TE s12 (fun h15 m15 q15 TE => ?_)
    have f15 : Fr S m [1732, 1733] _ _ := Fr.mk ok m15 (fun ζ q => q.elim ((fun ζ e => Or.inl e) ζ) ((fun ζ e => Or.inr ⟨1732, by decide, e ▸ U_refl⟩) ζ)) q15 (by decide)
    have ok15 := f15.ok
    have FR15 := Fr.le (F := [1732, 1733]) f15 (by decide)
    have NF := DfC.r (f := 1664) f15 hm (by decide) NF
    refine w_return d315_18 ?_
    exact kk h15 FR15 TE
theorem d311_0 : dc 311 0 = some (.aload_n 0, 1) := by decide +kernel
theorem d311_1 : dc 311 1 = some (.iload_n 1, 2) := by decide +kernel
theorem d311_2 : dc 311 2 = some (.invokevirtual 312, 5) := by decide +kernel
theorem d311_5 : dc 311 5 = some (.istore_n 2, 6) := by decide +kernel
theorem d311_6 : dc 311 6 = some (.aload_n 0, 7) := by decide +kernel
theorem d311_7 : dc 311 7 = some (.iload_n 2, 8) := by decide +kernel
theorem d311_8 : dc 311 8 = some (.invokevirtual 219, 11) := by decide +kernel
theorem d311_11 : dc 311 11 = some (.iload_n 1, 12) := by decide +kernel
theorem d311_12 : dc 311 12 = some (.istore_n 3, 13) := by decide +kernel
theorem d311_13 : dc 311 13 = some (.aload_n 0, 14) := by decide +kernel
theorem d311_14 : dc 311 14 = some (.bipush 32, 16) := by decide +kernel
theorem d311_16 : dc 311 16 = some (.invokevirtual 218, 19) := by decide +kernel
theorem d311_19 : dc 311 19 = some (.aload_n 0, 20) := by decide +kernel
theorem d311_20 : dc 311 20 = some (.aload_n 0, 21) := by decide +kernel
theorem d311_21 : dc 311 21 = some (.dload 1664, 24) := by decide +kernel
theorem d311_24 : dc 311 24 = some (.iload_n 3, 25) := by decide +kernel
theorem d311_25 : dc 311 25 = some (.invokevirtual 293, 28) := by decide +kernel
theorem d311_28 : dc 311 28 = some (.iload_n 2, 29) := by decide +kernel
theorem d311_29 : dc 311 29 = some (.iconst 1, 30) := by decide +kernel
theorem d311_30 : dc 311 30 = some (.isub, 31) := by decide +kernel
theorem d311_31 : dc 311 31 = some (.istore 4, 33) := by decide +kernel
theorem d311_33 : dc 311 33 = some (.iload 4, 35) := by decide +kernel
theorem d311_35 : dc 311 35 = some (.ifCond .le ((92 : Nat) : Int), 38) := by decide +kernel
theorem d311_38 : dc 311 38 = some (.iconst 0, 39) := by decide +kernel
theorem d311_39 : dc 311 39 = some (.istore 5, 41) := by decide +kernel
theorem d311_41 : dc 311 41 = some (.aload_n 0, 42) := by decide +kernel
theorem d311_42 : dc 311 42 = some (.iload_n 3, 43) := by decide +kernel
theorem d311_43 : dc 311 43 = some (.iload 5, 45) := by decide +kernel
theorem d311_45 : dc 311 45 = some (.invokevirtual 313, 48) := by decide +kernel
theorem d311_48 : dc 311 48 = some (.ifCond .eq ((62 : Nat) : Int), 51) := by decide +kernel
theorem d311_51 : dc 311 51 = some (.aload_n 0, 52) := by decide +kernel
theorem d311_52 : dc 311 52 = some (.iload 5, 54) := by decide +kernel
theorem d311_54 : dc 311 54 = some (.invokevirtual 312, 57) := by decide +kernel
theorem d311_57 : dc 311 57 = some (.iload 4, 59) := by decide +kernel
theorem d311_59 : dc 311 59 = some (.if_icmp .eq ((68 : Nat) : Int), 62) := by decide +kernel
theorem d311_62 : dc 311 62 = some (.iinc 5 1, 65) := by decide +kernel
theorem d311_65 : dc 311 65 = some (.goto ((41 : Nat) : Int), 68) := by decide +kernel
theorem d311_68 : dc 311 68 = some (.iload 5, 70) := by decide +kernel
theorem d311_70 : dc 311 70 = some (.istore_n 3, 71) := by decide +kernel
theorem d311_71 : dc 311 71 = some (.aload_n 0, 72) := by decide +kernel
theorem d311_72 : dc 311 72 = some (.bipush 32, 74) := by decide +kernel
theorem d311_74 : dc 311 74 = some (.invokevirtual 218, 77) := by decide +kernel
theorem d311_77 : dc 311 77 = some (.aload_n 0, 78) := by decide +kernel
theorem d311_78 : dc 311 78 = some (.aload_n 0, 79) := by decide +kernel
theorem d311_79 : dc 311 79 = some (.dload 1664, 82) := by decide +kernel
theorem d311_82 : dc 311 82 = some (.iload_n 3, 83) := by decide +kernel
theorem d311_83 : dc 311 83 = some (.invokevirtual 293, 86) := by decide +kernel
theorem d311_86 : dc 311 86 = some (.iinc 4 (-1), 89) := by decide +kernel
theorem d311_89 : dc 311 89 = some (.goto ((33 : Nat) : Int), 92) := by decide +kernel
theorem d311_92 : dc 311 92 = some (.return_, 93) := by decide +kernel
theorem k_M_tellLongest {S : Shp} {G : Nat → Option Nat} {d : Nat} {h : Hp} {Q : Option MV → Hp → Prop} {m : Nat} {t : Nat} {P0 : PlV} {la : List Nat} {mk : Nat → Int} (ok : Ok S h) (h1 : 20 ≤ d) (hm : sK S m = 14) (TE : TeR S h m la) (NF : DfC S h (sT S 1664 m) P0) (ht : t < P0.2.2.length) (hH : tH P0.2.2 t = true) (W : ∀ w, w < P0.2.2.length → ∃ k : Nat, mk w = ((k + 1 : Nat) : Int) ∧ lng P0.2.2 w k) (ac : acy P0.2.2) (hcl : ∀ u, cln (tgN (tD P0.2.2 u)))
    (kk : ∀ h', Fr S m [1732, 1733] h h' → TeR S h' m (addBs 20000 la (dec (mk t).toNat ++ 32 :: tgN (tD P0.2.2 t) ++ dnT P0.2.2 mk ((mk t).toNat - 1) t)) → Q none h') : Cl G d 311 [vR (some m), vI (t : Nat)] h Q := by
  show Wp G d 311 0 [some (vR (some m)), some (vI (t : Nat)), none, none, none, none] [] h Q
  have TE_0 := TE
  have NF_0 := NF
  have htl := NF.2.2.2.1
  have hd0 := kT1664 ok hm
  have n15 : ∀ a, a < P0.2.2.length → ∀ x, ¬ stp P0.2.2 15 a x := fun a ha x s => by have := acy_len ac ha s; omega
  have lb : ∀ a k, a < P0.2.2.length → lng P0.2.2 a k → k < 14 := fun a k ha l => by
    obtain ⟨x, hx⟩ := l.1
    have := acy_len ac ha hx
    omega
  refine w_aload_n d311_0 rfl ?_
  refine w_iload_n d311_1 rfl ?_
  refine w_callv2 d311_2 (by omega) rfl (ok.kd hm) (by simp) (Nat.le_of_ble_eq_true rfl) ?_
  refine k_M_longest (n := 14) ok (by omega) hm NF ht hH (by omega) (n15 t ht) (by decide) (fun n kl2 => ?_)
  have n14 := lb t n ht kl2
  have mt : mk t = ((n + 1 : Nat) : Int) := by
    obtain ⟨k, k1, k2⟩ := W t ht
    rw [lng_uni k2 kl2] at k1
    exact k1
  rw [mt] at kk
  rw [show (((n + 1 : Nat) : Int)).toNat - 1 = n by omega, show (((n + 1 : Nat) : Int)).toNat = n + 1 by omega] at kk
  refine w_istore2 d311_5 rfl ?_
  refine w_aload_n d311_6 rfl ?_
  refine w_iload_n d311_7 rfl ?_
  refine w_callv2 d311_8 (by omega) rfl (ok.kd hm) (by simp) (Nat.le_of_ble_eq_true rfl) ?_
  refine k_M_number (n := 9) ok (by omega) hm (by omega) TE (by omega) (by decide) (fun h8 m8 q8 TE => ?_)
  have f8 : Fr S m [1732, 1733] _ _ := Fr.mk ok m8 (fun ζ q => q.elim ((fun ζ e => Or.inl e) ζ) ((fun ζ e => Or.inr ⟨1732, by decide, e ▸ U_refl⟩) ζ)) q8 (by decide)
  have ok8 := f8.ok
  have FR8 := Fr.le (F := [1732, 1733]) f8 (by decide)
  have NF := DfC.r (f := 1664) f8 hm (by decide) NF
  refine w_iload_n d311_11 rfl ?_
  refine w_istore3 d311_12 rfl ?_
  refine w_aload_n d311_13 rfl ?_
  refine w_bipush d311_14 (by decide) ?_
  refine w_callv2 d311_16 (by omega) rfl (ok8.kd hm) (by simp) (Nat.le_of_ble_eq_true rfl) ?_
  refine k_M_put (c := 32) ok8 (by omega) hm TE (by omega) (fun h16 m16 q16 TE => ?_)
  have f16 : Fr S m [1732, 1733] _ _ := Fr.mk ok8 m16 (fun ζ q => q.elim ((fun ζ e => Or.inl e) ζ) ((fun ζ e => Or.inr ⟨1732, by decide, e ▸ U_refl⟩) ζ)) q16 (by decide)
  have ok16 := f16.ok
  have FR16 := Fr.tr (F := [1732, 1733]) FR8 f16 (by decide) (by decide)
  have NF := DfC.r (f := 1664) f16 hm (by decide) NF
  refine w_aload_n d311_19 rfl ?_
  refine w_aload_n d311_20 rfl ?_
  refine w_dloadS d311_21 (ok16.kd hm) (fr1664 ok16 hm) ?_
  refine w_iload_n d311_24 rfl ?_
  refine w_callv3 d311_25 (by omega) rfl (ok16.kd hm) (by simp) (Nat.le_of_ble_eq_true rfl) ?_
  refine k_M_sayName (fd := 1664) ok16 (by omega) hm TE NF (Or.inl rfl) ht (hcl t) (fun h25 f25 TE => ?_)
  have ok25 := f25.ok
  have FR25 := Fr.tr (F := [1732, 1733]) FR16 f25 (by decide) (by decide)
  have NF := DfC.r (f := 1664) f25 hm (by decide) NF
  rw [← addBs_app, ← addBs_app] at TE
  refine w_iload_n d311_28 rfl ?_
  refine w_iconst d311_29 (by decide) ?_
  refine w_isub d311_30 (by constructor <;> omega) ?_
  rw [show ((n + 1 : Nat) : Int) - 1 = ((n : Nat) : Int) by omega]
  refine w_istore4 d311_31 rfl ?_
  have L33 : ∀ (m33 : Nat) (g33 : Hp) (k a : Nat) (X : List Nat), k = m33 → Fr S m [1732, 1733] h g33 → (a < P0.2.2.length ∧ k ≤ 14) → (tH P0.2.2 a = true) → (mk a = ((k + 1 : Nat) : Int)) → (TeR S g33 m (addBs 20000 la X)) → (X ++ dnT P0.2.2 mk k a = dec (n + 1) ++ 32 :: tgN (tD P0.2.2 t) ++ dnT P0.2.2 mk n t) → Wp G d 311 33 [some (vR (some m)), some (vI (t : Nat)), some (vI (n + 1 : Nat)), some (vI (a : Nat)), some (vI (k : Nat)), none] [] g33 Q := by
    intro m33
    induction m33 using Nat.strongRecOn with | ind m33 IH33 => ?_
    intro g33 k a X hm33 FRg33 hak aH ma TE hX
    have okg33 := FRg33.ok
    have NF := DfC.r (f := 1664) FRg33 hm (by decide) NF_0
    have ha := hak.1
    refine w_iload d311_33 rfl ?_
    refine w_ifle d311_35 (fun c35 => ?_) (fun c35 => ?_)
    · have k0 : k = 0 := by omega
      rw [k0, dnT, List.append_nil] at hX
      rw [hX] at TE
      refine w_return d311_92 ?_
      exact kk g33 FRg33 TE
    · have k0 : 0 < k := by omega
      obtain ⟨v, v1, v2⟩ := lng_next W ha k0 ma
      have vl := (edge_lt v1).2
      refine w_iconst d311_38 (by decide) ?_
      refine w_istore5 d311_39 rfl ?_
      have L41 : ∀ (m41 : Nat) (z : Nat), v - z = m41 → (z ≤ v) → (∀ y, y < z → ¬ (edge P0.2.2 a y ∧ mk y = (k : Nat))) → Wp G d 311 41 [some (vR (some m)), some (vI (t : Nat)), some (vI (n + 1 : Nat)), some (vI (a : Nat)), some (vI (k : Nat)), some (vI (z : Nat))] [] g33 Q := by
        intro m41
        induction m41 using Nat.strongRecOn with | ind m41 IH41 => ?_
        intro z hm41 zl nn
        refine w_aload_n d311_41 rfl ?_
        refine w_iload_n d311_42 rfl ?_
        refine w_iload d311_43 rfl ?_
        refine w_callv3 d311_45 (by omega) rfl (okg33.kd hm) (by simp) (Nat.le_of_ble_eq_true rfl) ?_
        refine k_M_names okg33 (by omega) hm NF ha aH (fun b45 bq45 => ?_)
        refine w_ifeq d311_48 (fun c48 => ?_) (fun c48 => ?_)
        · have ne : ¬ edge P0.2.2 a z := fun z => by rw [bq45.mpr z] at c48; exact absurd c48 (by decide)
          refine w_iinc5 d311_62 rfl (by constructor <;> omega) ?_
          refine w_goto d311_65 ?_
          rw [show ((z : Nat) : Int) + 1 = ((z + 1 : Nat) : Int) by omega]
          have nz : ¬ (edge P0.2.2 a z ∧ mk z = (k : Nat)) := by first | exact fun y => ne y.1 | exact fun y => mz y.2
          have zv : z < v := by
            rcases Nat.lt_or_ge z v with y | y
            · exact y
            · rw [show z = v by omega] at nz; exact absurd ⟨v1, v2⟩ nz
          refine w_less ?_ (IH41 _ (by omega) (z + 1) rfl (by omega) (fun y hy => by rcases Nat.lt_or_ge y z with x | x; exact nn y x; rw [show y = z by omega]; exact nz))
          exact ⟨Or.inr rfl, Or.inr rfl, Or.inr rfl, Or.inr rfl, Or.inr rfl, Or.inr rfl, trivial⟩
        · have ed : edge P0.2.2 a z := bq45.mp (by
            rcases Bool.eq_false_or_eq_true b45 with z | z
            · exact z
            · rw [z] at c48; exact absurd rfl c48)
          refine w_aload_n d311_51 rfl ?_
          refine w_iload d311_52 rfl ?_
          refine w_callv2 d311_54 (by omega) rfl (okg33.kd hm) (by simp) (Nat.le_of_ble_eq_true rfl) ?_
          refine k_M_longest (n := 14) okg33 (by omega) hm NF (edge_lt ed).2 (edge_H ed) (by omega) (n15 z (edge_lt ed).2) (by decide) (fun k54 kl54 => ?_)
          have mz0 : mk z = ((k54 + 1 : Nat) : Int) := by
            obtain ⟨k, k1, k2⟩ := W z (edge_lt ed).2
            rw [lng_uni k2 kl54] at k1
            exact k1
          refine w_iload d311_57 rfl ?_
          refine w_icmpeq d311_59 (fun c59 => ?_) (fun c59 => ?_)
          · have mz : mk z = ((k : Nat) : Int) := by omega
            have nx := nxt_is (mk := mk) (by omega) ((NF.2.2.2.2 a ha).2.2.2.2.2.2.2.2.2.2.1) ed mz nn
            have ds := dnT_s (k := k) (by omega) (edge_lt ed).2 nx
            rw [ds] at hX
            refine w_iload d311_68 rfl ?_
            refine w_istore3 d311_70 rfl ?_
            refine w_aload_n d311_71 rfl ?_
            refine w_bipush d311_72 (by decide) ?_
            refine w_callv2 d311_74 (by omega) rfl (okg33.kd hm) (by simp) (Nat.le_of_ble_eq_true rfl) ?_
            refine k_M_put (c := 32) okg33 (by omega) hm TE (by omega) (fun h74 m74 q74 TE => ?_)
            have f74 : Fr S m [1732, 1733] _ _ := Fr.mk okg33 m74 (fun ζ q => q.elim ((fun ζ e => Or.inl e) ζ) ((fun ζ e => Or.inr ⟨1732, by decide, e ▸ U_refl⟩) ζ)) q74 (by decide)
            have ok74 := f74.ok
            have FR74 := Fr.tr (F := [1732, 1733]) FRg33 f74 (by decide) (by decide)
            have NF := DfC.r (f := 1664) f74 hm (by decide) NF
            refine w_aload_n d311_77 rfl ?_
            refine w_aload_n d311_78 rfl ?_
            refine w_dloadS d311_79 (ok74.kd hm) (fr1664 ok74 hm) ?_
            refine w_iload_n d311_82 rfl ?_
            refine w_callv3 d311_83 (by omega) rfl (ok74.kd hm) (by simp) (Nat.le_of_ble_eq_true rfl) ?_
            refine k_M_sayName (fd := 1664) ok74 (by omega) hm TE NF (Or.inl rfl) (edge_lt ed).2 (hcl z) (fun h83 f83 TE => ?_)
            have ok83 := f83.ok
            have FR83 := Fr.tr (F := [1732, 1733]) FR74 f83 (by decide) (by decide)
            have NF := DfC.r (f := 1664) f83 hm (by decide) NF
            rw [← addBs_app, ← addBs_app] at TE
            refine w_iinc4 d311_86 rfl (by constructor <;> omega) ?_
            rw [show ((k : Nat) : Int) + (-1) = ((k - 1 : Nat) : Int) by omega]
            refine w_goto d311_89 ?_
            refine w_less ?_ (IH33 _ (by omega) h83 (k - 1) z (X ++ ([32] ++ tgN (tD P0.2.2 z))) rfl FR83 ⟨(edge_lt ed).2, by omega⟩ (edge_H ed) (by rw [mz]; omega) TE (by rw [← hX]; simp only [List.append_assoc, List.cons_append, List.nil_append]))
            exact ⟨Or.inr rfl, Or.inr rfl, Or.inr rfl, Or.inr rfl, Or.inr rfl, Or.inl rfl, trivial⟩
          · have mz : ¬ mk z = ((k : Nat) : Int) := by omega
            refine w_iinc5 d311_62 rfl (by constructor <;> omega) ?_
            refine w_goto d311_65 ?_
            rw [show ((z : Nat) : Int) + 1 = ((z + 1 : Nat) : Int) by omega]
            have nz : ¬ (edge P0.2.2 a z ∧ mk z = (k : Nat)) := by first | exact fun y => ne y.1 | exact fun y => mz y.2
            have zv : z < v := by
              rcases Nat.lt_or_ge z v with y | y
              · exact y
              · rw [show z = v by omega] at nz; exact absurd ⟨v1, v2⟩ nz
            refine w_less ?_ (IH41 _ (by omega) (z + 1) rfl (by omega) (fun y hy => by rcases Nat.lt_or_ge y z with x | x; exact nn y x; rw [show y = z by omega]; exact nz))
            exact ⟨Or.inr rfl, Or.inr rfl, Or.inr rfl, Or.inr rfl, Or.inr rfl, Or.inr rfl, trivial⟩
      refine w_less ?_ (L41 _ 0 rfl (Nat.zero_le _) (fun y hy => absurd hy (Nat.not_lt_zero _)))
      exact ⟨Or.inr rfl, Or.inr rfl, Or.inr rfl, Or.inr rfl, Or.inr rfl, Or.inr rfl, trivial⟩
  refine w_less ?_ (L33 _ h25 n t _ rfl FR25 ⟨ht, by omega⟩ hH mt TE (by simp only [List.append_assoc, List.cons_append, List.nil_append]))
  exact ⟨Or.inr rfl, Or.inr rfl, Or.inr rfl, Or.inr rfl, Or.inr rfl, Or.inl rfl, trivial⟩
