/-! versions: rules told, refused, added; values judged -/
theorem dec1 {n : Nat} (h : n < 10) : dec n = [48 + n] := by
  have : ∀ i : Fin 10, dec i.val = [48 + i.val] := by decide +kernel
  exact this ⟨n, h⟩
theorem d81_0 : dc 81 0 = some (.iload_n 2, 1) := by decide +kernel
theorem d81_1 : dc 81 1 = some (.ifCond .le ((8 : Nat) : Int), 4) := by decide +kernel
theorem d81_4 : dc 81 4 = some (.iconst 1, 5) := by decide +kernel
theorem d81_5 : dc 81 5 = some (.goto ((9 : Nat) : Int), 8) := by decide +kernel
theorem d81_8 : dc 81 8 = some (.iconst 0, 9) := by decide +kernel
theorem d81_9 : dc 81 9 = some (.istore_n 3, 10) := by decide +kernel
theorem d81_10 : dc 81 10 = some (.aload_n 1, 11) := by decide +kernel
theorem d81_11 : dc 81 11 = some (.iload_n 2, 12) := by decide +kernel
theorem d81_12 : dc 81 12 = some (.iconst 1, 13) := by decide +kernel
theorem d81_13 : dc 81 13 = some (.iadd, 14) := by decide +kernel
theorem d81_14 : dc 81 14 = some (.iaload, 15) := by decide +kernel
theorem d81_15 : dc 81 15 = some (.istore 4, 17) := by decide +kernel
theorem d81_17 : dc 81 17 = some (.aload_n 1, 18) := by decide +kernel
theorem d81_18 : dc 81 18 = some (.iload_n 2, 19) := by decide +kernel
theorem d81_19 : dc 81 19 = some (.iconst 2, 20) := by decide +kernel
theorem d81_20 : dc 81 20 = some (.iadd, 21) := by decide +kernel
theorem d81_21 : dc 81 21 = some (.iaload, 22) := by decide +kernel
theorem d81_22 : dc 81 22 = some (.istore 5, 24) := by decide +kernel
theorem d81_24 : dc 81 24 = some (.aload_n 1, 25) := by decide +kernel
theorem d81_25 : dc 81 25 = some (.iload_n 2, 26) := by decide +kernel
theorem d81_26 : dc 81 26 = some (.iaload, 27) := by decide +kernel
theorem d81_27 : dc 81 27 = some (.iconst 5, 28) := by decide +kernel
theorem d81_28 : dc 81 28 = some (.if_icmp .ge ((42 : Nat) : Int), 31) := by decide +kernel
theorem d81_31 : dc 81 31 = some (.iload_n 3, 32) := by decide +kernel
theorem d81_32 : dc 81 32 = some (.ifCond .eq ((45 : Nat) : Int), 35) := by decide +kernel
theorem d81_35 : dc 81 35 = some (.aload_n 1, 36) := by decide +kernel
theorem d81_36 : dc 81 36 = some (.iconst 0, 37) := by decide +kernel
theorem d81_37 : dc 81 37 = some (.iaload, 38) := by decide +kernel
theorem d81_38 : dc 81 38 = some (.iconst 5, 39) := by decide +kernel
theorem d81_39 : dc 81 39 = some (.if_icmp .lt ((45 : Nat) : Int), 42) := by decide +kernel
theorem d81_42 : dc 81 42 = some (.getstatic 66, 44) := by decide +kernel
theorem d81_44 : dc 81 44 = some (.areturn, 45) := by decide +kernel
theorem d81_45 : dc 81 45 = some (.iload 4, 47) := by decide +kernel
theorem d81_47 : dc 81 47 = some (.iconst 1, 48) := by decide +kernel
theorem d81_48 : dc 81 48 = some (.if_icmp .lt ((82 : Nat) : Int), 51) := by decide +kernel
theorem d81_51 : dc 81 51 = some (.iload 5, 53) := by decide +kernel
theorem d81_53 : dc 81 53 = some (.iconst 3, 54) := by decide +kernel
theorem d81_54 : dc 81 54 = some (.if_icmp .gt ((82 : Nat) : Int), 57) := by decide +kernel
theorem d81_57 : dc 81 57 = some (.iload 4, 59) := by decide +kernel
theorem d81_59 : dc 81 59 = some (.iload 5, 61) := by decide +kernel
theorem d81_61 : dc 81 61 = some (.if_icmp .gt ((82 : Nat) : Int), 64) := by decide +kernel
theorem d81_64 : dc 81 64 = some (.iload_n 3, 65) := by decide +kernel
theorem d81_65 : dc 81 65 = some (.ifCond .eq ((85 : Nat) : Int), 68) := by decide +kernel
theorem d81_68 : dc 81 68 = some (.aload_n 1, 69) := by decide +kernel
theorem d81_69 : dc 81 69 = some (.iconst 1, 70) := by decide +kernel
theorem d81_70 : dc 81 70 = some (.iaload, 71) := by decide +kernel
theorem d81_71 : dc 81 71 = some (.iconst 1, 72) := by decide +kernel
theorem d81_72 : dc 81 72 = some (.if_icmp .lt ((82 : Nat) : Int), 75) := by decide +kernel
theorem d81_75 : dc 81 75 = some (.aload_n 1, 76) := by decide +kernel
theorem d81_76 : dc 81 76 = some (.iconst 1, 77) := by decide +kernel
theorem d81_77 : dc 81 77 = some (.iaload, 78) := by decide +kernel
theorem d81_78 : dc 81 78 = some (.iconst 3, 79) := by decide +kernel
theorem d81_79 : dc 81 79 = some (.if_icmp .le ((85 : Nat) : Int), 82) := by decide +kernel
theorem d81_82 : dc 81 82 = some (.getstatic 67, 84) := by decide +kernel
theorem d81_84 : dc 81 84 = some (.areturn, 85) := by decide +kernel
theorem d81_85 : dc 81 85 = some (.aload_n 0, 86) := by decide +kernel
theorem d81_86 : dc 81 86 = some (.getfield 1024, 89) := by decide +kernel
theorem d81_89 : dc 81 89 = some (.bipush 20, 91) := by decide +kernel
theorem d81_91 : dc 81 91 = some (.if_icmp .lt ((99 : Nat) : Int), 94) := by decide +kernel
theorem d81_94 : dc 81 94 = some (.getstatic 68, 96) := by decide +kernel
theorem d81_96 : dc 81 96 = some (.goto ((101 : Nat) : Int), 99) := by decide +kernel
theorem d81_99 : dc 81 99 = some (.getstatic 69, 101) := by decide +kernel
theorem d81_101 : dc 81 101 = some (.areturn, 102) := by decide +kernel
theorem k_Vr_refusal {S : Shp} {G : Nat → Option Nat} {d : Nat} {h : Hp} {Q : Option MV → Hp → Prop} {v : Nat} {f : Nat} {q : Nat} (ok : Ok S h) (h1 : 0 ≤ d) (hv : sK S v = 9) (tg : Tg S G) (hq : sK S q = 5) {rs : List RuV} (vc : VrC S h v rs) (hf : f ≤ 2)
    (kk : Q (some (vR (G (50 + rfs (AI h (sT S 520 q)) f rs.length)))) h) : Cl G d 81 [vR (some v), vR (some (sT S 520 q)), vI (f : Nat)] h Q := by
  show Wp G d 81 0 [some (vR (some v)), some (vR (some (sT S 520 q))), some (vI (f : Nat)), none, none, none] [] h Q
  refine w_iload_n d81_0 rfl ?_
  refine w_ifle d81_1 (fun c1 => ?_) (fun c1 => ?_)
  · refine w_iconst d81_8 (by decide) ?_
    refine w_istore3 d81_9 rfl ?_
    refine w_aload_n d81_10 rfl ?_
    refine w_iload_n d81_11 rfl ?_
    refine w_iconst d81_12 (by decide) ?_
    refine w_iadd d81_13 (by constructor <;> omega) ?_
    refine w_ialoadV (x := (AI h (sT S 520 q) (f + 1))) d81_14 (gi520 ok hq (by omega)) ((by rfl) : AI h (sT S 520 q) (((f : Nat) : Int) + 1).toNat = AI h (sT S 520 q) (f + 1)) ?_
    refine w_istore4 d81_15 rfl ?_
    refine w_aload_n d81_17 rfl ?_
    refine w_iload_n d81_18 rfl ?_
    refine w_iconst d81_19 (by decide) ?_
    refine w_iadd d81_20 (by constructor <;> omega) ?_
    refine w_ialoadV (x := (AI h (sT S 520 q) (f + 2))) d81_21 (gi520 ok hq (by omega)) ((by rfl) : AI h (sT S 520 q) (((f : Nat) : Int) + 2).toNat = AI h (sT S 520 q) (f + 2)) ?_
    refine w_istore5 d81_22 rfl ?_
    refine w_aload_n d81_24 rfl ?_
    refine w_iload_n d81_25 rfl ?_
    refine w_ialoadV (x := (AI h (sT S 520 q) (f))) d81_26 (gi520 ok hq (by omega)) (rfl : AI h (sT S 520 q) (((f : Nat) : Int)).toNat = AI h (sT S 520 q) (f)) ?_
    refine w_iconst d81_27 (by decide) ?_
    refine w_icmpge d81_28 (fun c28 => ?_) (fun c28 => ?_)
    · obtain ⟨g42, v42, s42⟩ := tg.tx ok 16 (by decide)
      refine w_getstaticS d81_42 v42 ?_
      refine w_areturn d81_44 ?_
      have er : rfs (AI h (sT S 520 q)) f rs.length = 16 := by unfold rfs; split <;> (try omega) <;> split <;> (try omega) <;> split <;> omega
      rw [er] at kk
      rw [v42] at kk
      exact kk
    · refine w_iload_n d81_31 rfl ?_
      refine w_ifeq d81_32 (fun c32 => ?_) (fun c32 => ?_)
      · have nn : ¬ 0 < f := by omega
        refine w_iload d81_45 rfl ?_
        refine w_iconst d81_47 (by decide) ?_
        refine w_icmplt d81_48 (fun c48 => ?_) (fun c48 => ?_)
        · obtain ⟨g82, v82, s82⟩ := tg.tx ok 17 (by decide)
          refine w_getstaticS d81_82 v82 ?_
          refine w_areturn d81_84 ?_
          have er : rfs (AI h (sT S 520 q)) f rs.length = 17 := by unfold rfs; split <;> (try omega) <;> split <;> (try omega) <;> split <;> omega
          rw [er] at kk
          rw [v82] at kk
          exact kk
        · refine w_iload d81_51 rfl ?_
          refine w_iconst d81_53 (by decide) ?_
          refine w_icmpgt d81_54 (fun c54 => ?_) (fun c54 => ?_)
          · obtain ⟨g82, v82, s82⟩ := tg.tx ok 17 (by decide)
            refine w_getstaticS d81_82 v82 ?_
            refine w_areturn d81_84 ?_
            have er : rfs (AI h (sT S 520 q)) f rs.length = 17 := by unfold rfs; split <;> (try omega) <;> split <;> (try omega) <;> split <;> omega
            rw [er] at kk
            rw [v82] at kk
            exact kk
          · refine w_iload d81_57 rfl ?_
            refine w_iload d81_59 rfl ?_
            refine w_icmpgt d81_61 (fun c61 => ?_) (fun c61 => ?_)
            · obtain ⟨g82, v82, s82⟩ := tg.tx ok 17 (by decide)
              refine w_getstaticS d81_82 v82 ?_
              refine w_areturn d81_84 ?_
              have er : rfs (AI h (sT S 520 q)) f rs.length = 17 := by unfold rfs; split <;> (try omega) <;> split <;> (try omega) <;> split <;> omega
              rw [er] at kk
              rw [v82] at kk
              exact kk
            · refine w_iload_n d81_64 rfl ?_
              refine w_ifeq d81_65 (fun c65 => ?_) (fun c65 => ?_)
              · have n2 : ¬ 0 < f := by omega
                refine w_aload_n d81_85 rfl ?_
                refine w_getI (x := (rs.length : Int)) d81_86 (ok.kd hv) vc.1 ?_
                refine w_bipush d81_89 (by decide) ?_
                refine w_icmplt d81_91 (fun c91 => ?_) (fun c91 => ?_)
                · obtain ⟨g99, v99, s99⟩ := tg.tx ok 19 (by decide)
                  refine w_getstaticS d81_99 v99 ?_
                  refine w_areturn d81_101 ?_
                  have er : rfs (AI h (sT S 520 q)) f rs.length = 19 := by unfold rfs; split <;> (try omega) <;> split <;> (try omega) <;> split <;> omega
                  rw [er] at kk
                  rw [v99] at kk
                  exact kk
                · obtain ⟨g94, v94, s94⟩ := tg.tx ok 18 (by decide)
                  refine w_getstaticS d81_94 v94 ?_
                  refine w_goto d81_96 ?_
                  refine w_areturn d81_101 ?_
                  have er : rfs (AI h (sT S 520 q)) f rs.length = 18 := by unfold rfs; split <;> (try omega) <;> split <;> (try omega) <;> split <;> omega
                  rw [er] at kk
                  rw [v94] at kk
                  exact kk
              · exact absurd rfl c65
      · exact absurd rfl c32
  · refine w_iconst d81_4 (by decide) ?_
    refine w_goto d81_5 ?_
    refine w_istore3 d81_9 rfl ?_
    refine w_aload_n d81_10 rfl ?_
    refine w_iload_n d81_11 rfl ?_
    refine w_iconst d81_12 (by decide) ?_
    refine w_iadd d81_13 (by constructor <;> omega) ?_
    refine w_ialoadV (x := (AI h (sT S 520 q) (f + 1))) d81_14 (gi520 ok hq (by omega)) ((by rfl) : AI h (sT S 520 q) (((f : Nat) : Int) + 1).toNat = AI h (sT S 520 q) (f + 1)) ?_
    refine w_istore4 d81_15 rfl ?_
    refine w_aload_n d81_17 rfl ?_
    refine w_iload_n d81_18 rfl ?_
    refine w_iconst d81_19 (by decide) ?_
    refine w_iadd d81_20 (by constructor <;> omega) ?_
    refine w_ialoadV (x := (AI h (sT S 520 q) (f + 2))) d81_21 (gi520 ok hq (by omega)) ((by rfl) : AI h (sT S 520 q) (((f : Nat) : Int) + 2).toNat = AI h (sT S 520 q) (f + 2)) ?_
    refine w_istore5 d81_22 rfl ?_
    refine w_aload_n d81_24 rfl ?_
    refine w_iload_n d81_25 rfl ?_
    refine w_ialoadV (x := (AI h (sT S 520 q) (f))) d81_26 (gi520 ok hq (by omega)) (rfl : AI h (sT S 520 q) (((f : Nat) : Int)).toNat = AI h (sT S 520 q) (f)) ?_
    refine w_iconst d81_27 (by decide) ?_
    refine w_icmpge d81_28 (fun c28 => ?_) (fun c28 => ?_)
    · obtain ⟨g42, v42, s42⟩ := tg.tx ok 16 (by decide)
      refine w_getstaticS d81_42 v42 ?_
      refine w_areturn d81_44 ?_
      have er : rfs (AI h (sT S 520 q)) f rs.length = 16 := by unfold rfs; split <;> (try omega) <;> split <;> (try omega) <;> split <;> omega
      rw [er] at kk
      rw [v42] at kk
      exact kk
    · refine w_iload_n d81_31 rfl ?_
      refine w_ifeq d81_32 (fun c32 => ?_) (fun c32 => ?_)
      · exact absurd c32 (by decide)
      · have nn : 0 < f := by omega
        refine w_aload_n d81_35 rfl ?_
        refine w_iconst d81_36 (by decide) ?_
        refine w_ialoadV (x := (AI h (sT S 520 q) (0))) d81_37 (gi520 ok hq (by omega)) (rfl : AI h (sT S 520 q) (0 : Int).toNat = AI h (sT S 520 q) (0)) ?_
        refine w_iconst d81_38 (by decide) ?_
        refine w_icmplt d81_39 (fun c39 => ?_) (fun c39 => ?_)
        · refine w_iload d81_45 rfl ?_
          refine w_iconst d81_47 (by decide) ?_
          refine w_icmplt d81_48 (fun c48 => ?_) (fun c48 => ?_)
          · obtain ⟨g82, v82, s82⟩ := tg.tx ok 17 (by decide)
            refine w_getstaticS d81_82 v82 ?_
            refine w_areturn d81_84 ?_
            have er : rfs (AI h (sT S 520 q)) f rs.length = 17 := by unfold rfs; split <;> (try omega) <;> split <;> (try omega) <;> split <;> omega
            rw [er] at kk
            rw [v82] at kk
            exact kk
          · refine w_iload d81_51 rfl ?_
            refine w_iconst d81_53 (by decide) ?_
            refine w_icmpgt d81_54 (fun c54 => ?_) (fun c54 => ?_)
            · obtain ⟨g82, v82, s82⟩ := tg.tx ok 17 (by decide)
              refine w_getstaticS d81_82 v82 ?_
              refine w_areturn d81_84 ?_
              have er : rfs (AI h (sT S 520 q)) f rs.length = 17 := by unfold rfs; split <;> (try omega) <;> split <;> (try omega) <;> split <;> omega
              rw [er] at kk
              rw [v82] at kk
              exact kk
            · refine w_iload d81_57 rfl ?_
              refine w_iload d81_59 rfl ?_
              refine w_icmpgt d81_61 (fun c61 => ?_) (fun c61 => ?_)
              · obtain ⟨g82, v82, s82⟩ := tg.tx ok 17 (by decide)
                refine w_getstaticS d81_82 v82 ?_
                refine w_areturn d81_84 ?_
                have er : rfs (AI h (sT S 520 q)) f rs.length = 17 := by unfold rfs; split <;> (try omega) <;> split <;> (try omega) <;> split <;> omega
                rw [er] at kk
                rw [v82] at kk
                exact kk
              · refine w_iload_n d81_64 rfl ?_
                refine w_ifeq d81_65 (fun c65 => ?_) (fun c65 => ?_)
                · exact absurd c65 (by decide)
                · have n2 : 0 < f := by omega
                  refine w_aload_n d81_68 rfl ?_
                  refine w_iconst d81_69 (by decide) ?_
                  refine w_ialoadV (x := (AI h (sT S 520 q) (1))) d81_70 (gi520 ok hq (by omega)) (rfl : AI h (sT S 520 q) (1 : Int).toNat = AI h (sT S 520 q) (1)) ?_
                  refine w_iconst d81_71 (by decide) ?_
                  refine w_icmplt d81_72 (fun c72 => ?_) (fun c72 => ?_)
                  · obtain ⟨g82, v82, s82⟩ := tg.tx ok 17 (by decide)
                    refine w_getstaticS d81_82 v82 ?_
                    refine w_areturn d81_84 ?_
                    have er : rfs (AI h (sT S 520 q)) f rs.length = 17 := by unfold rfs; split <;> (try omega) <;> split <;> (try omega) <;> split <;> omega
                    rw [er] at kk
                    rw [v82] at kk
                    exact kk
                  · refine w_aload_n d81_75 rfl ?_
                    refine w_iconst d81_76 (by decide) ?_
                    refine w_ialoadV (x := (AI h (sT S 520 q) (1))) d81_77 (gi520 ok hq (by omega)) (rfl : AI h (sT S 520 q) (1 : Int).toNat = AI h (sT S 520 q) (1)) ?_
                    refine w_iconst d81_78 (by decide) ?_
                    refine w_icmple d81_79 (fun c79 => ?_) (fun c79 => ?_)
                    · refine w_aload_n d81_85 rfl ?_
                      refine w_getI (x := (rs.length : Int)) d81_86 (ok.kd hv) vc.1 ?_
                      refine w_bipush d81_89 (by decide) ?_
                      refine w_icmplt d81_91 (fun c91 => ?_) (fun c91 => ?_)
                      · obtain ⟨g99, v99, s99⟩ := tg.tx ok 19 (by decide)
                        refine w_getstaticS d81_99 v99 ?_
                        refine w_areturn d81_101 ?_
                        have er : rfs (AI h (sT S 520 q)) f rs.length = 19 := by unfold rfs; split <;> (try omega) <;> split <;> (try omega) <;> split <;> omega
                        rw [er] at kk
                        rw [v99] at kk
                        exact kk
                      · obtain ⟨g94, v94, s94⟩ := tg.tx ok 18 (by decide)
                        refine w_getstaticS d81_94 v94 ?_
                        refine w_goto d81_96 ?_
                        refine w_areturn d81_101 ?_
                        have er : rfs (AI h (sT S 520 q)) f rs.length = 18 := by unfold rfs; split <;> (try omega) <;> split <;> (try omega) <;> split <;> omega
                        rw [er] at kk
                        rw [v94] at kk
                        exact kk
                    · obtain ⟨g82, v82, s82⟩ := tg.tx ok 17 (by decide)
                      refine w_getstaticS d81_82 v82 ?_
                      refine w_areturn d81_84 ?_
                      have er : rfs (AI h (sT S 520 q)) f rs.length = 17 := by unfold rfs; split <;> (try omega) <;> split <;> (try omega) <;> split <;> omega
                      rw [er] at kk
                      rw [v82] at kk
                      exact kk
        · obtain ⟨g42, v42, s42⟩ := tg.tx ok 16 (by decide)
          refine w_getstaticS d81_42 v42 ?_
          refine w_areturn d81_44 ?_
          have er : rfs (AI h (sT S 520 q)) f rs.length = 16 := by unfold rfs; split <;> (try omega) <;> split <;> (try omega) <;> split <;> omega
          rw [er] at kk
          rw [v42] at kk
          exact kk
theorem d158_0 : dc 158 0 = some (.iconst 0, 1) := by decide +kernel
theorem d158_1 : dc 158 1 = some (.istore_n 2, 2) := by decide +kernel
theorem d158_2 : dc 158 2 = some (.iload_n 2, 3) := by decide +kernel
theorem d158_3 : dc 158 3 = some (.aload_n 0, 4) := by decide +kernel
theorem d158_4 : dc 158 4 = some (.getfield 1024, 7) := by decide +kernel
theorem d158_7 : dc 158 7 = some (.if_icmp .ge ((120 : Nat) : Int), 10) := by decide +kernel
theorem d158_10 : dc 158 10 = some (.aload_n 0, 11) := by decide +kernel
theorem d158_11 : dc 158 11 = some (.dload 1025, 14) := by decide +kernel
theorem d158_14 : dc 158 14 = some (.iload_n 2, 15) := by decide +kernel
theorem d158_15 : dc 158 15 = some (.iaload, 16) := by decide +kernel
theorem d158_16 : dc 158 16 = some (.ifCond .ge ((28 : Nat) : Int), 19) := by decide +kernel
theorem d158_19 : dc 158 19 = some (.aload_n 1, 20) := by decide +kernel
theorem d158_20 : dc 158 20 = some (.bipush 119, 22) := by decide +kernel
theorem d158_22 : dc 158 22 = some (.invokevirtual 15, 25) := by decide +kernel
theorem d158_25 : dc 158 25 = some (.goto ((66 : Nat) : Int), 28) := by decide +kernel
theorem d158_28 : dc 158 28 = some (.aload_n 1, 29) := by decide +kernel
theorem d158_29 : dc 158 29 = some (.bipush 110, 31) := by decide +kernel
theorem d158_31 : dc 158 31 = some (.invokevirtual 15, 34) := by decide +kernel
theorem d158_34 : dc 158 34 = some (.aload_n 1, 35) := by decide +kernel
theorem d158_35 : dc 158 35 = some (.aload_n 0, 36) := by decide +kernel
theorem d158_36 : dc 158 36 = some (.dload 1025, 39) := by decide +kernel
theorem d158_39 : dc 158 39 = some (.iload_n 2, 40) := by decide +kernel
theorem d158_40 : dc 158 40 = some (.iaload, 41) := by decide +kernel
theorem d158_41 : dc 158 41 = some (.invokevirtual 124, 44) := by decide +kernel
theorem d158_44 : dc 158 44 = some (.aload_n 1, 45) := by decide +kernel
theorem d158_45 : dc 158 45 = some (.bipush 32, 47) := by decide +kernel
theorem d158_47 : dc 158 47 = some (.invokevirtual 15, 50) := by decide +kernel
theorem d158_50 : dc 158 50 = some (.aload_n 1, 51) := by decide +kernel
theorem d158_51 : dc 158 51 = some (.aload_n 0, 52) := by decide +kernel
theorem d158_52 : dc 158 52 = some (.dload 1026, 55) := by decide +kernel
theorem d158_55 : dc 158 55 = some (.iload_n 2, 56) := by decide +kernel
theorem d158_56 : dc 158 56 = some (.iaload, 57) := by decide +kernel
theorem d158_57 : dc 158 57 = some (.invokevirtual 124, 60) := by decide +kernel
theorem d158_60 : dc 158 60 = some (.aload_n 1, 61) := by decide +kernel
theorem d158_61 : dc 158 61 = some (.bipush 32, 63) := by decide +kernel
theorem d158_63 : dc 158 63 = some (.invokevirtual 15, 66) := by decide +kernel
theorem d158_66 : dc 158 66 = some (.aload_n 1, 67) := by decide +kernel
theorem d158_67 : dc 158 67 = some (.aload_n 0, 68) := by decide +kernel
theorem d158_68 : dc 158 68 = some (.dload 1027, 71) := by decide +kernel
theorem d158_71 : dc 158 71 = some (.iload_n 2, 72) := by decide +kernel
theorem d158_72 : dc 158 72 = some (.iaload, 73) := by decide +kernel
theorem d158_73 : dc 158 73 = some (.invokevirtual 124, 76) := by decide +kernel
theorem d158_76 : dc 158 76 = some (.aload_n 1, 77) := by decide +kernel
theorem d158_77 : dc 158 77 = some (.bipush 32, 79) := by decide +kernel
theorem d158_79 : dc 158 79 = some (.invokevirtual 15, 82) := by decide +kernel
theorem d158_82 : dc 158 82 = some (.aload_n 1, 83) := by decide +kernel
theorem d158_83 : dc 158 83 = some (.aload_n 0, 84) := by decide +kernel
theorem d158_84 : dc 158 84 = some (.dload 1028, 87) := by decide +kernel
theorem d158_87 : dc 158 87 = some (.iload_n 2, 88) := by decide +kernel
theorem d158_88 : dc 158 88 = some (.iaload, 89) := by decide +kernel
theorem d158_89 : dc 158 89 = some (.invokevirtual 124, 92) := by decide +kernel
theorem d158_92 : dc 158 92 = some (.aload_n 1, 93) := by decide +kernel
theorem d158_93 : dc 158 93 = some (.bipush 32, 95) := by decide +kernel
theorem d158_95 : dc 158 95 = some (.invokevirtual 15, 98) := by decide +kernel
theorem d158_98 : dc 158 98 = some (.aload_n 1, 99) := by decide +kernel
theorem d158_99 : dc 158 99 = some (.aload_n 0, 100) := by decide +kernel
theorem d158_100 : dc 158 100 = some (.dload 1029, 103) := by decide +kernel
theorem d158_103 : dc 158 103 = some (.iload_n 2, 104) := by decide +kernel
theorem d158_104 : dc 158 104 = some (.iaload, 105) := by decide +kernel
theorem d158_105 : dc 158 105 = some (.invokevirtual 124, 108) := by decide +kernel
theorem d158_108 : dc 158 108 = some (.aload_n 1, 109) := by decide +kernel
theorem d158_109 : dc 158 109 = some (.bipush 59, 111) := by decide +kernel
theorem d158_111 : dc 158 111 = some (.invokevirtual 15, 114) := by decide +kernel
theorem d158_114 : dc 158 114 = some (.iinc 2 1, 117) := by decide +kernel
theorem d158_117 : dc 158 117 = some (.goto ((2 : Nat) : Int), 120) := by decide +kernel
theorem d158_120 : dc 158 120 = some (.return_, 121) := by decide +kernel
theorem k_Vr_tellRules {S : Shp} {G : Nat → Option Nat} {d : Nat} {h : Hp} {Q : Option MV → Hp → Prop} {v : Nat} {r : Nat}  (ok : Ok S h) (h1 : 2 ≤ d) (hv : sK S v = 9) (hr : sK S r = 6) {rs : List RuV} (vc : VrC S h v rs) (hvr : ¬ U S v r)
    (kk : ∀ h', Mo S (fun y => y = r) h h' → rl h' r = addBs (cap h r) (rl h r) (rusTxt rs rs.length) → cap h' r = cap h r → Q none h') : Cl G d 158 [vR (some v), vR (some r)] h Q := by
  show Wp G d 158 0 [some (vR (some v)), some (vR (some r)), none] [] h Q
  have q1 := vc.1
  have q2 := vc.2.1
  have nv : v ≠ r := fun z => hvr (z ▸ U_refl)
  have nT : ∀ f, f < 4096 → sT S f v ≠ r := fun f hf z => hvr (z ▸ ok.so.uT hf U_refl)
  have k5 := kT1025 ok hv
  have k6 := kT1026 ok hv
  have k7 := kT1027 ok hv
  have k8 := kT1028 ok hv
  have k9 := kT1029 ok hv
  refine w_iconst d158_0 (by decide) ?_
  refine w_istore2 d158_1 rfl ?_
  have L2 : ∀ (m2 : Nat) (g : Hp) (i : Nat), rs.length - i = m2 → Mo S (fun x => x = r) h g → (i ≤ rs.length) → (rl g r = addBs (cap h r) (rl h r) (rusTxt rs i)) → (cap g r = cap h r) → Wp G d 158 2 [some (vR (some v)), some (vR (some r)), some (vI (i : Nat))] [] g Q := by
    intro m2
    induction m2 using Nat.strongRecOn with | ind m2 IH2 => ?_
    intro g i hm2 Mg i1 i2 i3
    have okg := Mg.ok
    have a1 := Mg.fi ok (x := v) (by omega) nv 1024
    refine w_iload_n d158_2 rfl ?_
    refine w_aload_n d158_3 rfl ?_
    refine w_getI (x := (rs.length : Int)) d158_4 (okg.kd hv) (a1.trans q1) ?_
    refine w_icmpge d158_7 (fun c7 => ?_) (fun c7 => ?_)
    · refine w_return d158_120 ?_
      exact kk g Mg (by rw [i2, show rs.length = i by omega]) i3
    · obtain ⟨c1, c2, c3, c4, c5, c6, c7, c8, c9, c0⟩ := vc.2.2 i (by omega)
      refine w_aload_n d158_10 rfl ?_
      refine w_dloadS d158_11 (okg.kd hv) (fr1025 okg hv) ?_
      refine w_iload_n d158_14 rfl ?_
      refine w_ialoadV (x := (rOf rs i)) d158_15 (gi1025 okg hv (by omega)) ((congrFun (Mg.ai ok (by omega) (nT 1025 (by decide))) i).trans c1) ?_
      refine w_ifge d158_16 (fun c16 => ?_) (fun c16 => ?_)
      · have ro : ¬ rOf rs i < 0 := by omega
        refine w_aload_n d158_28 rfl ?_
        refine w_bipush d158_29 (by decide) ?_
        refine w_callv2 d158_31 (by omega) rfl (okg.kd hr) (by simp) (Nat.le_of_ble_eq_true rfl) ?_
        refine r_Row_add okg hr (fun h31 m31 e31_1 e31_2 => ?_)
        have ok31 := m31.ok
        have M31 := Mo.tr ok Mg m31 (fun x e => e)
        refine w_aload_n d158_34 rfl ?_
        refine w_aload_n d158_35 rfl ?_
        refine w_dloadS d158_36 (ok31.kd hv) (fr1025 ok31 hv) ?_
        refine w_iload_n d158_39 rfl ?_
        refine w_ialoadV (x := (rOf rs i)) d158_40 (gi1025 ok31 hv (by omega)) ((congrFun (M31.ai ok (by omega) (nT 1025 (by decide))) i).trans c1) ?_
        rw [show rOf rs i = (((rOf rs i).toNat : Nat) : Int) by omega]
        refine w_callv2 d158_41 (by omega) rfl (ok31.kd hr) (by simp) (Nat.le_of_ble_eq_true rfl) ?_
        refine r_Row_addNumber (by omega) ok31 hr (by omega) (fun h41 m41 e41_1 e41_2 => ?_)
        have ok41 := m41.ok
        have M41 := Mo.tr ok M31 m41 (fun x e => e)
        refine w_aload_n d158_44 rfl ?_
        refine w_bipush d158_45 (by decide) ?_
        refine w_callv2 d158_47 (by omega) rfl (ok41.kd hr) (by simp) (Nat.le_of_ble_eq_true rfl) ?_
        refine r_Row_add ok41 hr (fun h47 m47 e47_1 e47_2 => ?_)
        have ok47 := m47.ok
        have M47 := Mo.tr ok M41 m47 (fun x e => e)
        refine w_aload_n d158_50 rfl ?_
        refine w_aload_n d158_51 rfl ?_
        refine w_dloadS d158_52 (ok47.kd hv) (fr1026 ok47 hv) ?_
        refine w_iload_n d158_55 rfl ?_
        refine w_ialoadV (x := ((rWh rs i : Nat) : Int)) d158_56 (gi1026 ok47 hv (by omega)) ((congrFun (M47.ai ok (by omega) (nT 1026 (by decide))) i).trans c2) ?_
        refine w_callv2 d158_57 (by omega) rfl (ok47.kd hr) (by simp) (Nat.le_of_ble_eq_true rfl) ?_
        refine r_Row_addNumber (by omega) ok47 hr (by omega) (fun h57 m57 e57_1 e57_2 => ?_)
        have ok57 := m57.ok
        have M57 := Mo.tr ok M47 m57 (fun x e => e)
        refine w_aload_n d158_60 rfl ?_
        refine w_bipush d158_61 (by decide) ?_
        refine w_callv2 d158_63 (by omega) rfl (ok57.kd hr) (by simp) (Nat.le_of_ble_eq_true rfl) ?_
        refine r_Row_add ok57 hr (fun h63 m63 e63_1 e63_2 => ?_)
        have ok63 := m63.ok
        have M63 := Mo.tr ok M57 m63 (fun x e => e)
        refine w_aload_n d158_66 rfl ?_
        refine w_aload_n d158_67 rfl ?_
        refine w_dloadS d158_68 (ok63.kd hv) (fr1027 ok63 hv) ?_
        refine w_iload_n d158_71 rfl ?_
        refine w_ialoadV (x := ((rPa rs i : Nat) : Int)) d158_72 (gi1027 ok63 hv (by omega)) ((congrFun (M63.ai ok (by omega) (nT 1027 (by decide))) i).trans c3) ?_
        refine w_callv2 d158_73 (by omega) rfl (ok63.kd hr) (by simp) (Nat.le_of_ble_eq_true rfl) ?_
        refine r_Row_addNumber (by omega) ok63 hr (by omega) (fun h73 m73 e73_1 e73_2 => ?_)
        have ok73 := m73.ok
        have M73 := Mo.tr ok M63 m73 (fun x e => e)
        refine w_aload_n d158_76 rfl ?_
        refine w_bipush d158_77 (by decide) ?_
        refine w_callv2 d158_79 (by omega) rfl (ok73.kd hr) (by simp) (Nat.le_of_ble_eq_true rfl) ?_
        refine r_Row_add ok73 hr (fun h79 m79 e79_1 e79_2 => ?_)
        have ok79 := m79.ok
        have M79 := Mo.tr ok M73 m79 (fun x e => e)
        refine w_aload_n d158_82 rfl ?_
        refine w_aload_n d158_83 rfl ?_
        refine w_dloadS d158_84 (ok79.kd hv) (fr1028 ok79 hv) ?_
        refine w_iload_n d158_87 rfl ?_
        refine w_ialoadV (x := ((rLo rs i : Nat) : Int)) d158_88 (gi1028 ok79 hv (by omega)) ((congrFun (M79.ai ok (by omega) (nT 1028 (by decide))) i).trans c4) ?_
        refine w_callv2 d158_89 (by omega) rfl (ok79.kd hr) (by simp) (Nat.le_of_ble_eq_true rfl) ?_
        refine r_Row_addNumber (by omega) ok79 hr (by omega) (fun h89 m89 e89_1 e89_2 => ?_)
        have ok89 := m89.ok
        have M89 := Mo.tr ok M79 m89 (fun x e => e)
        refine w_aload_n d158_92 rfl ?_
        refine w_bipush d158_93 (by decide) ?_
        refine w_callv2 d158_95 (by omega) rfl (ok89.kd hr) (by simp) (Nat.le_of_ble_eq_true rfl) ?_
        refine r_Row_add ok89 hr (fun h95 m95 e95_1 e95_2 => ?_)
        have ok95 := m95.ok
        have M95 := Mo.tr ok M89 m95 (fun x e => e)
        refine w_aload_n d158_98 rfl ?_
        refine w_aload_n d158_99 rfl ?_
        refine w_dloadS d158_100 (ok95.kd hv) (fr1029 ok95 hv) ?_
        refine w_iload_n d158_103 rfl ?_
        refine w_ialoadV (x := ((rHi rs i : Nat) : Int)) d158_104 (gi1029 ok95 hv (by omega)) ((congrFun (M95.ai ok (by omega) (nT 1029 (by decide))) i).trans c5) ?_
        refine w_callv2 d158_105 (by omega) rfl (ok95.kd hr) (by simp) (Nat.le_of_ble_eq_true rfl) ?_
        refine r_Row_addNumber (by omega) ok95 hr (by omega) (fun h105 m105 e105_1 e105_2 => ?_)
        have ok105 := m105.ok
        have M105 := Mo.tr ok M95 m105 (fun x e => e)
        refine w_aload_n d158_108 rfl ?_
        refine w_bipush d158_109 (by decide) ?_
        refine w_callv2 d158_111 (by omega) rfl (ok105.kd hr) (by simp) (Nat.le_of_ble_eq_true rfl) ?_
        refine r_Row_add ok105 hr (fun h111 m111 e111_1 e111_2 => ?_)
        have ok111 := m111.ok
        have M111 := Mo.tr ok M105 m111 (fun x e => e)
        refine w_iinc2 d158_114 rfl (by constructor <;> omega) ?_
        refine w_goto d158_117 ?_
        refine w_less ?_ (IH2 _ (by omega) h111 (i + 1) rfl M111 (by omega) (by rw [e111_1, e105_1, e105_2, e95_1, e95_2, e89_1, e89_2, e79_1, e79_2, e73_1, e73_2, e63_1, e63_2, e57_1, e57_2, e47_1, e47_2, e41_1, e41_2, e31_1, e31_2, i3, i2]; simp only [addBs3]; rw [rusTxt, ruTxt]; (first | rw [if_pos ro] | rw [if_neg ro]); simp [List.append_assoc]) (by rw [e111_2, e105_2, e95_2, e89_2, e79_2, e73_2, e63_2, e57_2, e47_2, e41_2, e31_2, i3]))
        exact ⟨Or.inr rfl, Or.inr rfl, Or.inr rfl, trivial⟩
      · have ro : rOf rs i < 0 := by omega
        refine w_aload_n d158_19 rfl ?_
        refine w_bipush d158_20 (by decide) ?_
        refine w_callv2 d158_22 (by omega) rfl (okg.kd hr) (by simp) (Nat.le_of_ble_eq_true rfl) ?_
        refine r_Row_add okg hr (fun h22 m22 e22_1 e22_2 => ?_)
        have ok22 := m22.ok
        have M22 := Mo.tr ok Mg m22 (fun x e => e)
        refine w_goto d158_25 ?_
        refine w_aload_n d158_66 rfl ?_
        refine w_aload_n d158_67 rfl ?_
        refine w_dloadS d158_68 (ok22.kd hv) (fr1027 ok22 hv) ?_
        refine w_iload_n d158_71 rfl ?_
        refine w_ialoadV (x := ((rPa rs i : Nat) : Int)) d158_72 (gi1027 ok22 hv (by omega)) ((congrFun (M22.ai ok (by omega) (nT 1027 (by decide))) i).trans c3) ?_
        refine w_callv2 d158_73 (by omega) rfl (ok22.kd hr) (by simp) (Nat.le_of_ble_eq_true rfl) ?_
        refine r_Row_addNumber (by omega) ok22 hr (by omega) (fun h73 m73 e73_1 e73_2 => ?_)
        have ok73 := m73.ok
        have M73 := Mo.tr ok M22 m73 (fun x e => e)
        refine w_aload_n d158_76 rfl ?_
        refine w_bipush d158_77 (by decide) ?_
        refine w_callv2 d158_79 (by omega) rfl (ok73.kd hr) (by simp) (Nat.le_of_ble_eq_true rfl) ?_
        refine r_Row_add ok73 hr (fun h79 m79 e79_1 e79_2 => ?_)
        have ok79 := m79.ok
        have M79 := Mo.tr ok M73 m79 (fun x e => e)
        refine w_aload_n d158_82 rfl ?_
        refine w_aload_n d158_83 rfl ?_
        refine w_dloadS d158_84 (ok79.kd hv) (fr1028 ok79 hv) ?_
        refine w_iload_n d158_87 rfl ?_
        refine w_ialoadV (x := ((rLo rs i : Nat) : Int)) d158_88 (gi1028 ok79 hv (by omega)) ((congrFun (M79.ai ok (by omega) (nT 1028 (by decide))) i).trans c4) ?_
        refine w_callv2 d158_89 (by omega) rfl (ok79.kd hr) (by simp) (Nat.le_of_ble_eq_true rfl) ?_
        refine r_Row_addNumber (by omega) ok79 hr (by omega) (fun h89 m89 e89_1 e89_2 => ?_)
        have ok89 := m89.ok
        have M89 := Mo.tr ok M79 m89 (fun x e => e)
        refine w_aload_n d158_92 rfl ?_
        refine w_bipush d158_93 (by decide) ?_
        refine w_callv2 d158_95 (by omega) rfl (ok89.kd hr) (by simp) (Nat.le_of_ble_eq_true rfl) ?_
        refine r_Row_add ok89 hr (fun h95 m95 e95_1 e95_2 => ?_)
        have ok95 := m95.ok
        have M95 := Mo.tr ok M89 m95 (fun x e => e)
        refine w_aload_n d158_98 rfl ?_
        refine w_aload_n d158_99 rfl ?_
        refine w_dloadS d158_100 (ok95.kd hv) (fr1029 ok95 hv) ?_
        refine w_iload_n d158_103 rfl ?_
        refine w_ialoadV (x := ((rHi rs i : Nat) : Int)) d158_104 (gi1029 ok95 hv (by omega)) ((congrFun (M95.ai ok (by omega) (nT 1029 (by decide))) i).trans c5) ?_
        refine w_callv2 d158_105 (by omega) rfl (ok95.kd hr) (by simp) (Nat.le_of_ble_eq_true rfl) ?_
        refine r_Row_addNumber (by omega) ok95 hr (by omega) (fun h105 m105 e105_1 e105_2 => ?_)
        have ok105 := m105.ok
        have M105 := Mo.tr ok M95 m105 (fun x e => e)
        refine w_aload_n d158_108 rfl ?_
        refine w_bipush d158_109 (by decide) ?_
        refine w_callv2 d158_111 (by omega) rfl (ok105.kd hr) (by simp) (Nat.le_of_ble_eq_true rfl) ?_
        refine r_Row_add ok105 hr (fun h111 m111 e111_1 e111_2 => ?_)
        have ok111 := m111.ok
        have M111 := Mo.tr ok M105 m111 (fun x e => e)
        refine w_iinc2 d158_114 rfl (by constructor <;> omega) ?_
        refine w_goto d158_117 ?_
        refine w_less ?_ (IH2 _ (by omega) h111 (i + 1) rfl M111 (by omega) (by rw [e111_1, e105_1, e105_2, e95_1, e95_2, e89_1, e89_2, e79_1, e79_2, e73_1, e73_2, e22_1, e22_2, i3, i2]; simp only [addBs3]; rw [rusTxt, ruTxt]; (first | rw [if_pos ro] | rw [if_neg ro]); simp [List.append_assoc]) (by rw [e111_2, e105_2, e95_2, e89_2, e79_2, e73_2, e22_2, i3]))
        exact ⟨Or.inr rfl, Or.inr rfl, Or.inr rfl, trivial⟩
  have M0_ := Mo.refl (A := (fun x => x = r)) ok
  refine w_less ?_ (L2 _ h 0 rfl M0_ (by omega) rfl rfl)
  exact ⟨Or.inr rfl, Or.inr rfl, Or.inr rfl, trivial⟩
