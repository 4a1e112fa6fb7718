/-! the reference: refusals -/
/-- a text by its number; none when it is nothing -/
def rfG (G : Nat → Option Nat) (c : Nat) : Option Nat := if c = 19 then none else G (50 + c)
def rfq (p q v lo hi : Int) (n : Nat) : Nat := if 4 < p ∨ 4 < q then 16 else if ¬ (1 ≤ v ∧ v ≤ 3) ∨ ¬ (1 ≤ lo ∧ lo ≤ 3) ∨ ¬ (1 ≤ hi ∧ hi ≤ 3) ∨ hi < lo then 17 else if n = 20 then 18 else 19
theorem rfq_w {nu : Nat → Int} {n : Nat} (hn : n ≤ 20) : rfq (nu 0) (nu 0) 1 (nu 1) (nu 2) n = rfs nu 0 n := by
  unfold rfq rfs
  simp only [Nat.zero_add, Nat.lt_irrefl, false_and, or_false]
  by_cases a : 5 ≤ nu 0
  · rw [if_pos (by omega), if_pos a]
  · rw [if_neg (by omega), if_neg a]
    by_cases b : nu 1 < 1 ∨ 3 < nu 2 ∨ nu 2 < nu 1
    · rw [if_pos (by omega), if_pos b]
    · rw [if_neg (by omega), if_neg b]
      by_cases c : n = 20
      · rw [if_pos c, if_pos (by omega)]
      · rw [if_neg c, if_neg (by omega)]
theorem rfq_n {nu : Nat → Int} {n : Nat} (hn : n ≤ 20) : rfq (nu 0) (nu 2) (nu 1) (nu 3) (nu 4) n = rfs nu 2 n := by
  unfold rfq rfs
  simp only [show (0 : Nat) < 2 by decide, true_and, show (2 + 1 : Nat) = 3 from rfl, show (2 + 2 : Nat) = 4 from rfl]
  by_cases a : 5 ≤ nu 2 ∨ 5 ≤ nu 0
  · rw [if_pos (by omega), if_pos a]
  · rw [if_neg (by omega), if_neg a]
    by_cases b : nu 3 < 1 ∨ 3 < nu 4 ∨ nu 4 < nu 3 ∨ (nu 1 < 1 ∨ 3 < nu 1)
    · rw [if_pos (by omega), if_pos b]
    · rw [if_neg (by omega), if_neg b]
      by_cases c : n = 20
      · rw [if_pos c, if_pos (by omega)]
      · rw [if_neg c, if_neg (by omega)]
theorem d232_0 : dc 232 0 = some (.iload_n 1, 1) := by decide +kernel
theorem d232_1 : dc 232 1 = some (.iconst 4, 2) := by decide +kernel
theorem d232_2 : dc 232 2 = some (.if_icmp .gt ((10 : Nat) : Int), 5) := by decide +kernel
theorem d232_5 : dc 232 5 = some (.iload_n 2, 6) := by decide +kernel
theorem d232_6 : dc 232 6 = some (.iconst 4, 7) := by decide +kernel
theorem d232_7 : dc 232 7 = some (.if_icmp .le ((14 : Nat) : Int), 10) := by decide +kernel
theorem d232_10 : dc 232 10 = some (.getstatic 66, 13) := by decide +kernel
theorem d232_13 : dc 232 13 = some (.areturn, 14) := by decide +kernel
theorem d232_14 : dc 232 14 = some (.iload_n 3, 15) := by decide +kernel
theorem d232_15 : dc 232 15 = some (.iconst 1, 16) := by decide +kernel
theorem d232_16 : dc 232 16 = some (.iconst 3, 17) := by decide +kernel
theorem d232_17 : dc 232 17 = some (.invokevirtual 206, 20) := by decide +kernel
theorem d232_20 : dc 232 20 = some (.ifCond .eq ((50 : Nat) : Int), 23) := by decide +kernel
theorem d232_23 : dc 232 23 = some (.iload 4, 25) := by decide +kernel
theorem d232_25 : dc 232 25 = some (.iconst 1, 26) := by decide +kernel
theorem d232_26 : dc 232 26 = some (.iconst 3, 27) := by decide +kernel
theorem d232_27 : dc 232 27 = some (.invokevirtual 206, 30) := by decide +kernel
theorem d232_30 : dc 232 30 = some (.ifCond .eq ((50 : Nat) : Int), 33) := by decide +kernel
theorem d232_33 : dc 232 33 = some (.iload 5, 35) := by decide +kernel
theorem d232_35 : dc 232 35 = some (.iconst 1, 36) := by decide +kernel
theorem d232_36 : dc 232 36 = some (.iconst 3, 37) := by decide +kernel
theorem d232_37 : dc 232 37 = some (.invokevirtual 206, 40) := by decide +kernel
theorem d232_40 : dc 232 40 = some (.ifCond .eq ((50 : Nat) : Int), 43) := by decide +kernel
theorem d232_43 : dc 232 43 = some (.iload 4, 45) := by decide +kernel
theorem d232_45 : dc 232 45 = some (.iload 5, 47) := by decide +kernel
theorem d232_47 : dc 232 47 = some (.if_icmp .le ((54 : Nat) : Int), 50) := by decide +kernel
theorem d232_50 : dc 232 50 = some (.getstatic 67, 53) := by decide +kernel
theorem d232_53 : dc 232 53 = some (.areturn, 54) := by decide +kernel
theorem d232_54 : dc 232 54 = some (.aload_n 0, 55) := by decide +kernel
theorem d232_55 : dc 232 55 = some (.getfield 1720, 58) := by decide +kernel
theorem d232_58 : dc 232 58 = some (.bipush 20, 60) := by decide +kernel
theorem d232_60 : dc 232 60 = some (.if_icmp .ne ((69 : Nat) : Int), 63) := by decide +kernel
theorem d232_63 : dc 232 63 = some (.getstatic 68, 66) := by decide +kernel
theorem d232_66 : dc 232 66 = some (.goto ((70 : Nat) : Int), 69) := by decide +kernel
theorem d232_69 : dc 232 69 = some (.aconst_null, 70) := by decide +kernel
theorem d232_70 : dc 232 70 = some (.areturn, 71) := by decide +kernel
theorem k_M_refusalOfRule {S : Shp} {G : Nat → Option Nat} {d : Nat} {h : Hp} {Q : Option MV → Hp → Prop} {m : Nat} {p : Int} {q : Int} {v : Int} {lo : Int} {hi : Int} {nr : Nat} (ok : Ok S h) (h1 : 1 ≤ d) (hm : sK S m = 14) (R0 : FI h 1720 m = ((nr : Nat) : Int)) (tg : Tg S G)
    (kk : Q (some (vR (rfG G (rfq p q v lo hi nr)))) h) : Cl G d 232 [vR (some m), vI p, vI q, vI v, vI lo, vI hi] h Q := by
  show Wp G d 232 0 [some (vR (some m)), some (vI p), some (vI q), some (vI v), some (vI lo), some (vI hi)] [] h Q
  have R0_0 := R0
  refine w_iload_n d232_0 rfl ?_
  refine w_iconst d232_1 (by decide) ?_
  refine w_icmpgt d232_2 (fun c2 => ?_) (fun c2 => ?_)
  · obtain ⟨g10, v10, s10⟩ := tg.al ok 16 (by decide)
    refine w_getstaticS d232_10 v10 ?_
    refine w_areturn d232_13 ?_
    have e : (rfq p q v lo hi nr) = 16 := by unfold rfq; rw [if_pos (by omega)]
    rw [e] at kk
    unfold rfG at kk
    rw [if_neg (by decide), v10] at kk
    exact kk
  · refine w_iload_n d232_5 rfl ?_
    refine w_iconst d232_6 (by decide) ?_
    refine w_icmple d232_7 (fun c7 => ?_) (fun c7 => ?_)
    · refine w_iload_n d232_14 rfl ?_
      refine w_iconst d232_15 (by decide) ?_
      refine w_iconst d232_16 (by decide) ?_
      refine w_calls3 d232_17 (by omega) rfl rfl (by simp) (Nat.le_of_ble_eq_true rfl) ?_
      refine k_M_in (by omega) ?_
      refine w_ifeq d232_20 (fun c20 => ?_) (fun c20 => ?_)
      · have nv : ¬ (1 ≤ v ∧ v ≤ 3) := fun z => by rw [decide_eq_true z] at c20; exact absurd c20 (by decide)
        obtain ⟨g50, v50, s50⟩ := tg.al ok 17 (by decide)
        refine w_getstaticS d232_50 v50 ?_
        refine w_areturn d232_53 ?_
        have e : (rfq p q v lo hi nr) = 17 := by unfold rfq; rw [if_neg (by omega), if_pos (by omega)]
        rw [e] at kk
        unfold rfG at kk
        rw [if_neg (by decide), v50] at kk
        exact kk
      · have nv : 1 ≤ v ∧ v ≤ 3 := by
          by_cases z : 1 ≤ v ∧ v ≤ 3
          · exact z
          · rw [decide_eq_false z] at c20; exact absurd rfl c20
        refine w_iload d232_23 rfl ?_
        refine w_iconst d232_25 (by decide) ?_
        refine w_iconst d232_26 (by decide) ?_
        refine w_calls3 d232_27 (by omega) rfl rfl (by simp) (Nat.le_of_ble_eq_true rfl) ?_
        refine k_M_in (by omega) ?_
        refine w_ifeq d232_30 (fun c30 => ?_) (fun c30 => ?_)
        · have nl : ¬ (1 ≤ lo ∧ lo ≤ 3) := fun z => by rw [decide_eq_true z] at c30; exact absurd c30 (by decide)
          obtain ⟨g50, v50, s50⟩ := tg.al ok 17 (by decide)
          refine w_getstaticS d232_50 v50 ?_
          refine w_areturn d232_53 ?_
          have e : (rfq p q v lo hi nr) = 17 := by unfold rfq; rw [if_neg (by omega), if_pos (by omega)]
          rw [e] at kk
          unfold rfG at kk
          rw [if_neg (by decide), v50] at kk
          exact kk
        · have nl : 1 ≤ lo ∧ lo ≤ 3 := by
            by_cases z : 1 ≤ lo ∧ lo ≤ 3
            · exact z
            · rw [decide_eq_false z] at c30; exact absurd rfl c30
          refine w_iload d232_33 rfl ?_
          refine w_iconst d232_35 (by decide) ?_
          refine w_iconst d232_36 (by decide) ?_
          refine w_calls3 d232_37 (by omega) rfl rfl (by simp) (Nat.le_of_ble_eq_true rfl) ?_
          refine k_M_in (by omega) ?_
          refine w_ifeq d232_40 (fun c40 => ?_) (fun c40 => ?_)
          · have nh : ¬ (1 ≤ hi ∧ hi ≤ 3) := fun z => by rw [decide_eq_true z] at c40; exact absurd c40 (by decide)
            obtain ⟨g50, v50, s50⟩ := tg.al ok 17 (by decide)
            refine w_getstaticS d232_50 v50 ?_
            refine w_areturn d232_53 ?_
            have e : (rfq p q v lo hi nr) = 17 := by unfold rfq; rw [if_neg (by omega), if_pos (by omega)]
            rw [e] at kk
            unfold rfG at kk
            rw [if_neg (by decide), v50] at kk
            exact kk
          · have nh : 1 ≤ hi ∧ hi ≤ 3 := by
              by_cases z : 1 ≤ hi ∧ hi ≤ 3
              · exact z
              · rw [decide_eq_false z] at c40; exact absurd rfl c40
            refine w_iload d232_43 rfl ?_
            refine w_iload d232_45 rfl ?_
            refine w_icmple d232_47 (fun c47 => ?_) (fun c47 => ?_)
            · refine w_aload_n d232_54 rfl ?_
              refine w_getI (x := ((nr : Nat) : Int)) d232_55 (ok.kd hm) R0 ?_
              refine w_bipush d232_58 (by decide) ?_
              refine w_icmpne d232_60 (fun c60 => ?_) (fun c60 => ?_)
              · refine w_aconst_null d232_69 ?_
                refine w_areturn d232_70 ?_
                have e : (rfq p q v lo hi nr) = 19 := by unfold rfq; rw [if_neg (by omega), if_neg (by omega), if_neg (by omega)]
                rw [e] at kk
                unfold rfG at kk
                rw [if_pos rfl] at kk
                exact kk
              · obtain ⟨g63, v63, s63⟩ := tg.al ok 18 (by decide)
                refine w_getstaticS d232_63 v63 ?_
                refine w_goto d232_66 ?_
                refine w_areturn d232_70 ?_
                have e : (rfq p q v lo hi nr) = 18 := by unfold rfq; rw [if_neg (by omega), if_neg (by omega), if_pos (by omega)]
                rw [e] at kk
                unfold rfG at kk
                rw [if_neg (by decide), v63] at kk
                exact kk
            · obtain ⟨g50, v50, s50⟩ := tg.al ok 17 (by decide)
              refine w_getstaticS d232_50 v50 ?_
              refine w_areturn d232_53 ?_
              have e : (rfq p q v lo hi nr) = 17 := by unfold rfq; rw [if_neg (by omega), if_pos (by omega)]
              rw [e] at kk
              unfold rfG at kk
              rw [if_neg (by decide), v50] at kk
              exact kk
    · obtain ⟨g10, v10, s10⟩ := tg.al ok 16 (by decide)
      refine w_getstaticS d232_10 v10 ?_
      refine w_areturn d232_13 ?_
      have e : (rfq p q v lo hi nr) = 16 := by unfold rfq; rw [if_pos (by omega)]
      rw [e] at kk
      unfold rfG at kk
      rw [if_neg (by decide), v10] at kk
      exact kk
theorem d220_0 : dc 220 0 = some (.aload_n 0, 1) := by decide +kernel
theorem d220_1 : dc 220 1 = some (.invokevirtual 221, 4) := by decide +kernel
theorem d220_4 : dc 220 4 = some (.istore_n 1, 5) := by decide +kernel
theorem d220_5 : dc 220 5 = some (.aload_n 0, 6) := by decide +kernel
theorem d220_6 : dc 220 6 = some (.getfield 1739, 9) := by decide +kernel
theorem d220_9 : dc 220 9 = some (.tableswitch ((468 : Nat) : Int) 1 12 #[((72 : Nat) : Int), ((119 : Nat) : Int), ((154 : Nat) : Int), ((201 : Nat) : Int), ((293 : Nat) : Int), ((305 : Nat) : Int), ((330 : Nat) : Int), ((330 : Nat) : Int), ((345 : Nat) : Int), ((388 : Nat) : Int), ((418 : Nat) : Int), ((453 : Nat) : Int)], 72) := by decide +kernel
theorem d220_72 : dc 220 72 = some (.aload_n 0, 73) := by decide +kernel
theorem d220_73 : dc 220 73 = some (.dload 1664, 76) := by decide +kernel
theorem d220_76 : dc 220 76 = some (.getfield 1408, 79) := by decide +kernel
theorem d220_79 : dc 220 79 = some (.bipush 16, 81) := by decide +kernel
theorem d220_81 : dc 220 81 = some (.if_icmp .ne ((117 : Nat) : Int), 84) := by decide +kernel
theorem d220_84 : dc 220 84 = some (.aload_n 0, 85) := by decide +kernel
theorem d220_85 : dc 220 85 = some (.dload 1664, 88) := by decide +kernel
theorem d220_88 : dc 220 88 = some (.aload_n 0, 89) := by decide +kernel
theorem d220_89 : dc 220 89 = some (.dload 1730, 92) := by decide +kernel
theorem d220_92 : dc 220 92 = some (.aload_n 0, 93) := by decide +kernel
theorem d220_93 : dc 220 93 = some (.getfield 1742, 96) := by decide +kernel
theorem d220_96 : dc 220 96 = some (.aload_n 0, 97) := by decide +kernel
theorem d220_97 : dc 220 97 = some (.getfield 1743, 100) := by decide +kernel
theorem d220_100 : dc 220 100 = some (.aload_n 0, 101) := by decide +kernel
theorem d220_101 : dc 220 101 = some (.getfield 1742, 104) := by decide +kernel
theorem d220_104 : dc 220 104 = some (.isub, 105) := by decide +kernel
theorem d220_105 : dc 220 105 = some (.invokevirtual 225, 108) := by decide +kernel
theorem d220_108 : dc 220 108 = some (.ifCond .ge ((117 : Nat) : Int), 111) := by decide +kernel
theorem d220_111 : dc 220 111 = some (.getstatic 68, 114) := by decide +kernel
theorem d220_114 : dc 220 114 = some (.goto ((118 : Nat) : Int), 117) := by decide +kernel
theorem d220_117 : dc 220 117 = some (.aconst_null, 118) := by decide +kernel
theorem d220_118 : dc 220 118 = some (.areturn, 119) := by decide +kernel
theorem d220_119 : dc 220 119 = some (.aload_n 0, 120) := by decide +kernel
theorem d220_120 : dc 220 120 = some (.dload 1664, 123) := by decide +kernel
theorem d220_123 : dc 220 123 = some (.aload_n 0, 124) := by decide +kernel
theorem d220_124 : dc 220 124 = some (.dload 1730, 127) := by decide +kernel
theorem d220_127 : dc 220 127 = some (.aload_n 0, 128) := by decide +kernel
theorem d220_128 : dc 220 128 = some (.getfield 1742, 131) := by decide +kernel
theorem d220_131 : dc 220 131 = some (.aload_n 0, 132) := by decide +kernel
theorem d220_132 : dc 220 132 = some (.getfield 1743, 135) := by decide +kernel
theorem d220_135 : dc 220 135 = some (.aload_n 0, 136) := by decide +kernel
theorem d220_136 : dc 220 136 = some (.getfield 1742, 139) := by decide +kernel
theorem d220_139 : dc 220 139 = some (.isub, 140) := by decide +kernel
theorem d220_140 : dc 220 140 = some (.invokevirtual 225, 143) := by decide +kernel
theorem d220_143 : dc 220 143 = some (.ifCond .ge ((152 : Nat) : Int), 146) := by decide +kernel
theorem d220_146 : dc 220 146 = some (.getstatic 79, 149) := by decide +kernel
theorem d220_149 : dc 220 149 = some (.goto ((153 : Nat) : Int), 152) := by decide +kernel
theorem d220_152 : dc 220 152 = some (.aconst_null, 153) := by decide +kernel
theorem d220_153 : dc 220 153 = some (.areturn, 154) := by decide +kernel
theorem d220_154 : dc 220 154 = some (.aload_n 0, 155) := by decide +kernel
theorem d220_155 : dc 220 155 = some (.dload 1664, 158) := by decide +kernel
theorem d220_158 : dc 220 158 = some (.getfield 1413, 161) := by decide +kernel
theorem d220_161 : dc 220 161 = some (.bipush 6, 163) := by decide +kernel
theorem d220_163 : dc 220 163 = some (.if_icmp .ne ((199 : Nat) : Int), 166) := by decide +kernel
theorem d220_166 : dc 220 166 = some (.aload_n 0, 167) := by decide +kernel
theorem d220_167 : dc 220 167 = some (.dload 1664, 170) := by decide +kernel
theorem d220_170 : dc 220 170 = some (.aload_n 0, 171) := by decide +kernel
theorem d220_171 : dc 220 171 = some (.dload 1730, 174) := by decide +kernel
theorem d220_174 : dc 220 174 = some (.aload_n 0, 175) := by decide +kernel
theorem d220_175 : dc 220 175 = some (.getfield 1742, 178) := by decide +kernel
theorem d220_178 : dc 220 178 = some (.aload_n 0, 179) := by decide +kernel
theorem d220_179 : dc 220 179 = some (.getfield 1743, 182) := by decide +kernel
theorem d220_182 : dc 220 182 = some (.aload_n 0, 183) := by decide +kernel
theorem d220_183 : dc 220 183 = some (.getfield 1742, 186) := by decide +kernel
theorem d220_186 : dc 220 186 = some (.isub, 187) := by decide +kernel
theorem d220_187 : dc 220 187 = some (.invokevirtual 226, 190) := by decide +kernel
theorem d220_190 : dc 220 190 = some (.ifCond .ge ((199 : Nat) : Int), 193) := by decide +kernel
theorem d220_193 : dc 220 193 = some (.getstatic 68, 196) := by decide +kernel
theorem d220_196 : dc 220 196 = some (.goto ((200 : Nat) : Int), 199) := by decide +kernel
theorem d220_199 : dc 220 199 = some (.aconst_null, 200) := by decide +kernel
theorem d220_200 : dc 220 200 = some (.areturn, 201) := by decide +kernel
theorem d220_201 : dc 220 201 = some (.aload_n 0, 202) := by decide +kernel
theorem d220_202 : dc 220 202 = some (.invokevirtual 227, 205) := by decide +kernel
theorem d220_205 : dc 220 205 = some (.istore_n 2, 206) := by decide +kernel
theorem d220_206 : dc 220 206 = some (.iload_n 2, 207) := by decide +kernel
theorem d220_207 : dc 220 207 = some (.ifCond .ge ((214 : Nat) : Int), 210) := by decide +kernel
theorem d220_210 : dc 220 210 = some (.getstatic 80, 213) := by decide +kernel
theorem d220_213 : dc 220 213 = some (.areturn, 214) := by decide +kernel
theorem d220_214 : dc 220 214 = some (.iload_n 2, 215) := by decide +kernel
theorem d220_215 : dc 220 215 = some (.iconst 4, 216) := by decide +kernel
theorem d220_216 : dc 220 216 = some (.if_icmp .ne ((223 : Nat) : Int), 219) := by decide +kernel
theorem d220_219 : dc 220 219 = some (.iconst 1, 220) := by decide +kernel
theorem d220_220 : dc 220 220 = some (.goto ((224 : Nat) : Int), 223) := by decide +kernel
theorem d220_223 : dc 220 223 = some (.iconst 0, 224) := by decide +kernel
theorem d220_224 : dc 220 224 = some (.aload_n 0, 225) := by decide +kernel
theorem d220_225 : dc 220 225 = some (.getfield 1750, 228) := by decide +kernel
theorem d220_228 : dc 220 228 = some (.aload_n 0, 229) := by decide +kernel
theorem d220_229 : dc 220 229 = some (.getfield 1751, 232) := by decide +kernel
theorem d220_232 : dc 220 232 = some (.if_icmp .ne ((239 : Nat) : Int), 235) := by decide +kernel
theorem d220_235 : dc 220 235 = some (.iconst 1, 236) := by decide +kernel
theorem d220_236 : dc 220 236 = some (.goto ((240 : Nat) : Int), 239) := by decide +kernel
theorem d220_239 : dc 220 239 = some (.iconst 0, 240) := by decide +kernel
theorem d220_240 : dc 220 240 = some (.if_icmp .ne ((247 : Nat) : Int), 243) := by decide +kernel
theorem d220_243 : dc 220 243 = some (.getstatic 81, 246) := by decide +kernel
theorem d220_246 : dc 220 246 = some (.areturn, 247) := by decide +kernel
theorem d220_247 : dc 220 247 = some (.aload_n 0, 248) := by decide +kernel
theorem d220_248 : dc 220 248 = some (.dload 1664, 251) := by decide +kernel
theorem d220_251 : dc 220 251 = some (.getfield 1417, 254) := by decide +kernel
theorem d220_254 : dc 220 254 = some (.bipush 14, 256) := by decide +kernel
theorem d220_256 : dc 220 256 = some (.if_icmp .ne ((278 : Nat) : Int), 259) := by decide +kernel
theorem d220_259 : dc 220 259 = some (.aload_n 0, 260) := by decide +kernel
theorem d220_260 : dc 220 260 = some (.aload_n 0, 261) := by decide +kernel
theorem d220_261 : dc 220 261 = some (.getfield 1742, 264) := by decide +kernel
theorem d220_264 : dc 220 264 = some (.aload_n 0, 265) := by decide +kernel
theorem d220_265 : dc 220 265 = some (.getfield 1743, 268) := by decide +kernel
theorem d220_268 : dc 220 268 = some (.invokevirtual 222, 271) := by decide +kernel
theorem d220_271 : dc 220 271 = some (.ifCond .ge ((278 : Nat) : Int), 274) := by decide +kernel
theorem d220_274 : dc 220 274 = some (.getstatic 68, 277) := by decide +kernel
theorem d220_277 : dc 220 277 = some (.areturn, 278) := by decide +kernel
theorem d220_278 : dc 220 278 = some (.aload_n 0, 279) := by decide +kernel
theorem d220_279 : dc 220 279 = some (.invokevirtual 228, 282) := by decide +kernel
theorem d220_282 : dc 220 282 = some (.ifCond .eq ((291 : Nat) : Int), 285) := by decide +kernel
theorem d220_285 : dc 220 285 = some (.getstatic 82, 288) := by decide +kernel
theorem d220_288 : dc 220 288 = some (.goto ((292 : Nat) : Int), 291) := by decide +kernel
theorem d220_291 : dc 220 291 = some (.aconst_null, 292) := by decide +kernel
theorem d220_292 : dc 220 292 = some (.areturn, 293) := by decide +kernel
theorem d220_293 : dc 220 293 = some (.iload_n 1, 294) := by decide +kernel
theorem d220_294 : dc 220 294 = some (.ifCond .ge ((303 : Nat) : Int), 297) := by decide +kernel
theorem d220_297 : dc 220 297 = some (.getstatic 83, 300) := by decide +kernel
theorem d220_300 : dc 220 300 = some (.goto ((304 : Nat) : Int), 303) := by decide +kernel
theorem d220_303 : dc 220 303 = some (.aconst_null, 304) := by decide +kernel
theorem d220_304 : dc 220 304 = some (.areturn, 305) := by decide +kernel
theorem d220_305 : dc 220 305 = some (.iload_n 1, 306) := by decide +kernel
theorem d220_306 : dc 220 306 = some (.ifCond .ge ((315 : Nat) : Int), 309) := by decide +kernel
theorem d220_309 : dc 220 309 = some (.getstatic 83, 312) := by decide +kernel
theorem d220_312 : dc 220 312 = some (.goto ((329 : Nat) : Int), 315) := by decide +kernel
theorem d220_315 : dc 220 315 = some (.aload_n 0, 316) := by decide +kernel
theorem d220_316 : dc 220 316 = some (.getfield 1704, 319) := by decide +kernel
theorem d220_319 : dc 220 319 = some (.ifCond .eq ((328 : Nat) : Int), 322) := by decide +kernel
theorem d220_322 : dc 220 322 = some (.getstatic 84, 325) := by decide +kernel
theorem d220_325 : dc 220 325 = some (.goto ((329 : Nat) : Int), 328) := by decide +kernel
theorem d220_328 : dc 220 328 = some (.aconst_null, 329) := by decide +kernel
theorem d220_329 : dc 220 329 = some (.areturn, 330) := by decide +kernel
theorem d220_330 : dc 220 330 = some (.aload_n 0, 331) := by decide +kernel
theorem d220_331 : dc 220 331 = some (.getfield 1704, 334) := by decide +kernel
theorem d220_334 : dc 220 334 = some (.ifCond .eq ((341 : Nat) : Int), 337) := by decide +kernel
theorem d220_337 : dc 220 337 = some (.aconst_null, 338) := by decide +kernel
theorem d220_338 : dc 220 338 = some (.goto ((344 : Nat) : Int), 341) := by decide +kernel
theorem d220_341 : dc 220 341 = some (.getstatic 85, 344) := by decide +kernel
theorem d220_344 : dc 220 344 = some (.areturn, 345) := by decide +kernel
theorem d220_345 : dc 220 345 = some (.aload_n 0, 346) := by decide +kernel
theorem d220_346 : dc 220 346 = some (.aload_n 0, 347) := by decide +kernel
theorem d220_347 : dc 220 347 = some (.getfield 1742, 350) := by decide +kernel
theorem d220_350 : dc 220 350 = some (.aload_n 0, 351) := by decide +kernel
theorem d220_351 : dc 220 351 = some (.getfield 1743, 354) := by decide +kernel
theorem d220_354 : dc 220 354 = some (.invokevirtual 222, 357) := by decide +kernel
theorem d220_357 : dc 220 357 = some (.ifCond .lt ((380 : Nat) : Int), 360) := by decide +kernel
theorem d220_360 : dc 220 360 = some (.aload_n 0, 361) := by decide +kernel
theorem d220_361 : dc 220 361 = some (.dload 1666, 364) := by decide +kernel
theorem d220_364 : dc 220 364 = some (.aload_n 0, 365) := by decide +kernel
theorem d220_365 : dc 220 365 = some (.aload_n 0, 366) := by decide +kernel
theorem d220_366 : dc 220 366 = some (.getfield 1742, 369) := by decide +kernel
theorem d220_369 : dc 220 369 = some (.aload_n 0, 370) := by decide +kernel
theorem d220_370 : dc 220 370 = some (.getfield 1743, 373) := by decide +kernel
theorem d220_373 : dc 220 373 = some (.invokevirtual 222, 376) := by decide +kernel
theorem d220_376 : dc 220 376 = some (.baload, 377) := by decide +kernel
theorem d220_377 : dc 220 377 = some (.ifCond .ne ((386 : Nat) : Int), 380) := by decide +kernel
theorem d220_380 : dc 220 380 = some (.getstatic 54, 383) := by decide +kernel
theorem d220_383 : dc 220 383 = some (.goto ((387 : Nat) : Int), 386) := by decide +kernel
theorem d220_386 : dc 220 386 = some (.aconst_null, 387) := by decide +kernel
theorem d220_387 : dc 220 387 = some (.areturn, 388) := by decide +kernel
theorem d220_388 : dc 220 388 = some (.aload_n 0, 389) := by decide +kernel
theorem d220_389 : dc 220 389 = some (.aload_n 0, 390) := by decide +kernel
theorem d220_390 : dc 220 390 = some (.dload 1741, 393) := by decide +kernel
theorem d220_393 : dc 220 393 = some (.iconst 0, 394) := by decide +kernel
theorem d220_394 : dc 220 394 = some (.iaload, 395) := by decide +kernel
theorem d220_395 : dc 220 395 = some (.aload_n 0, 396) := by decide +kernel
theorem d220_396 : dc 220 396 = some (.dload 1741, 399) := by decide +kernel
theorem d220_399 : dc 220 399 = some (.iconst 0, 400) := by decide +kernel
theorem d220_400 : dc 220 400 = some (.iaload, 401) := by decide +kernel
theorem d220_401 : dc 220 401 = some (.iconst 1, 402) := by decide +kernel
theorem d220_402 : dc 220 402 = some (.aload_n 0, 403) := by decide +kernel
theorem d220_403 : dc 220 403 = some (.dload 1741, 406) := by decide +kernel
theorem d220_406 : dc 220 406 = some (.iconst 1, 407) := by decide +kernel
theorem d220_407 : dc 220 407 = some (.iaload, 408) := by decide +kernel
theorem d220_408 : dc 220 408 = some (.aload_n 0, 409) := by decide +kernel
theorem d220_409 : dc 220 409 = some (.dload 1741, 412) := by decide +kernel
theorem d220_412 : dc 220 412 = some (.iconst 2, 413) := by decide +kernel
theorem d220_413 : dc 220 413 = some (.iaload, 414) := by decide +kernel
theorem d220_414 : dc 220 414 = some (.invokevirtual 232, 417) := by decide +kernel
theorem d220_417 : dc 220 417 = some (.areturn, 418) := by decide +kernel
theorem d220_418 : dc 220 418 = some (.aload_n 0, 419) := by decide +kernel
theorem d220_419 : dc 220 419 = some (.aload_n 0, 420) := by decide +kernel
theorem d220_420 : dc 220 420 = some (.dload 1741, 423) := by decide +kernel
theorem d220_423 : dc 220 423 = some (.iconst 0, 424) := by decide +kernel
theorem d220_424 : dc 220 424 = some (.iaload, 425) := by decide +kernel
theorem d220_425 : dc 220 425 = some (.aload_n 0, 426) := by decide +kernel
theorem d220_426 : dc 220 426 = some (.dload 1741, 429) := by decide +kernel
theorem d220_429 : dc 220 429 = some (.iconst 2, 430) := by decide +kernel
theorem d220_430 : dc 220 430 = some (.iaload, 431) := by decide +kernel
theorem d220_431 : dc 220 431 = some (.aload_n 0, 432) := by decide +kernel
theorem d220_432 : dc 220 432 = some (.dload 1741, 435) := by decide +kernel
theorem d220_435 : dc 220 435 = some (.iconst 1, 436) := by decide +kernel
theorem d220_436 : dc 220 436 = some (.iaload, 437) := by decide +kernel
theorem d220_437 : dc 220 437 = some (.aload_n 0, 438) := by decide +kernel
theorem d220_438 : dc 220 438 = some (.dload 1741, 441) := by decide +kernel
theorem d220_441 : dc 220 441 = some (.iconst 3, 442) := by decide +kernel
theorem d220_442 : dc 220 442 = some (.iaload, 443) := by decide +kernel
theorem d220_443 : dc 220 443 = some (.aload_n 0, 444) := by decide +kernel
theorem d220_444 : dc 220 444 = some (.dload 1741, 447) := by decide +kernel
theorem d220_447 : dc 220 447 = some (.iconst 4, 448) := by decide +kernel
theorem d220_448 : dc 220 448 = some (.iaload, 449) := by decide +kernel
theorem d220_449 : dc 220 449 = some (.invokevirtual 232, 452) := by decide +kernel
theorem d220_452 : dc 220 452 = some (.areturn, 453) := by decide +kernel
theorem d220_453 : dc 220 453 = some (.aload_n 0, 454) := by decide +kernel
theorem d220_454 : dc 220 454 = some (.getfield 1720, 457) := by decide +kernel
theorem d220_457 : dc 220 457 = some (.ifCond .ne ((466 : Nat) : Int), 460) := by decide +kernel
theorem d220_460 : dc 220 460 = some (.getstatic 80, 463) := by decide +kernel
theorem d220_463 : dc 220 463 = some (.goto ((467 : Nat) : Int), 466) := by decide +kernel
theorem d220_466 : dc 220 466 = some (.aconst_null, 467) := by decide +kernel
theorem d220_467 : dc 220 467 = some (.areturn, 468) := by decide +kernel
theorem d220_468 : dc 220 468 = some (.aconst_null, 469) := by decide +kernel
theorem d220_469 : dc 220 469 = some (.areturn, 470) := by decide +kernel
theorem k_M_refusal {S : Shp} {G : Nat → Option Nat} {d : Nat} {h : Hp} {Q : Option MV → Hp → Prop} {m : Nat} {N0 : PlV} {t nr f e : Nat} {g : Bool} {pb : Nat → Bool} {pu : Nat → OutV} {rs : List RuV} {n l : List Nat} {D : TgV} {nu : Nat → Int} (ok : Ok S h) (h1 : 10 ≤ d) (hm : sK S m = 14) (NF : DfC S h (sT S 1664 m) N0) (NM : NmR h m f e) (RQ : RqR S h m l) (NK : FI h 1739 m = ((t : Nat) : Int)) (GN : FI h 1704 m = b2i g) (R0 : FI h 1720 m = ((nr : Nat) : Int)) (PU : PuR S h m pb) (tg : Tg S G) (ht : t ≤ 12) (hn : f + n.length = e) (sg : SgC S h (sT S 1730 m) f n) (hpu : ∀ t, t < 14 → pb t = (pu t).1) (hD : t = 4 → TdR S h m l D ∧ n = tgN D) (ag : ∀ i, i < nmK t → AI h (sT S 1741 m) i = nu i) (hrs : rs.length = nr) (r20 : nr ≤ 20)
    (kk : Q (some (vR (rfG G (refN t N0 rs pu g n D nu (ciB N0.2.2 D))))) h) : Cl G d 220 [vR (some m)] h Q := by
  show Wp G d 220 0 [some (vR (some m)), none, none] [] h Q
  have NF_0 := NF
  have NM_0 := NM
  have RQ_0 := RQ
  have NK_0 := NK
  have GN_0 := GN
  have R0_0 := R0
  have PU_0 := PU
  have hl14 := NF.2.2.2.1
  have hd0 := kT1664 ok hm
  have hf16 := NF.1.2.1
  have hg6 := NF.2.1.2.1
  have rx := tix_rg N0.2.2 n
  have sb := sg.2.1
  have sb2 := sg.2.2.1
  refine w_aload_n d220_0 rfl ?_
  refine w_callv1 d220_1 (by omega) rfl (ok.kd hm) (by simp) (Nat.le_of_ble_eq_true rfl) ?_
  refine k_M_target (n := n) ok (by omega) hm NF NM hn sg ?_
  refine w_istore1 d220_4 rfl ?_
  refine w_aload_n d220_5 rfl ?_
  refine w_getI (x := ((t : Nat) : Int)) d220_6 (ok.kd hm) NK ?_
  by_cases s1 : t = 1
  · refine w_tsw 72 d220_9 (by rw [s1]; decide) ?_
    refine w_aload_n d220_72 rfl ?_
    refine w_dloadS d220_73 (ok.kd hm) (fr1664 ok hm) ?_
    refine w_getI (x := ((N0.1.length : Nat) : Int)) d220_76 (ok.kd (kT1664 ok hm)) NF.1.1 ?_
    refine w_bipush d220_79 (by decide) ?_
    refine w_icmpne d220_81 (fun c81 => ?_) (fun c81 => ?_)
    · refine w_aconst_null d220_117 ?_
      refine w_areturn d220_118 ?_
      have e : refN t N0 rs pu g n D nu (ciB N0.2.2 D) = 19 := by unfold refN; rw [if_pos (by omega), if_neg (by omega)]
      rw [e] at kk
      unfold rfG at kk
      rw [if_pos rfl] at kk
      exact kk
    · refine w_aload_n d220_84 rfl ?_
      refine w_dloadS d220_85 (ok.kd hm) (fr1664 ok hm) ?_
      refine w_aload_n d220_88 rfl ?_
      refine w_dloadS d220_89 (ok.kd hm) (fr1730 ok hm) ?_
      refine w_aload_n d220_92 rfl ?_
      refine w_getI (x := ((f : Nat) : Int)) d220_93 (ok.kd hm) NM.1 ?_
      refine w_aload_n d220_96 rfl ?_
      refine w_getI (x := ((e : Nat) : Int)) d220_97 (ok.kd hm) NM.2 ?_
      refine w_aload_n d220_100 rfl ?_
      refine w_getI (x := ((f : Nat) : Int)) d220_101 (ok.kd hm) NM.1 ?_
      refine w_isub d220_104 (by constructor <;> omega) ?_
      rw [show ((e : Nat) : Int) - ((f : Nat) : Int) = ((n.length : Nat) : Int) by omega]
      refine w_callv4 d220_105 (by omega) rfl (ok.kd (kT1664 ok hm)) (by simp) (Nat.le_of_ble_eq_true rfl) ?_
      refine k_D_file ok (by omega) (kT1664 ok hm) NF.1 rfl sg ?_
      refine w_ifge d220_108 (fun c108 => ?_) (fun c108 => ?_)
      · refine w_aconst_null d220_117 ?_
        refine w_areturn d220_118 ?_
        have e : refN t N0 rs pu g n D nu (ciB N0.2.2 D) = 19 := by unfold refN; rw [if_pos (by omega), if_neg (by omega)]
        rw [e] at kk
        unfold rfG at kk
        rw [if_pos rfl] at kk
        exact kk
      · obtain ⟨g111, v111, s111⟩ := tg.al ok 18 (by decide)
        refine w_getstaticS d220_111 v111 ?_
        refine w_goto d220_114 ?_
        refine w_areturn d220_118 ?_
        have e : refN t N0 rs pu g n D nu (ciB N0.2.2 D) = 18 := by unfold refN; rw [if_pos (by omega), if_pos ⟨by omega, by omega⟩]
        rw [e] at kk
        unfold rfG at kk
        rw [if_neg (by decide), v111] at kk
        exact kk
  by_cases s2 : t = 2
  · refine w_tsw 119 d220_9 (by rw [s2]; decide) ?_
    refine w_aload_n d220_119 rfl ?_
    refine w_dloadS d220_120 (ok.kd hm) (fr1664 ok hm) ?_
    refine w_aload_n d220_123 rfl ?_
    refine w_dloadS d220_124 (ok.kd hm) (fr1730 ok hm) ?_
    refine w_aload_n d220_127 rfl ?_
    refine w_getI (x := ((f : Nat) : Int)) d220_128 (ok.kd hm) NM.1 ?_
    refine w_aload_n d220_131 rfl ?_
    refine w_getI (x := ((e : Nat) : Int)) d220_132 (ok.kd hm) NM.2 ?_
    refine w_aload_n d220_135 rfl ?_
    refine w_getI (x := ((f : Nat) : Int)) d220_136 (ok.kd hm) NM.1 ?_
    refine w_isub d220_139 (by constructor <;> omega) ?_
    rw [show ((e : Nat) : Int) - ((f : Nat) : Int) = ((n.length : Nat) : Int) by omega]
    refine w_callv4 d220_140 (by omega) rfl (ok.kd (kT1664 ok hm)) (by simp) (Nat.le_of_ble_eq_true rfl) ?_
    refine k_D_file ok (by omega) (kT1664 ok hm) NF.1 rfl sg ?_
    refine w_ifge d220_143 (fun c143 => ?_) (fun c143 => ?_)
    · refine w_aconst_null d220_152 ?_
      refine w_areturn d220_153 ?_
      have e : refN t N0 rs pu g n D nu (ciB N0.2.2 D) = 19 := by unfold refN; rw [if_neg (by omega), if_pos (by omega), if_neg (by omega)]
      rw [e] at kk
      unfold rfG at kk
      rw [if_pos rfl] at kk
      exact kk
    · obtain ⟨g146, v146, s146⟩ := tg.al ok 29 (by decide)
      refine w_getstaticS d220_146 v146 ?_
      refine w_goto d220_149 ?_
      refine w_areturn d220_153 ?_
      have e : refN t N0 rs pu g n D nu (ciB N0.2.2 D) = 29 := by unfold refN; rw [if_neg (by omega), if_pos (by omega), if_pos (by omega)]
      rw [e] at kk
      unfold rfG at kk
      rw [if_neg (by decide), v146] at kk
      exact kk
  by_cases s3 : t = 3
  · refine w_tsw 154 d220_9 (by rw [s3]; decide) ?_
    refine w_aload_n d220_154 rfl ?_
    refine w_dloadS d220_155 (ok.kd hm) (fr1664 ok hm) ?_
    refine w_getI (x := ((N0.2.1.length : Nat) : Int)) d220_158 (ok.kd (kT1664 ok hm)) NF.2.1.1 ?_
    refine w_bipush d220_161 (by decide) ?_
    refine w_icmpne d220_163 (fun c163 => ?_) (fun c163 => ?_)
    · refine w_aconst_null d220_199 ?_
      refine w_areturn d220_200 ?_
      have e : refN t N0 rs pu g n D nu (ciB N0.2.2 D) = 19 := by unfold refN; rw [if_neg (by omega), if_neg (by omega), if_pos (by omega), if_neg (by omega)]
      rw [e] at kk
      unfold rfG at kk
      rw [if_pos rfl] at kk
      exact kk
    · refine w_aload_n d220_166 rfl ?_
      refine w_dloadS d220_167 (ok.kd hm) (fr1664 ok hm) ?_
      refine w_aload_n d220_170 rfl ?_
      refine w_dloadS d220_171 (ok.kd hm) (fr1730 ok hm) ?_
      refine w_aload_n d220_174 rfl ?_
      refine w_getI (x := ((f : Nat) : Int)) d220_175 (ok.kd hm) NM.1 ?_
      refine w_aload_n d220_178 rfl ?_
      refine w_getI (x := ((e : Nat) : Int)) d220_179 (ok.kd hm) NM.2 ?_
      refine w_aload_n d220_182 rfl ?_
      refine w_getI (x := ((f : Nat) : Int)) d220_183 (ok.kd hm) NM.1 ?_
      refine w_isub d220_186 (by constructor <;> omega) ?_
      rw [show ((e : Nat) : Int) - ((f : Nat) : Int) = ((n.length : Nat) : Int) by omega]
      refine w_callv4 d220_187 (by omega) rfl (ok.kd (kT1664 ok hm)) (by simp) (Nat.le_of_ble_eq_true rfl) ?_
      refine k_D_flagOf ok (by omega) (kT1664 ok hm) NF.2.1 rfl sg ?_
      refine w_ifge d220_190 (fun c190 => ?_) (fun c190 => ?_)
      · refine w_aconst_null d220_199 ?_
        refine w_areturn d220_200 ?_
        have e : refN t N0 rs pu g n D nu (ciB N0.2.2 D) = 19 := by unfold refN; rw [if_neg (by omega), if_neg (by omega), if_pos (by omega), if_neg (by omega)]
        rw [e] at kk
        unfold rfG at kk
        rw [if_pos rfl] at kk
        exact kk
      · obtain ⟨g193, v193, s193⟩ := tg.al ok 18 (by decide)
        refine w_getstaticS d220_193 v193 ?_
        refine w_goto d220_196 ?_
        refine w_areturn d220_200 ?_
        have e : refN t N0 rs pu g n D nu (ciB N0.2.2 D) = 18 := by unfold refN; rw [if_neg (by omega), if_neg (by omega), if_pos (by omega), if_pos ⟨by omega, by omega⟩]
        rw [e] at kk
        unfold rfG at kk
        rw [if_neg (by decide), v193] at kk
        exact kk
  by_cases s4 : t = 4
  · refine w_tsw 201 d220_9 (by rw [s4]; decide) ?_
    obtain ⟨⟨nf, nt, rf, rt, wf, wt, NM4, RU, WO, ⟨o1, o2, o3, o4, o5, o6⟩, eN, eR, eW, IC, i6, IA, CC⟩, hnD⟩ := hD (by omega)
    have rl := sl_len ⟨o3, o4⟩
    have wl := sl_len ⟨o5, o6⟩
    rw [eR] at rl
    rw [eW] at wl
    refine w_aload_n d220_201 rfl ?_
    refine w_callv1 d220_202 (by omega) rfl (ok.kd hm) (by simp) (Nat.le_of_ble_eq_true rfl) ?_
    refine k_M_ruleOf (n := tgR D) ok (by omega) hm RU tg (by rw [← eR]; exact RQ.2.2.sub ⟨o3, o4⟩) (by omega) ?_
    have L247 : ∀ (m247 : Nat) , 0 = m247 → (¬ ¬ (rix (tgR D) = 4 ↔ tgW D ≠ [])) → (¬ rix (tgR D) < 0) → Wp G d 220 247 [some (vR (some m)), some (vI (tat N0.2.2 n)), some (vI (rix (tgR D)))] [] h Q := by
      intro m247
      induction m247 using Nat.strongRecOn with | ind m247 IH247 => ?_
      intro  hm247 n2 n1
      refine w_aload_n d220_247 rfl ?_
      refine w_dloadS d220_248 (ok.kd hm) (fr1664 ok hm) ?_
      refine w_getI (x := ((N0.2.2.length : Nat) : Int)) d220_251 (ok.kd (kT1664 ok hm)) NF.2.2.1 ?_
      refine w_bipush d220_254 (by decide) ?_
      have L278 : ∀ (m278 : Nat) , 0 = m278 → (¬ (tix N0.2.2 (tgN D) < 0 ∧ 14 ≤ N0.2.2.length)) → Wp G d 220 278 [some (vR (some m)), some (vI (tat N0.2.2 n)), some (vI (rix (tgR D)))] [] h Q := by
        intro m278
        induction m278 using Nat.strongRecOn with | ind m278 IH278 => ?_
        intro  hm278 n3
        refine w_aload_n d220_278 rfl ?_
        refine w_callv1 d220_279 (by omega) rfl (ok.kd hm) (by simp) (Nat.le_of_ble_eq_true rfl) ?_
        refine k_M_isCircle (D := D) ok (by omega) hm NF NM RQ IC IA hn sg hnD.symm i6 (fun b279 eb279 => ?_)
        refine w_ifeq d220_282 (fun c282 => ?_) (fun c282 => ?_)
        · have cb : b279 = false := by
            cases hz : b279 with
            | true => rw [hz] at c282; exact absurd c282 (by decide)
            | false => rfl
          refine w_aconst_null d220_291 ?_
          refine w_areturn d220_292 ?_
          have nc : ¬ ciB N0.2.2 D = true := fun z => by rw [eb279.mpr (@of_decide_eq_true _ (Classical.propDecidable _) z)] at cb; exact absurd cb (by decide)
          have e : refN t N0 rs pu g n D nu (ciB N0.2.2 D) = 19 := by unfold refN; rw [if_neg (by omega), if_neg (by omega), if_neg (by omega), if_pos (by omega), if_neg n1, if_neg n2, if_neg n3, if_neg nc]
          rw [e] at kk
          unfold rfG at kk
          rw [if_pos rfl] at kk
          exact kk
        · have cb : b279 = true := by
            cases hz : b279 with
            | true => rfl
            | false => rw [hz] at c282; exact absurd rfl c282
          obtain ⟨g285, v285, s285⟩ := tg.al ok 32 (by decide)
          refine w_getstaticS d220_285 v285 ?_
          refine w_goto d220_288 ?_
          refine w_areturn d220_292 ?_
          have yc : ciB N0.2.2 D = true := @decide_eq_true _ (Classical.propDecidable _) (eb279.mp cb)
          have e : refN t N0 rs pu g n D nu (ciB N0.2.2 D) = 32 := by unfold refN; rw [if_neg (by omega), if_neg (by omega), if_neg (by omega), if_pos (by omega), if_neg n1, if_neg n2, if_neg n3, if_pos yc]
          rw [e] at kk
          unfold rfG at kk
          rw [if_neg (by decide), v285] at kk
          exact kk
      refine w_icmpne d220_256 (fun c256 => ?_) (fun c256 => ?_)
      · have n3 : ¬ (tix N0.2.2 (tgN D) < 0 ∧ 14 ≤ N0.2.2.length) := fun z => by omega
        refine w_less ?_ (L278 _  rfl n3)
        exact ⟨Or.inr rfl, Or.inr rfl, Or.inr rfl, trivial⟩
      · refine w_aload_n d220_259 rfl ?_
        refine w_aload_n d220_260 rfl ?_
        refine w_getI (x := ((f : Nat) : Int)) d220_261 (ok.kd hm) NM.1 ?_
        refine w_aload_n d220_264 rfl ?_
        refine w_getI (x := ((e : Nat) : Int)) d220_265 (ok.kd hm) NM.2 ?_
        refine w_callv3 d220_268 (by omega) rfl (ok.kd hm) (by simp) (Nat.le_of_ble_eq_true rfl) ?_
        refine k_M_numberOf ok (by omega) hm NF hn sg ?_
        refine w_ifge d220_271 (fun c271 => ?_) (fun c271 => ?_)
        · have n3 : ¬ (tix N0.2.2 (tgN D) < 0 ∧ 14 ≤ N0.2.2.length) := fun z => by rw [← hnD] at z; omega
          refine w_less ?_ (L278 _  rfl n3)
          exact ⟨Or.inr rfl, Or.inr rfl, Or.inr rfl, trivial⟩
        · obtain ⟨g274, v274, s274⟩ := tg.al ok 18 (by decide)
          refine w_getstaticS d220_274 v274 ?_
          refine w_areturn d220_277 ?_
          have e : refN t N0 rs pu g n D nu (ciB N0.2.2 D) = 18 := by unfold refN; rw [if_neg (by omega), if_neg (by omega), if_neg (by omega), if_pos (by omega), if_neg n1, if_neg n2, if_pos (by rw [← hnD]; exact ⟨by omega, by omega⟩)]
          rw [e] at kk
          unfold rfG at kk
          rw [if_neg (by decide), v274] at kk
          exact kk
    refine w_istore2 d220_205 rfl ?_
    refine w_iload_n d220_206 rfl ?_
    refine w_ifge d220_207 (fun c207 => ?_) (fun c207 => ?_)
    · have n1 : ¬ rix (tgR D) < 0 := by omega
      refine w_iload_n d220_214 rfl ?_
      refine w_iconst d220_215 (by decide) ?_
      refine w_icmpne d220_216 (fun c216 => ?_) (fun c216 => ?_)
      · have r4 : rix (tgR D) ≠ 4 := by omega
        refine w_iconst d220_223 (by decide) ?_
        refine w_aload_n d220_224 rfl ?_
        refine w_getI (x := ((wf : Nat) : Int)) d220_225 (ok.kd hm) WO.1 ?_
        refine w_aload_n d220_228 rfl ?_
        refine w_getI (x := ((wt : Nat) : Int)) d220_229 (ok.kd hm) WO.2 ?_
        refine w_icmpne d220_232 (fun c232 => ?_) (fun c232 => ?_)
        · have wne : tgW D ≠ [] := fun z => by rw [z] at wl; have wl : 0 = wt - wf := wl; omega
          refine w_iconst d220_239 (by decide) ?_
          refine w_icmpne d220_240 (fun c240 => ?_) (fun c240 => ?_)
          · exact absurd rfl c240
          · obtain ⟨g243, v243, s243⟩ := tg.al ok 31 (by decide)
            refine w_getstaticS d220_243 v243 ?_
            refine w_areturn d220_246 ?_
            have e : refN t N0 rs pu g n D nu (ciB N0.2.2 D) = 31 := by unfold refN; rw [if_neg (by omega), if_neg (by omega), if_neg (by omega), if_pos (by omega), if_neg n1, if_pos (fun z => r4 (z.mpr wne))]
            rw [e] at kk
            unfold rfG at kk
            rw [if_neg (by decide), v243] at kk
            exact kk
        · have we : tgW D = [] := List.length_eq_zero_iff.mp (by omega)
          have n2 : ¬ ¬ (rix (tgR D) = 4 ↔ tgW D ≠ []) := fun z => z ⟨fun y => absurd y r4, fun y => absurd we y⟩
          refine w_iconst d220_235 (by decide) ?_
          refine w_goto d220_236 ?_
          refine w_icmpne d220_240 (fun c240 => ?_) (fun c240 => ?_)
          · refine w_less ?_ (L247 _  rfl n2 n1)
            exact ⟨Or.inr rfl, Or.inr rfl, Or.inr rfl, trivial⟩
          · exact absurd c240 (by decide)
      · have r4 : rix (tgR D) = 4 := by omega
        refine w_iconst d220_219 (by decide) ?_
        refine w_goto d220_220 ?_
        refine w_aload_n d220_224 rfl ?_
        refine w_getI (x := ((wf : Nat) : Int)) d220_225 (ok.kd hm) WO.1 ?_
        refine w_aload_n d220_228 rfl ?_
        refine w_getI (x := ((wt : Nat) : Int)) d220_229 (ok.kd hm) WO.2 ?_
        refine w_icmpne d220_232 (fun c232 => ?_) (fun c232 => ?_)
        · have wne : tgW D ≠ [] := fun z => by rw [z] at wl; have wl : 0 = wt - wf := wl; omega
          have n2 : ¬ ¬ (rix (tgR D) = 4 ↔ tgW D ≠ []) := fun z => z ⟨fun _ => wne, fun _ => r4⟩
          refine w_iconst d220_239 (by decide) ?_
          refine w_icmpne d220_240 (fun c240 => ?_) (fun c240 => ?_)
          · refine w_less ?_ (L247 _  rfl n2 n1)
            exact ⟨Or.inr rfl, Or.inr rfl, Or.inr rfl, trivial⟩
          · exact absurd c240 (by decide)
        · have we : tgW D = [] := List.length_eq_zero_iff.mp (by omega)
          refine w_iconst d220_235 (by decide) ?_
          refine w_goto d220_236 ?_
          refine w_icmpne d220_240 (fun c240 => ?_) (fun c240 => ?_)
          · exact absurd rfl c240
          · obtain ⟨g243, v243, s243⟩ := tg.al ok 31 (by decide)
            refine w_getstaticS d220_243 v243 ?_
            refine w_areturn d220_246 ?_
            have e : refN t N0 rs pu g n D nu (ciB N0.2.2 D) = 31 := by unfold refN; rw [if_neg (by omega), if_neg (by omega), if_neg (by omega), if_pos (by omega), if_neg n1, if_pos (fun z => (z.mp r4) we)]
            rw [e] at kk
            unfold rfG at kk
            rw [if_neg (by decide), v243] at kk
            exact kk
    · obtain ⟨g210, v210, s210⟩ := tg.al ok 30 (by decide)
      refine w_getstaticS d220_210 v210 ?_
      refine w_areturn d220_213 ?_
      have e : refN t N0 rs pu g n D nu (ciB N0.2.2 D) = 30 := by unfold refN; rw [if_neg (by omega), if_neg (by omega), if_neg (by omega), if_pos (by omega), if_pos (by omega)]
      rw [e] at kk
      unfold rfG at kk
      rw [if_neg (by decide), v210] at kk
      exact kk
  by_cases s5 : t = 5
  · refine w_tsw 293 d220_9 (by rw [s5]; decide) ?_
    refine w_iload_n d220_293 rfl ?_
    refine w_ifge d220_294 (fun c294 => ?_) (fun c294 => ?_)
    · refine w_aconst_null d220_303 ?_
      refine w_areturn d220_304 ?_
      have e : refN t N0 rs pu g n D nu (ciB N0.2.2 D) = 19 := by unfold refN; rw [if_neg (by omega), if_neg (by omega), if_neg (by omega), if_neg (by omega), if_pos (by omega), if_neg (by omega)]
      rw [e] at kk
      unfold rfG at kk
      rw [if_pos rfl] at kk
      exact kk
    · obtain ⟨g297, v297, s297⟩ := tg.al ok 33 (by decide)
      refine w_getstaticS d220_297 v297 ?_
      refine w_goto d220_300 ?_
      refine w_areturn d220_304 ?_
      have e : refN t N0 rs pu g n D nu (ciB N0.2.2 D) = 33 := by unfold refN; rw [if_neg (by omega), if_neg (by omega), if_neg (by omega), if_neg (by omega), if_pos (by omega), if_pos (by omega)]
      rw [e] at kk
      unfold rfG at kk
      rw [if_neg (by decide), v297] at kk
      exact kk
  by_cases s6 : t = 6
  · refine w_tsw 305 d220_9 (by rw [s6]; decide) ?_
    refine w_iload_n d220_305 rfl ?_
    refine w_ifge d220_306 (fun c306 => ?_) (fun c306 => ?_)
    · refine w_aload_n d220_315 rfl ?_
      refine w_getI (x := (b2i g)) d220_316 (ok.kd hm) GN ?_
      refine w_ifeq d220_319 (fun c319 => ?_) (fun c319 => ?_)
      · have gf : g = false := by
          cases hz : g with
          | true => rw [hz] at c319; exact absurd c319 (by decide)
          | false => rfl
        refine w_aconst_null d220_328 ?_
        refine w_areturn d220_329 ?_
        have e : refN t N0 rs pu g n D nu (ciB N0.2.2 D) = 19 := by unfold refN; rw [if_neg (by omega), if_neg (by omega), if_neg (by omega), if_neg (by omega), if_neg (by omega), if_pos (by omega), if_neg (by omega), if_neg (by rw [gf]; decide)]
        rw [e] at kk
        unfold rfG at kk
        rw [if_pos rfl] at kk
        exact kk
      · have gt : g = true := by
          cases hz : g with
          | true => rfl
          | false => rw [hz] at c319; exact absurd rfl c319
        obtain ⟨g322, v322, s322⟩ := tg.al ok 34 (by decide)
        refine w_getstaticS d220_322 v322 ?_
        refine w_goto d220_325 ?_
        refine w_areturn d220_329 ?_
        have e : refN t N0 rs pu g n D nu (ciB N0.2.2 D) = 34 := by unfold refN; rw [if_neg (by omega), if_neg (by omega), if_neg (by omega), if_neg (by omega), if_neg (by omega), if_pos (by omega), if_neg (by omega), if_pos gt]
        rw [e] at kk
        unfold rfG at kk
        rw [if_neg (by decide), v322] at kk
        exact kk
    · obtain ⟨g309, v309, s309⟩ := tg.al ok 33 (by decide)
      refine w_getstaticS d220_309 v309 ?_
      refine w_goto d220_312 ?_
      refine w_areturn d220_329 ?_
      have e : refN t N0 rs pu g n D nu (ciB N0.2.2 D) = 33 := by unfold refN; rw [if_neg (by omega), if_neg (by omega), if_neg (by omega), if_neg (by omega), if_neg (by omega), if_pos (by omega), if_pos (by omega)]
      rw [e] at kk
      unfold rfG at kk
      rw [if_neg (by decide), v309] at kk
      exact kk
  by_cases s7 : t = 7
  · refine w_tsw 330 d220_9 (by rw [s7]; decide) ?_
    refine w_aload_n d220_330 rfl ?_
    refine w_getI (x := (b2i g)) d220_331 (ok.kd hm) GN ?_
    refine w_ifeq d220_334 (fun c334 => ?_) (fun c334 => ?_)
    · have gf : g = false := by
        cases hz : g with
        | true => rw [hz] at c334; exact absurd c334 (by decide)
        | false => rfl
      obtain ⟨g341, v341, s341⟩ := tg.al ok 35 (by decide)
      refine w_getstaticS d220_341 v341 ?_
      refine w_areturn d220_344 ?_
      have e : refN t N0 rs pu g n D nu (ciB N0.2.2 D) = 35 := by unfold refN; rw [if_neg (by omega), if_neg (by omega), if_neg (by omega), if_neg (by omega), if_neg (by omega), if_neg (by omega), if_pos (by omega), if_neg (by rw [gf]; decide)]
      rw [e] at kk
      unfold rfG at kk
      rw [if_neg (by decide), v341] at kk
      exact kk
    · have gt : g = true := by
        cases hz : g with
        | true => rfl
        | false => rw [hz] at c334; exact absurd rfl c334
      refine w_aconst_null d220_337 ?_
      refine w_goto d220_338 ?_
      refine w_areturn d220_344 ?_
      have e : refN t N0 rs pu g n D nu (ciB N0.2.2 D) = 19 := by unfold refN; rw [if_neg (by omega), if_neg (by omega), if_neg (by omega), if_neg (by omega), if_neg (by omega), if_neg (by omega), if_pos (by omega), if_pos gt]
      rw [e] at kk
      unfold rfG at kk
      rw [if_pos rfl] at kk
      exact kk
  by_cases s8 : t = 8
  · refine w_tsw 330 d220_9 (by rw [s8]; decide) ?_
    refine w_aload_n d220_330 rfl ?_
    refine w_getI (x := (b2i g)) d220_331 (ok.kd hm) GN ?_
    refine w_ifeq d220_334 (fun c334 => ?_) (fun c334 => ?_)
    · have gf : g = false := by
        cases hz : g with
        | true => rw [hz] at c334; exact absurd c334 (by decide)
        | false => rfl
      obtain ⟨g341, v341, s341⟩ := tg.al ok 35 (by decide)
      refine w_getstaticS d220_341 v341 ?_
      refine w_areturn d220_344 ?_
      have e : refN t N0 rs pu g n D nu (ciB N0.2.2 D) = 35 := by unfold refN; rw [if_neg (by omega), if_neg (by omega), if_neg (by omega), if_neg (by omega), if_neg (by omega), if_neg (by omega), if_pos (by omega), if_neg (by rw [gf]; decide)]
      rw [e] at kk
      unfold rfG at kk
      rw [if_neg (by decide), v341] at kk
      exact kk
    · have gt : g = true := by
        cases hz : g with
        | true => rfl
        | false => rw [hz] at c334; exact absurd rfl c334
      refine w_aconst_null d220_337 ?_
      refine w_goto d220_338 ?_
      refine w_areturn d220_344 ?_
      have e : refN t N0 rs pu g n D nu (ciB N0.2.2 D) = 19 := by unfold refN; rw [if_neg (by omega), if_neg (by omega), if_neg (by omega), if_neg (by omega), if_neg (by omega), if_neg (by omega), if_pos (by omega), if_pos gt]
      rw [e] at kk
      unfold rfG at kk
      rw [if_pos rfl] at kk
      exact kk
  by_cases s9 : t = 9
  · refine w_tsw 345 d220_9 (by rw [s9]; decide) ?_
    refine w_aload_n d220_345 rfl ?_
    refine w_aload_n d220_346 rfl ?_
    refine w_getI (x := ((f : Nat) : Int)) d220_347 (ok.kd hm) NM.1 ?_
    refine w_aload_n d220_350 rfl ?_
    refine w_getI (x := ((e : Nat) : Int)) d220_351 (ok.kd hm) NM.2 ?_
    refine w_callv3 d220_354 (by omega) rfl (ok.kd hm) (by simp) (Nat.le_of_ble_eq_true rfl) ?_
    refine k_M_numberOf ok (by omega) hm NF hn sg ?_
    refine w_iflt d220_357 (fun c357 => ?_) (fun c357 => ?_)
    · have hp : ¬ hpB pu (tix N0.2.2 n) = true := fun z => by
        unfold hpB at z
        rw [Bool.and_eq_true] at z
        have := of_decide_eq_true z.1
        omega
      obtain ⟨g380, v380, s380⟩ := tg.al ok 4 (by decide)
      refine w_getstaticS d220_380 v380 ?_
      refine w_goto d220_383 ?_
      refine w_areturn d220_387 ?_
      have e : refN t N0 rs pu g n D nu (ciB N0.2.2 D) = 4 := by unfold refN; rw [if_neg (by omega), if_neg (by omega), if_neg (by omega), if_neg (by omega), if_neg (by omega), if_neg (by omega), if_neg (by omega), if_pos (by omega), if_neg hp]
      rw [e] at kk
      unfold rfG at kk
      rw [if_neg (by decide), v380] at kk
      exact kk
    · obtain ⟨j, hj⟩ : ∃ j : Nat, tix N0.2.2 n = (j : Int) := ⟨(tix N0.2.2 n).toNat, by omega⟩
      have j14 : j < 14 := by omega
      have ehp : hpB pu (tix N0.2.2 n) = pb j := by
        unfold hpB
        rw [hj, Int.toNat_natCast, decide_eq_true ⟨by omega, by omega⟩, hpu j j14]
        rfl
      refine w_aload_n d220_360 rfl ?_
      refine w_dloadS d220_361 (ok.kd hm) (fr1666 ok hm) ?_
      refine w_aload_n d220_364 rfl ?_
      refine w_aload_n d220_365 rfl ?_
      refine w_getI (x := ((f : Nat) : Int)) d220_366 (ok.kd hm) NM.1 ?_
      refine w_aload_n d220_369 rfl ?_
      refine w_getI (x := ((e : Nat) : Int)) d220_370 (ok.kd hm) NM.2 ?_
      refine w_callv3 d220_373 (by omega) rfl (ok.kd hm) (by simp) (Nat.le_of_ble_eq_true rfl) ?_
      refine k_M_numberOf ok (by omega) hm NF hn sg ?_
      rw [hj]
      refine w_baloadV (x := (b2i (pb j))) d220_376 (gi1666 ok hm (by omega)) (PU j j14) ?_
      refine w_ifne d220_377 (fun c377 => ?_) (fun c377 => ?_)
      · have pt : (pb j) = true := by
          cases hz : (pb j) with
          | true => rfl
          | false => rw [hz] at c377; exact absurd rfl c377
        refine w_aconst_null d220_386 ?_
        refine w_areturn d220_387 ?_
        have e : refN t N0 rs pu g n D nu (ciB N0.2.2 D) = 19 := by unfold refN; rw [if_neg (by omega), if_neg (by omega), if_neg (by omega), if_neg (by omega), if_neg (by omega), if_neg (by omega), if_neg (by omega), if_pos (by omega), if_pos (ehp.trans pt)]
        rw [e] at kk
        unfold rfG at kk
        rw [if_pos rfl] at kk
        exact kk
      · have pf : (pb j) = false := by
          cases hz : (pb j) with
          | true => rw [hz] at c377; exact absurd c377 (by decide)
          | false => rfl
        obtain ⟨g380, v380, s380⟩ := tg.al ok 4 (by decide)
        refine w_getstaticS d220_380 v380 ?_
        refine w_goto d220_383 ?_
        refine w_areturn d220_387 ?_
        have e : refN t N0 rs pu g n D nu (ciB N0.2.2 D) = 4 := by unfold refN; rw [if_neg (by omega), if_neg (by omega), if_neg (by omega), if_neg (by omega), if_neg (by omega), if_neg (by omega), if_neg (by omega), if_pos (by omega), if_neg (by rw [ehp, pf]; decide)]
        rw [e] at kk
        unfold rfG at kk
        rw [if_neg (by decide), v380] at kk
        exact kk
  by_cases s10 : t = 10
  · refine w_tsw 388 d220_9 (by rw [s10]; decide) ?_
    refine w_aload_n d220_388 rfl ?_
    refine w_aload_n d220_389 rfl ?_
    refine w_dloadS d220_390 (ok.kd hm) (fr1741 ok hm) ?_
    refine w_iconst d220_393 (by decide) ?_
    refine w_ialoadV (x := (nu 0)) d220_394 (gi1741 ok hm (by omega)) (ag 0 (by rw [s10]; decide)) ?_
    refine w_aload_n d220_395 rfl ?_
    refine w_dloadS d220_396 (ok.kd hm) (fr1741 ok hm) ?_
    refine w_iconst d220_399 (by decide) ?_
    refine w_ialoadV (x := (nu 0)) d220_400 (gi1741 ok hm (by omega)) (ag 0 (by rw [s10]; decide)) ?_
    refine w_iconst d220_401 (by decide) ?_
    refine w_aload_n d220_402 rfl ?_
    refine w_dloadS d220_403 (ok.kd hm) (fr1741 ok hm) ?_
    refine w_iconst d220_406 (by decide) ?_
    refine w_ialoadV (x := (nu 1)) d220_407 (gi1741 ok hm (by omega)) (ag 1 (by rw [s10]; decide)) ?_
    refine w_aload_n d220_408 rfl ?_
    refine w_dloadS d220_409 (ok.kd hm) (fr1741 ok hm) ?_
    refine w_iconst d220_412 (by decide) ?_
    refine w_ialoadV (x := (nu 2)) d220_413 (gi1741 ok hm (by omega)) (ag 2 (by rw [s10]; decide)) ?_
    refine w_callv6 d220_414 (by omega) rfl (ok.kd hm) (by simp) (Nat.le_of_ble_eq_true rfl) ?_
    refine k_M_refusalOfRule ok (by omega) hm R0 tg ?_
    refine w_areturn d220_417 ?_
    have e : refN t N0 rs pu g n D nu (ciB N0.2.2 D) = rfs nu 0 nr := by unfold refN; rw [if_neg (by omega), if_neg (by omega), if_neg (by omega), if_neg (by omega), if_neg (by omega), if_neg (by omega), if_neg (by omega), if_neg (by omega), if_pos (by omega), hrs]
    rw [e, ← rfq_w r20] at kk
    exact kk
  by_cases s11 : t = 11
  · refine w_tsw 418 d220_9 (by rw [s11]; decide) ?_
    refine w_aload_n d220_418 rfl ?_
    refine w_aload_n d220_419 rfl ?_
    refine w_dloadS d220_420 (ok.kd hm) (fr1741 ok hm) ?_
    refine w_iconst d220_423 (by decide) ?_
    refine w_ialoadV (x := (nu 0)) d220_424 (gi1741 ok hm (by omega)) (ag 0 (by rw [s11]; decide)) ?_
    refine w_aload_n d220_425 rfl ?_
    refine w_dloadS d220_426 (ok.kd hm) (fr1741 ok hm) ?_
    refine w_iconst d220_429 (by decide) ?_
    refine w_ialoadV (x := (nu 2)) d220_430 (gi1741 ok hm (by omega)) (ag 2 (by rw [s11]; decide)) ?_
    refine w_aload_n d220_431 rfl ?_
    refine w_dloadS d220_432 (ok.kd hm) (fr1741 ok hm) ?_
    refine w_iconst d220_435 (by decide) ?_
    refine w_ialoadV (x := (nu 1)) d220_436 (gi1741 ok hm (by omega)) (ag 1 (by rw [s11]; decide)) ?_
    refine w_aload_n d220_437 rfl ?_
    refine w_dloadS d220_438 (ok.kd hm) (fr1741 ok hm) ?_
    refine w_iconst d220_441 (by decide) ?_
    refine w_ialoadV (x := (nu 3)) d220_442 (gi1741 ok hm (by omega)) (ag 3 (by rw [s11]; decide)) ?_
    refine w_aload_n d220_443 rfl ?_
    refine w_dloadS d220_444 (ok.kd hm) (fr1741 ok hm) ?_
    refine w_iconst d220_447 (by decide) ?_
    refine w_ialoadV (x := (nu 4)) d220_448 (gi1741 ok hm (by omega)) (ag 4 (by rw [s11]; decide)) ?_
    refine w_callv6 d220_449 (by omega) rfl (ok.kd hm) (by simp) (Nat.le_of_ble_eq_true rfl) ?_
    refine k_M_refusalOfRule ok (by omega) hm R0 tg ?_
    refine w_areturn d220_452 ?_
    have e : refN t N0 rs pu g n D nu (ciB N0.2.2 D) = rfs nu 2 nr := by unfold refN; rw [if_neg (by omega), if_neg (by omega), if_neg (by omega), if_neg (by omega), if_neg (by omega), if_neg (by omega), if_neg (by omega), if_neg (by omega), if_neg (by omega), if_pos (by omega), hrs]
    rw [e, ← rfq_n r20] at kk
    exact kk
  by_cases s12 : t = 12
  · refine w_tsw 453 d220_9 (by rw [s12]; decide) ?_
    refine w_aload_n d220_453 rfl ?_
    refine w_getI (x := ((nr : Nat) : Int)) d220_454 (ok.kd hm) R0 ?_
    refine w_ifne d220_457 (fun c457 => ?_) (fun c457 => ?_)
    · refine w_aconst_null d220_466 ?_
      refine w_areturn d220_467 ?_
      have e : refN t N0 rs pu g n D nu (ciB N0.2.2 D) = 19 := by unfold refN; rw [if_neg (by omega), if_neg (by omega), if_neg (by omega), if_neg (by omega), if_neg (by omega), if_neg (by omega), if_neg (by omega), if_neg (by omega), if_neg (by omega), if_neg (by omega), if_pos (by omega), if_neg (by omega)]
      rw [e] at kk
      unfold rfG at kk
      rw [if_pos rfl] at kk
      exact kk
    · obtain ⟨g460, v460, s460⟩ := tg.al ok 30 (by decide)
      refine w_getstaticS d220_460 v460 ?_
      refine w_goto d220_463 ?_
      refine w_areturn d220_467 ?_
      have e : refN t N0 rs pu g n D nu (ciB N0.2.2 D) = 30 := by unfold refN; rw [if_neg (by omega), if_neg (by omega), if_neg (by omega), if_neg (by omega), if_neg (by omega), if_neg (by omega), if_neg (by omega), if_neg (by omega), if_neg (by omega), if_neg (by omega), if_pos (by omega), if_pos (by omega)]
      rw [e] at kk
      unfold rfG at kk
      rw [if_neg (by decide), v460] at kk
      exact kk
  refine w_tsw 468 d220_9 (by rw [show t = 0 by omega]; decide) ?_
  refine w_aconst_null d220_468 ?_
  refine w_areturn d220_469 ?_
  have e : refN t N0 rs pu g n D nu (ciB N0.2.2 D) = 19 := by unfold refN; rw [show t = 0 by omega]; rfl
  rw [e] at kk
  unfold rfG at kk
  rw [if_pos rfl] at kk
  exact kk
