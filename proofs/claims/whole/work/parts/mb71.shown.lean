/-! the reference: what it shows of itself -/
theorem xor_n {a b : Nat} (ha : a < 256) (hb : b < 256) : (i32 (a : Int) ^^^ i32 (b : Int)).toInt = ((a ^^^ b : Nat) : Int) ∧ a ^^^ b < 256 := by
  have lt8 : a ^^^ b < 2 ^ 8 := Nat.xor_lt_two_pow ha hb
  refine ⟨?_, lt8⟩
  show BitVec.toInt ((i32 (a : Int)).toBitVec ^^^ (i32 (b : Int)).toBitVec) = _
  rw [bv_n, bv_n]
  have e : (BitVec.ofNat 32 a ^^^ BitVec.ofNat 32 b).toNat = a ^^^ b := by
    rw [BitVec.toNat_xor, BitVec.toNat_ofNat, BitVec.toNat_ofNat, Nat.mod_eq_of_lt (by omega), Nat.mod_eq_of_lt (by omega)]
  rw [BitVec.toInt_eq_toNat_of_lt (by rw [e]; omega), e]
/-- counts of needed and of ended -/
theorem pcN_c {nn : Nat} {nd : Nat → Nat} (h : ∀ u, bt nn u ↔ nd u = 1) (h1 : ∀ u, nd u ≤ 1) : ∀ n, pcN nn n = cntN nd n
  | 0 => rfl
  | u + 1 => by
    rw [pcN, cntN, pcN_c h h1 u]
    have a := h u
    have b := h1 u
    unfold bt at a
    have c := bt_v nn u
    omega
theorem cntN_z {nn : Nat} {nd : Nat → Nat} (hn : nn < 16384) (h : ∀ u, bt nn u ↔ nd u = 1) (h1 : ∀ u, nd u ≤ 1) : ∀ k, cntN nd (14 + k) = cntN nd 14
  | 0 => rfl
  | k + 1 => by
    rw [show 14 + (k + 1) = (14 + k) + 1 by omega, cntN, cntN_z hn h h1 k]
    have a := h (14 + k)
    have b := h1 (14 + k)
    have z : nn / 2 ^ (14 + k) = 0 := Nat.div_eq_of_lt (Nat.lt_of_lt_of_le hn (show 2 ^ 14 ≤ 2 ^ (14 + k) from Nat.pow_le_pow_right (by decide) (Nat.le_add_right 14 k)))
    unfold bt at a
    rw [z] at a
    omega
theorem dnC_c {nn : Nat} {nd E : Nat → Nat} (h : ∀ u, bt nn u ↔ nd u = 1) (hE : ∀ t, t < 14 → E t ≠ 0 → nd t = 1) : ∀ n, n ≤ 14 → dnC nn E n = cntD E n
  | 0, _ => rfl
  | u + 1, hu => by
    rw [dnC, cntD, dnC_c h hE u (by omega)]
    by_cases q : E u = 0
    · rw [if_neg (fun z => by omega), if_pos q]
    · rw [if_pos ⟨(h u).mpr (hE u (by omega) q), by omega⟩, if_neg q]
theorem d334_0 : dc 334 0 = some (.iload_n 1, 1) := by decide +kernel
theorem d334_1 : dc 334 1 = some (.ifCond .lt ((21 : Nat) : Int), 4) := by decide +kernel
theorem d334_4 : dc 334 4 = some (.iload_n 1, 5) := by decide +kernel
theorem d334_5 : dc 334 5 = some (.aload_n 0, 6) := by decide +kernel
theorem d334_6 : dc 334 6 = some (.getfield 1733, 9) := by decide +kernel
theorem d334_9 : dc 334 9 = some (.if_icmp .ge ((21 : Nat) : Int), 12) := by decide +kernel
theorem d334_12 : dc 334 12 = some (.aload_n 0, 13) := by decide +kernel
theorem d334_13 : dc 334 13 = some (.dload 1732, 16) := by decide +kernel
theorem d334_16 : dc 334 16 = some (.iload_n 1, 17) := by decide +kernel
theorem d334_17 : dc 334 17 = some (.iaload, 18) := by decide +kernel
theorem d334_18 : dc 334 18 = some (.goto ((22 : Nat) : Int), 21) := by decide +kernel
theorem d334_21 : dc 334 21 = some (.iconst (-1), 22) := by decide +kernel
theorem d334_22 : dc 334 22 = some (.ireturn, 23) := by decide +kernel
theorem k_M_answer {S : Shp} {G : Nat → Option Nat} {d : Nat} {h : Hp} {Q : Option MV → Hp → Prop} {m : Nat} {i : Int} {la : List Nat} (ok : Ok S h) (h1 : 0 ≤ d) (hm : sK S m = 14) (TE : TeR S h m la) 
    (kk : Q (some (vI (atv la i))) h) : Cl G d 334 [vR (some m), vI i] h Q := by
  show Wp G d 334 0 [some (vR (some m)), some (vI i)] [] h Q
  have TE_0 := TE
  refine w_iload_n d334_0 rfl ?_
  refine w_iflt d334_1 (fun c1 => ?_) (fun c1 => ?_)
  · have e : atv la i = -1 := if_neg (by omega)
    rw [e] at kk
    refine w_iconst d334_21 (by decide) ?_
    refine w_ireturn d334_22 ?_
    exact kk
  · refine w_iload_n d334_4 rfl ?_
    refine w_aload_n d334_5 rfl ?_
    refine w_getI (x := ((la.length : Nat) : Int)) d334_6 (ok.kd hm) TE.1 ?_
    refine w_icmpge d334_9 (fun c9 => ?_) (fun c9 => ?_)
    · have e : atv la i = -1 := if_neg (by omega)
      rw [e] at kk
      refine w_iconst d334_21 (by decide) ?_
      refine w_ireturn d334_22 ?_
      exact kk
    · obtain ⟨j, hj⟩ : ∃ j : Nat, i = (j : Int) := ⟨i.toNat, by omega⟩
      have jl : j < la.length := by omega
      have t20 := TE.2.1
      have e : atv la i = ((la.getD j 0 : Nat) : Int) := by rw [hj]; exact atvN jl
      rw [e] at kk
      rw [hj]
      refine w_aload_n d334_12 rfl ?_
      refine w_dloadS d334_13 (ok.kd hm) (fr1732 ok hm) ?_
      refine w_iload_n d334_16 rfl ?_
      refine w_ialoadV (x := ((la.getD j 0 : Nat) : Int)) d334_17 (gi1732 ok hm (by omega)) (TE.2.2 j jl) ?_
      refine w_goto d334_18 ?_
      refine w_ireturn d334_22 ?_
      exact kk
theorem d336_0 : dc 336 0 = some (.iload_n 1, 1) := by decide +kernel
theorem d336_1 : dc 336 1 = some (.tableswitch ((162 : Nat) : Int) 0 12 #[((68 : Nat) : Int), ((76 : Nat) : Int), ((81 : Nat) : Int), ((86 : Nat) : Int), ((99 : Nat) : Int), ((104 : Nat) : Int), ((112 : Nat) : Int), ((117 : Nat) : Int), ((122 : Nat) : Int), ((138 : Nat) : Int), ((143 : Nat) : Int), ((148 : Nat) : Int), ((155 : Nat) : Int)], 68) := by decide +kernel
theorem d336_68 : dc 336 68 = some (.aload_n 0, 69) := by decide +kernel
theorem d336_69 : dc 336 69 = some (.dload 1664, 72) := by decide +kernel
theorem d336_72 : dc 336 72 = some (.getfield 1408, 75) := by decide +kernel
theorem d336_75 : dc 336 75 = some (.ireturn, 76) := by decide +kernel
theorem d336_76 : dc 336 76 = some (.aload_n 0, 77) := by decide +kernel
theorem d336_77 : dc 336 77 = some (.invokevirtual 337, 80) := by decide +kernel
theorem d336_80 : dc 336 80 = some (.ireturn, 81) := by decide +kernel
theorem d336_81 : dc 336 81 = some (.aload_n 0, 82) := by decide +kernel
theorem d336_82 : dc 336 82 = some (.getfield 1720, 85) := by decide +kernel
theorem d336_85 : dc 336 85 = some (.ireturn, 86) := by decide +kernel
theorem d336_86 : dc 336 86 = some (.aload_n 0, 87) := by decide +kernel
theorem d336_87 : dc 336 87 = some (.getfield 1704, 90) := by decide +kernel
theorem d336_90 : dc 336 90 = some (.ifCond .eq ((97 : Nat) : Int), 93) := by decide +kernel
theorem d336_93 : dc 336 93 = some (.iconst 1, 94) := by decide +kernel
theorem d336_94 : dc 336 94 = some (.goto ((98 : Nat) : Int), 97) := by decide +kernel
theorem d336_97 : dc 336 97 = some (.iconst 0, 98) := by decide +kernel
theorem d336_98 : dc 336 98 = some (.ireturn, 99) := by decide +kernel
theorem d336_99 : dc 336 99 = some (.aload_n 0, 100) := by decide +kernel
theorem d336_100 : dc 336 100 = some (.getfield 1706, 103) := by decide +kernel
theorem d336_103 : dc 336 103 = some (.ireturn, 104) := by decide +kernel
theorem d336_104 : dc 336 104 = some (.aload_n 0, 105) := by decide +kernel
theorem d336_105 : dc 336 105 = some (.getfield 1705, 108) := by decide +kernel
theorem d336_108 : dc 336 108 = some (.invokevirtual 338, 111) := by decide +kernel
theorem d336_111 : dc 336 111 = some (.ireturn, 112) := by decide +kernel
theorem d336_112 : dc 336 112 = some (.aload_n 0, 113) := by decide +kernel
theorem d336_113 : dc 336 113 = some (.invokevirtual 339, 116) := by decide +kernel
theorem d336_116 : dc 336 116 = some (.ireturn, 117) := by decide +kernel
theorem d336_117 : dc 336 117 = some (.aload_n 0, 118) := by decide +kernel
theorem d336_118 : dc 336 118 = some (.getfield 1701, 121) := by decide +kernel
theorem d336_121 : dc 336 121 = some (.ireturn, 122) := by decide +kernel
theorem d336_122 : dc 336 122 = some (.aload_n 0, 123) := by decide +kernel
theorem d336_123 : dc 336 123 = some (.getfield 1736, 126) := by decide +kernel
theorem d336_126 : dc 336 126 = some (.ifCond .eq ((133 : Nat) : Int), 129) := by decide +kernel
theorem d336_129 : dc 336 129 = some (.iconst (-1), 130) := by decide +kernel
theorem d336_130 : dc 336 130 = some (.goto ((137 : Nat) : Int), 133) := by decide +kernel
theorem d336_133 : dc 336 133 = some (.aload_n 0, 134) := by decide +kernel
theorem d336_134 : dc 336 134 = some (.getfield 1735, 137) := by decide +kernel
theorem d336_137 : dc 336 137 = some (.ireturn, 138) := by decide +kernel
theorem d336_138 : dc 336 138 = some (.aload_n 0, 139) := by decide +kernel
theorem d336_139 : dc 336 139 = some (.getfield 1729, 142) := by decide +kernel
theorem d336_142 : dc 336 142 = some (.ireturn, 143) := by decide +kernel
theorem d336_143 : dc 336 143 = some (.aload_n 0, 144) := by decide +kernel
theorem d336_144 : dc 336 144 = some (.getfield 1733, 147) := by decide +kernel
theorem d336_147 : dc 336 147 = some (.ireturn, 148) := by decide +kernel
theorem d336_148 : dc 336 148 = some (.aload_n 0, 149) := by decide +kernel
theorem d336_149 : dc 336 149 = some (.dload 1713, 152) := by decide +kernel
theorem d336_152 : dc 336 152 = some (.iconst 0, 153) := by decide +kernel
theorem d336_153 : dc 336 153 = some (.iaload, 154) := by decide +kernel
theorem d336_154 : dc 336 154 = some (.ireturn, 155) := by decide +kernel
theorem d336_155 : dc 336 155 = some (.aload_n 0, 156) := by decide +kernel
theorem d336_156 : dc 336 156 = some (.dload 1713, 159) := by decide +kernel
theorem d336_159 : dc 336 159 = some (.iconst 1, 160) := by decide +kernel
theorem d336_160 : dc 336 160 = some (.iaload, 161) := by decide +kernel
theorem d336_161 : dc 336 161 = some (.ireturn, 162) := by decide +kernel
theorem d336_162 : dc 336 162 = some (.iconst (-1), 163) := by decide +kernel
theorem d336_163 : dc 336 163 = some (.ireturn, 164) := by decide +kernel
theorem k_M_state {S : Shp} {G : Nat → Option Nat} {d : Nat} {h : Hp} {Q : Option MV → Hp → Prop} {m : Nat} {i : Int} {w : HoS} {b : BkV} {tp la : List Nat} (ok : Ok S h) (h1 : 2 ≤ d) (hm : sK S m = 14) (NF : DfC S h (sT S 1664 m) w.1) (RS : RsR S h m w.2.1) (SX : SxR S h m w.2.2) (BR : BoR S h m b) (TP : TpR S h m tp) (TE : TeR S h m la) (hnd : ∀ u, seNd w.2.2 u ≤ 1) (hE : ∀ t, t < 14 → rE (goR (seGo w.2.2)) t ≠ 0 → seNd w.2.2 t = 1)
    (kk : Q (some (vI (stV w b tp.length la.length i))) h) : Cl G d 336 [vR (some m), vI i] h Q := by
  show Wp G d 336 0 [some (vR (some m)), some (vI i)] [] h Q
  have NF_0 := NF
  have RS_0 := RS
  have SX_0 := SX
  have BR_0 := BR
  have TP_0 := TP
  have TE_0 := TE
  refine w_iload_n d336_0 rfl ?_
  by_cases s0 : i = 0
  · refine w_tsw 68 d336_1 (by rw [s0]; decide) ?_
    have e : stV w b tp.length la.length i = ((w.1.1.length : Nat) : Int) := by unfold stV; rw [if_pos s0]
    rw [e] at kk
    refine w_aload_n d336_68 rfl ?_
    refine w_dloadS d336_69 (ok.kd hm) (fr1664 ok hm) ?_
    refine w_getI (x := ((w.1.1.length : Nat) : Int)) d336_72 (ok.kd (kT1664 ok hm)) NF.1.1 ?_
    refine w_ireturn d336_75 ?_
    exact kk
  by_cases s1 : i = 1
  · refine w_tsw 76 d336_1 (by rw [s1]; decide) ?_
    have e : stV w b tp.length la.length i = ((cntH w.1.2.2 w.1.2.2.length : Nat) : Int) := by unfold stV; rw [if_neg (by omega), if_pos s1]
    rw [e] at kk
    refine w_aload_n d336_76 rfl ?_
    refine w_callv1 d336_77 (by omega) rfl (ok.kd hm) (by simp) (Nat.le_of_ble_eq_true rfl) ?_
    refine k_M_thereCount ok (by omega) hm NF ?_
    refine w_ireturn d336_80 ?_
    exact kk
  by_cases s2 : i = 2
  · refine w_tsw 81 d336_1 (by rw [s2]; decide) ?_
    have e : stV w b tp.length la.length i = ((w.2.1.length : Nat) : Int) := by unfold stV; rw [if_neg (by omega), if_neg (by omega), if_pos s2]
    rw [e] at kk
    refine w_aload_n d336_81 rfl ?_
    refine w_getI (x := ((w.2.1.length : Nat) : Int)) d336_82 (ok.kd hm) RS.1 ?_
    refine w_ireturn d336_85 ?_
    exact kk
  by_cases s3 : i = 3
  · refine w_tsw 86 d336_1 (by rw [s3]; decide) ?_
    have e : stV w b tp.length la.length i = b2i (seOn w.2.2) := by unfold stV; rw [if_neg (by omega), if_neg (by omega), if_neg (by omega), if_pos s3]
    rw [e] at kk
    obtain ⟨nn, br, TF, SE, ST, HA, NE, nb, RN, GN, SP, ED, RL, rb, GR⟩ := SX
    refine w_aload_n d336_86 rfl ?_
    refine w_getI (x := (b2i (seOn w.2.2))) d336_87 (ok.kd hm) GN ?_
    refine w_ifeq d336_90 (fun c90 => ?_) (fun c90 => ?_)
    · have of : (seOn w.2.2) = false := by
        cases hz : (seOn w.2.2) with
        | true => rw [hz] at c90; exact absurd c90 (by decide)
        | false => rfl
      rw [of] at kk
      refine w_iconst d336_97 (by decide) ?_
      refine w_ireturn d336_98 ?_
      exact kk
    · have ot : (seOn w.2.2) = true := by
        cases hz : (seOn w.2.2) with
        | true => rfl
        | false => rw [hz] at c90; exact absurd rfl c90
      rw [ot] at kk
      refine w_iconst d336_93 (by decide) ?_
      refine w_goto d336_94 ?_
      refine w_ireturn d336_98 ?_
      exact kk
  by_cases s4 : i = 4
  · refine w_tsw 99 d336_1 (by rw [s4]; decide) ?_
    have e : stV w b tp.length la.length i = ((seSt w.2.2 : Nat) : Int) := by unfold stV; rw [if_neg (by omega), if_neg (by omega), if_neg (by omega), if_neg (by omega), if_pos s4]
    rw [e] at kk
    obtain ⟨nn, br, TF, SE, ST, HA, NE, nb, RN, GN, SP, ED, RL, rb, GR⟩ := SX
    refine w_aload_n d336_99 rfl ?_
    refine w_getI (x := ((seSt w.2.2 : Nat) : Int)) d336_100 (ok.kd hm) SP ?_
    refine w_ireturn d336_103 ?_
    exact kk
  by_cases s5 : i = 5
  · refine w_tsw 104 d336_1 (by rw [s5]; decide) ?_
    obtain ⟨nn, br, TF, SE, ST, HA, NE, nb, RN, GN, SP, ED, RL, rb, GR⟩ := SX
    have e : stV w b tp.length la.length i = ((pcN nn 32 : Nat) : Int) := by unfold stV; rw [if_neg (by omega), if_neg (by omega), if_neg (by omega), if_neg (by omega), if_neg (by omega), if_pos s5]; rw [pcN_c nb hnd 32, show 32 = 14 + 18 by decide, cntN_z NE.2 nb hnd 18]
    rw [e] at kk
    have n14 := NE.2
    refine w_aload_n d336_104 rfl ?_
    refine w_getI (x := ((nn : Nat) : Int)) d336_105 (ok.kd hm) NE.1 ?_
    refine w_calls1 d336_108 (by omega) rfl rfl (by simp) (Nat.le_of_ble_eq_true rfl) ?_
    refine k_M_bits (by omega) (by omega) ?_
    refine w_ireturn d336_111 ?_
    exact kk
  by_cases s6 : i = 6
  · refine w_tsw 112 d336_1 (by rw [s6]; decide) ?_
    obtain ⟨nn, br, TF, SE, ST, HA, NE, nb, RN, GN, SP, ED, RL, rb, GR⟩ := SX
    have e : stV w b tp.length la.length i = ((dnC nn (rE (goR (seGo w.2.2))) 14 : Nat) : Int) := by unfold stV; rw [if_neg (by omega), if_neg (by omega), if_neg (by omega), if_neg (by omega), if_neg (by omega), if_neg (by omega), if_pos s6]; rw [dnC_c nb hE 14 (Nat.le_refl _)]
    rw [e] at kk
    refine w_aload_n d336_112 rfl ?_
    refine w_callv1 d336_113 (by omega) rfl (ok.kd hm) (by simp) (Nat.le_of_ble_eq_true rfl) ?_
    refine k_M_doneCount ok (by omega) hm NE ST ?_
    refine w_ireturn d336_116 ?_
    exact kk
  by_cases s7 : i = 7
  · refine w_tsw 117 d336_1 (by rw [s7]; decide) ?_
    obtain ⟨nn, br, TF, SE, ST, HA, NE, nb, RN, GN, SP, ED, RL, rb, GR⟩ := SX
    obtain ⟨wk, bu, bp, kf, pf, lf, ks, pb, WK, WP, BU, KP, LP, RE, CT, PT, PU, Ip, ke⟩ := SE
    have e : stV w b tp.length la.length i = ((ks.length : Nat) : Int) := by unfold stV; rw [if_neg (by omega), if_neg (by omega), if_neg (by omega), if_neg (by omega), if_neg (by omega), if_neg (by omega), if_neg (by omega), if_pos s7]; rw [ke, ksO_len]
    rw [e] at kk
    refine w_aload_n d336_117 rfl ?_
    refine w_getI (x := ((ks.length : Nat) : Int)) d336_118 (ok.kd hm) KP.1 ?_
    refine w_ireturn d336_121 ?_
    exact kk
  by_cases s8 : i = 8
  · refine w_tsw 122 d336_1 (by rw [s8]; decide) ?_
    have e : stV w b tp.length la.length i = if b.2.2.2 = true then -1 else ((b.2.1 : Nat) : Int) := by unfold stV; rw [if_neg (by omega), if_neg (by omega), if_neg (by omega), if_neg (by omega), if_neg (by omega), if_neg (by omega), if_neg (by omega), if_neg (by omega), if_pos s8]
    rw [e] at kk
    refine w_aload_n d336_122 rfl ?_
    refine w_getI (x := (b2i b.2.2.2)) d336_123 (ok.kd hm) BR.2.2.2 ?_
    refine w_ifeq d336_126 (fun c126 => ?_) (fun c126 => ?_)
    · have sf : b.2.2.2 = false := by
        cases hz : b.2.2.2 with
        | true => rw [hz] at c126; exact absurd c126 (by decide)
        | false => rfl
      rw [if_neg (by rw [sf]; exact Bool.false_ne_true)] at kk
      refine w_aload_n d336_133 rfl ?_
      refine w_getI (x := ((b.2.1 : Nat) : Int)) d336_134 (ok.kd hm) BR.2.1 ?_
      refine w_ireturn d336_137 ?_
      exact kk
    · have st_ : b.2.2.2 = true := by
        cases hz : b.2.2.2 with
        | true => rfl
        | false => rw [hz] at c126; exact absurd rfl c126
      rw [if_pos st_] at kk
      refine w_iconst d336_129 (by decide) ?_
      refine w_goto d336_130 ?_
      refine w_ireturn d336_137 ?_
      exact kk
  by_cases s9 : i = 9
  · refine w_tsw 138 d336_1 (by rw [s9]; decide) ?_
    have e : stV w b tp.length la.length i = ((tp.length : Nat) : Int) := by unfold stV; rw [if_neg (by omega), if_neg (by omega), if_neg (by omega), if_neg (by omega), if_neg (by omega), if_neg (by omega), if_neg (by omega), if_neg (by omega), if_neg (by omega), if_pos s9]
    rw [e] at kk
    refine w_aload_n d336_138 rfl ?_
    refine w_getI (x := ((tp.length : Nat) : Int)) d336_139 (ok.kd hm) TP.1 ?_
    refine w_ireturn d336_142 ?_
    exact kk
  by_cases s10 : i = 10
  · refine w_tsw 143 d336_1 (by rw [s10]; decide) ?_
    have e : stV w b tp.length la.length i = ((la.length : Nat) : Int) := by unfold stV; rw [if_neg (by omega), if_neg (by omega), if_neg (by omega), if_neg (by omega), if_neg (by omega), if_neg (by omega), if_neg (by omega), if_neg (by omega), if_neg (by omega), if_neg (by omega), if_pos s10]
    rw [e] at kk
    refine w_aload_n d336_143 rfl ?_
    refine w_getI (x := ((la.length : Nat) : Int)) d336_144 (ok.kd hm) TE.1 ?_
    refine w_ireturn d336_147 ?_
    exact kk
  by_cases s11 : i = 11
  · refine w_tsw 148 d336_1 (by rw [s11]; decide) ?_
    obtain ⟨nn, br, TF, SE, ST, HA, NE, nb, RN, GN, SP, ED, RL, rb, GR⟩ := SX
    have e : stV w b tp.length la.length i = rH (goR (seGo w.2.2)) 0 := by unfold stV; rw [if_neg (by omega), if_neg (by omega), if_neg (by omega), if_neg (by omega), if_neg (by omega), if_neg (by omega), if_neg (by omega), if_neg (by omega), if_neg (by omega), if_neg (by omega), if_neg (by omega), if_pos s11]
    rw [e] at kk
    refine w_aload_n d336_148 rfl ?_
    refine w_dloadS d336_149 (ok.kd hm) (fr1713 ok hm) ?_
    refine w_iconst d336_152 (by decide) ?_
    refine w_ialoadV (x := (rH (goR (seGo w.2.2)) 0)) d336_153 (gi1713 ok hm (by omega)) (HA 0 (by decide)) ?_
    refine w_ireturn d336_154 ?_
    exact kk
  by_cases s12 : i = 12
  · refine w_tsw 155 d336_1 (by rw [s12]; decide) ?_
    obtain ⟨nn, br, TF, SE, ST, HA, NE, nb, RN, GN, SP, ED, RL, rb, GR⟩ := SX
    have e : stV w b tp.length la.length i = rH (goR (seGo w.2.2)) 1 := by unfold stV; rw [if_neg (by omega), if_neg (by omega), if_neg (by omega), if_neg (by omega), if_neg (by omega), if_neg (by omega), if_neg (by omega), if_neg (by omega), if_neg (by omega), if_neg (by omega), if_neg (by omega), if_neg (by omega), if_pos s12]
    rw [e] at kk
    refine w_aload_n d336_155 rfl ?_
    refine w_dloadS d336_156 (ok.kd hm) (fr1713 ok hm) ?_
    refine w_iconst d336_159 (by decide) ?_
    refine w_ialoadV (x := (rH (goR (seGo w.2.2)) 1)) d336_160 (gi1713 ok hm (by omega)) (HA 1 (by decide)) ?_
    refine w_ireturn d336_161 ?_
    exact kk
  refine w_tsw 162 d336_1 (by rw [if_pos (by omega)]) ?_
  have e : stV w b tp.length la.length i = -1 := by unfold stV; rw [if_neg (by omega), if_neg (by omega), if_neg (by omega), if_neg (by omega), if_neg (by omega), if_neg (by omega), if_neg (by omega), if_neg (by omega), if_neg (by omega), if_neg (by omega), if_neg (by omega), if_neg (by omega), if_neg (by omega)]
  rw [e] at kk
  refine w_iconst d336_162 (by decide) ?_
  refine w_ireturn d336_163 ?_
  exact kk
theorem d341_0 : dc 341 0 = some (.iload_n 1, 1) := by decide +kernel
theorem d341_1 : dc 341 1 = some (.ifCond .lt ((23 : Nat) : Int), 4) := by decide +kernel
theorem d341_4 : dc 341 4 = some (.iload_n 1, 5) := by decide +kernel
theorem d341_5 : dc 341 5 = some (.sipush 2048, 8) := by decide +kernel
theorem d341_8 : dc 341 8 = some (.if_icmp .ge ((23 : Nat) : Int), 11) := by decide +kernel
theorem d341_11 : dc 341 11 = some (.iload_n 2, 12) := by decide +kernel
theorem d341_12 : dc 341 12 = some (.iconst 1, 13) := by decide +kernel
theorem d341_13 : dc 341 13 = some (.if_icmp .lt ((23 : Nat) : Int), 16) := by decide +kernel
theorem d341_16 : dc 341 16 = some (.iload_n 2, 17) := by decide +kernel
theorem d341_17 : dc 341 17 = some (.sipush 255, 20) := by decide +kernel
theorem d341_20 : dc 341 20 = some (.if_icmp .le ((25 : Nat) : Int), 23) := by decide +kernel
theorem d341_23 : dc 341 23 = some (.iconst 0, 24) := by decide +kernel
theorem d341_24 : dc 341 24 = some (.freturn, 25) := by decide +kernel
theorem d341_25 : dc 341 25 = some (.aload_n 0, 26) := by decide +kernel
theorem d341_26 : dc 341 26 = some (.dload 1734, 29) := by decide +kernel
theorem d341_29 : dc 341 29 = some (.iload_n 1, 30) := by decide +kernel
theorem d341_30 : dc 341 30 = some (.dup2, 31) := by decide +kernel
theorem d341_31 : dc 341 31 = some (.iaload, 32) := by decide +kernel
theorem d341_32 : dc 341 32 = some (.iload_n 2, 33) := by decide +kernel
theorem d341_33 : dc 341 33 = some (.ixor, 34) := by decide +kernel
theorem d341_34 : dc 341 34 = some (.iastore, 35) := by decide +kernel
theorem d341_35 : dc 341 35 = some (.aload_n 0, 36) := by decide +kernel
theorem d341_36 : dc 341 36 = some (.iconst 1, 37) := by decide +kernel
theorem d341_37 : dc 341 37 = some (.putstatic 1736, 40) := by decide +kernel
theorem d341_40 : dc 341 40 = some (.iconst 1, 41) := by decide +kernel
theorem d341_41 : dc 341 41 = some (.freturn, 42) := by decide +kernel
theorem k_M_poke {S : Shp} {G : Nat → Option Nat} {d : Nat} {h : Hp} {Q : Option MV → Hp → Prop} {m : Nat} {i : Int} {x : Int} {b : BkV} (ok : Ok S h) (h1 : 1 ≤ d) (hm : sK S m = 14) (BR : BoR S h m b) 
    (kk : ∀ h' r, Fr S m [1734, 1736] h h' → (r = true ↔ (0 ≤ i ∧ i < 2048) ∧ 1 ≤ x ∧ x ≤ 255) → BoR S h' m (if r = true then (xorB b.1 i.toNat x.toNat, b.2.1, b.2.2.1, true) else b) → Q (some (vI (b2i r))) h') : Cl G d 341 [vR (some m), vI i, vI x] h Q := by
  show Wp G d 341 0 [some (vR (some m)), some (vI i), some (vI x)] [] h Q
  have BR_0 := BR
  refine w_iload_n d341_0 rfl ?_
  refine w_iflt d341_1 (fun c1 => ?_) (fun c1 => ?_)
  · refine w_iconst d341_23 (by decide) ?_
    refine w_zreturn d341_24 (by decide) ?_
    exact kk _ false (Fr.refl ok) ⟨fun z => absurd z Bool.false_ne_true, fun z => by omega⟩ (by rw [if_neg Bool.false_ne_true]; exact BR)
  · refine w_iload_n d341_4 rfl ?_
    refine w_sipush d341_5 (by decide) ?_
    refine w_icmpge d341_8 (fun c8 => ?_) (fun c8 => ?_)
    · refine w_iconst d341_23 (by decide) ?_
      refine w_zreturn d341_24 (by decide) ?_
      exact kk _ false (Fr.refl ok) ⟨fun z => absurd z Bool.false_ne_true, fun z => by omega⟩ (by rw [if_neg Bool.false_ne_true]; exact BR)
    · refine w_iload_n d341_11 rfl ?_
      refine w_iconst d341_12 (by decide) ?_
      refine w_icmplt d341_13 (fun c13 => ?_) (fun c13 => ?_)
      · refine w_iconst d341_23 (by decide) ?_
        refine w_zreturn d341_24 (by decide) ?_
        exact kk _ false (Fr.refl ok) ⟨fun z => absurd z Bool.false_ne_true, fun z => by omega⟩ (by rw [if_neg Bool.false_ne_true]; exact BR)
      · refine w_iload_n d341_16 rfl ?_
        refine w_sipush d341_17 (by decide) ?_
        refine w_icmple d341_20 (fun c20 => ?_) (fun c20 => ?_)
        · obtain ⟨j, hj⟩ : ∃ j : Nat, i = (j : Int) := ⟨i.toNat, by omega⟩
          obtain ⟨y, hy⟩ : ∃ y : Nat, x = (y : Int) := ⟨x.toNat, by omega⟩
          have j2 : j < 2048 := by omega
          have bj : AI h (sT S 1734 m) j = ((b.1 j : Nat) : Int) := BR.1 j j2
          have b9 := ra1734 ok hm j
          rw [bj] at b9
          have xn := xor_n (a := b.1 j) (b := y) (by omega) (by omega)
          rw [hj, hy]
          have BR0 := BR
          refine w_aload_n d341_25 rfl ?_
          refine w_dloadS d341_26 (ok.kd hm) (fr1734 ok hm) ?_
          refine w_iload_n d341_29 rfl ?_
          refine w_dup2 d341_30 ?_
          refine w_ialoadV (x := ((b.1 j : Nat) : Int)) d341_31 (gi1734 ok hm (by omega)) bj ?_
          refine w_iload_n d341_32 rfl ?_
          refine w_ixor d341_33 ?_
          rw [xn.1]
          refine wa1734 d341_34 ok hm (by omega) (by omega) (fun h34 e34 m34 => ?_)
          have e34 : h34 = sAI h (sT S 1734 m) j (((b.1 j ^^^ y) : Nat) : Int) := e34
          have f34 : Fr S m [1734] _ _ := Fr.wB ok hm m34 (fun ζ e => ⟨1734, by decide, by decide, e ▸ U_refl⟩)
          have ok34 := f34.ok
          have FR34 := Fr.le (F := [1734, 1736]) f34 (by decide)
          refine w_aload_n d341_35 rfl ?_
          refine w_iconst d341_36 (by decide) ?_
          refine wf1736 d341_37 ok34 hm (by omega) (fun h37 e37 m37 => ?_)
          have f37 : Fr S m [1736] _ _ := Fr.wF ok34 m37 (FK.pI e37)
          have ok37 := f37.ok
          have FR37 := Fr.tr (F := [1734, 1736]) FR34 f37 (fun _ q => List.mem_cons_of_mem _ (q)) trivial
          refine w_iconst d341_40 (by decide) ?_
          refine w_zreturn d341_41 (by decide) ?_
          exact kk _ true FR37 ⟨fun _ => by omega, fun _ => rfl⟩ (by
            rw [if_pos rfl]
            refine ⟨fun q hq => ?_, (FR37.i 1735).trans BR0.2.1, (FR37.i 1737).trans BR0.2.2.1, by rw [e37, FI_sFI, if_pos ⟨rfl, rfl⟩]; rfl⟩
            rw [f37.ai (by have := kT1734 ok hm; omega) (by decide) (by decide) (by decide), e34, sArr]
            show _ = ((xorB b.1 i.toNat x.toNat q : Nat) : Int)
            unfold xorB
            rw [show i.toNat = j by omega, show x.toNat = y by omega]
            by_cases z : q = j
            · rw [if_pos z, if_pos z]
            · rw [if_neg z, if_neg z]; exact BR0.1 q hq)
        · refine w_iconst d341_23 (by decide) ?_
          refine w_zreturn d341_24 (by decide) ?_
          exact kk _ false (Fr.refl ok) ⟨fun z => absurd z Bool.false_ne_true, fun z => by omega⟩ (by rw [if_neg Bool.false_ne_true]; exact BR)
