/-! the house: fed, looked at -/
def feT (tp : List Nat) (a b c e f : Int) : List Nat := if tp.length + 20 ≤ 4000 then tp ++ (by4 a ++ (by4 b ++ (by4 c ++ (by4 e ++ by4 f)))) else tp
def feR (tp : List Nat) : Int := if tp.length + 20 ≤ 4000 then ((tp.length + 20 : Nat) : Int) else -1
/-- what a number shows of the house -/
def stV (v : HoS) (b : BkV) (tp la : Nat) (i : Int) : Int :=
  if i = 0 then (v.1.1.length : Nat) else if i = 1 then (cntH v.1.2.2 v.1.2.2.length : Nat) else if i = 2 then (v.2.1.length : Nat) else if i = 3 then b2i (seOn v.2.2) else if i = 4 then (seSt v.2.2 : Nat) else if i = 5 then (cntN (seNd v.2.2) 14 : Nat) else if i = 6 then (cntD (rE (goR (seGo v.2.2))) 14 : Nat) else if i = 7 then ((seGo v.2.2).2.2.2.1.length : Nat) else if i = 8 then (if b.2.2.2 = true then -1 else (b.2.1 : Nat)) else if i = 9 then (tp : Nat) else if i = 10 then (la : Nat) else if i = 11 then rH (goR (seGo v.2.2)) 0 else if i = 12 then rH (goR (seGo v.2.2)) 1 else -1
theorem d12_0 : dc 12 0 = some (.aload_n 0, 1) := by decide +kernel
theorem d12_1 : dc 12 1 = some (.dload 1280, 4) := by decide +kernel
theorem d12_4 : dc 12 4 = some (.invokevirtual 13, 7) := by decide +kernel
theorem d12_7 : dc 12 7 = some (.bipush 20, 9) := by decide +kernel
theorem d12_9 : dc 12 9 = some (.iadd, 10) := by decide +kernel
theorem d12_10 : dc 12 10 = some (.sipush 4000, 13) := by decide +kernel
theorem d12_13 : dc 12 13 = some (.if_icmp .le ((18 : Nat) : Int), 16) := by decide +kernel
theorem d12_16 : dc 12 16 = some (.iconst (-1), 17) := by decide +kernel
theorem d12_17 : dc 12 17 = some (.ireturn, 18) := by decide +kernel
theorem d12_18 : dc 12 18 = some (.aload_n 0, 19) := by decide +kernel
theorem d12_19 : dc 12 19 = some (.dload 1280, 22) := by decide +kernel
theorem d12_22 : dc 12 22 = some (.iload_n 1, 23) := by decide +kernel
theorem d12_23 : dc 12 23 = some (.invokevirtual 14, 26) := by decide +kernel
theorem d12_26 : dc 12 26 = some (.aload_n 0, 27) := by decide +kernel
theorem d12_27 : dc 12 27 = some (.dload 1280, 30) := by decide +kernel
theorem d12_30 : dc 12 30 = some (.iload_n 2, 31) := by decide +kernel
theorem d12_31 : dc 12 31 = some (.invokevirtual 14, 34) := by decide +kernel
theorem d12_34 : dc 12 34 = some (.aload_n 0, 35) := by decide +kernel
theorem d12_35 : dc 12 35 = some (.dload 1280, 38) := by decide +kernel
theorem d12_38 : dc 12 38 = some (.iload_n 3, 39) := by decide +kernel
theorem d12_39 : dc 12 39 = some (.invokevirtual 14, 42) := by decide +kernel
theorem d12_42 : dc 12 42 = some (.aload_n 0, 43) := by decide +kernel
theorem d12_43 : dc 12 43 = some (.dload 1280, 46) := by decide +kernel
theorem d12_46 : dc 12 46 = some (.iload 4, 48) := by decide +kernel
theorem d12_48 : dc 12 48 = some (.invokevirtual 14, 51) := by decide +kernel
theorem d12_51 : dc 12 51 = some (.aload_n 0, 52) := by decide +kernel
theorem d12_52 : dc 12 52 = some (.dload 1280, 55) := by decide +kernel
theorem d12_55 : dc 12 55 = some (.iload 5, 57) := by decide +kernel
theorem d12_57 : dc 12 57 = some (.invokevirtual 14, 60) := by decide +kernel
theorem d12_60 : dc 12 60 = some (.aload_n 0, 61) := by decide +kernel
theorem d12_61 : dc 12 61 = some (.dload 1280, 64) := by decide +kernel
theorem d12_64 : dc 12 64 = some (.invokevirtual 13, 67) := by decide +kernel
theorem d12_67 : dc 12 67 = some (.ireturn, 68) := by decide +kernel
theorem k_Ho_feed {S : Shp} {G : Nat → Option Nat} {d : Nat} {h : Hp} {Q : Option MV → Hp → Prop} {a b c e f : Int} (ok : Ok S h) (h1 : 3 ≤ d) {tp : List Nat} (htp : rl h (sT S 1280 (sX S)) = tp) (htl : tp.length ≤ 100000)
    (kk : ∀ h', Mo S (fun z => z = sT S 1280 (sX S)) h h' → rl h' (sT S 1280 (sX S)) = feT tp a b c e f → Q (some (vI (feR tp))) h') : Cl G d 12 [vR (some (sX S)), vI a, vI b, vI c, vI e, vI f] h Q := by
  show Wp G d 12 0 [some (vR (some (sX S))), some (vI a), some (vI b), some (vI c), some (vI e), some (vI f)] [] h Q
  have kt := kT1280 ok ok.kX
  have ct := cT1280 ok ok.kX
  refine w_aload_n d12_0 rfl ?_
  refine w_dloadS d12_1 (ok.kd ok.kX) (fr1280 ok ok.kX) ?_
  refine w_callv1 d12_4 (by omega) rfl (ok.kd (kT1280 ok ok.kX)) (by simp) (Nat.le_of_ble_eq_true rfl) ?_
  refine r_Row_size ok (kT1280 ok ok.kX) ?_
  rw [htp]
  refine w_bipush d12_7 (by decide) ?_
  refine w_iadd d12_9 (by constructor <;> omega) ?_
  refine w_sipush d12_10 (by decide) ?_
  refine w_icmple d12_13 (fun c13 => ?_) (fun c13 => ?_)
  · have le : tp.length + 20 ≤ 4000 := by omega
    refine w_aload_n d12_18 rfl ?_
    refine w_dloadS d12_19 (ok.kd ok.kX) (fr1280 ok ok.kX) ?_
    refine w_iload_n d12_22 rfl ?_
    refine w_callv2 d12_23 (by omega) rfl (ok.kd (kT1280 ok ok.kX)) (by simp) (Nat.le_of_ble_eq_true rfl) ?_
    refine r_Row_addInt (by omega) ok (kT1280 ok ok.kX) (fun h23 m23 e23_1 e23_2 => ?_)
    have ok23 := m23.ok
    have M23 := Mo.tr ok (Mo.refl (A := (fun ζ => ζ = (sT S 1280 (sX S)))) ok) m23 (fun ζ e => e)
    refine w_aload_n d12_26 rfl ?_
    refine w_dloadS d12_27 (ok23.kd ok.kX) (fr1280 ok23 ok.kX) ?_
    refine w_iload_n d12_30 rfl ?_
    refine w_callv2 d12_31 (by omega) rfl (ok23.kd (kT1280 ok23 ok.kX)) (by simp) (Nat.le_of_ble_eq_true rfl) ?_
    refine r_Row_addInt (by omega) ok23 (kT1280 ok23 ok.kX) (fun h31 m31 e31_1 e31_2 => ?_)
    have ok31 := m31.ok
    have M31 := Mo.tr ok M23 m31 (fun ζ e => e)
    refine w_aload_n d12_34 rfl ?_
    refine w_dloadS d12_35 (ok31.kd ok.kX) (fr1280 ok31 ok.kX) ?_
    refine w_iload_n d12_38 rfl ?_
    refine w_callv2 d12_39 (by omega) rfl (ok31.kd (kT1280 ok31 ok.kX)) (by simp) (Nat.le_of_ble_eq_true rfl) ?_
    refine r_Row_addInt (by omega) ok31 (kT1280 ok31 ok.kX) (fun h39 m39 e39_1 e39_2 => ?_)
    have ok39 := m39.ok
    have M39 := Mo.tr ok M31 m39 (fun ζ e => e)
    refine w_aload_n d12_42 rfl ?_
    refine w_dloadS d12_43 (ok39.kd ok.kX) (fr1280 ok39 ok.kX) ?_
    refine w_iload d12_46 rfl ?_
    refine w_callv2 d12_48 (by omega) rfl (ok39.kd (kT1280 ok39 ok.kX)) (by simp) (Nat.le_of_ble_eq_true rfl) ?_
    refine r_Row_addInt (by omega) ok39 (kT1280 ok39 ok.kX) (fun h48 m48 e48_1 e48_2 => ?_)
    have ok48 := m48.ok
    have M48 := Mo.tr ok M39 m48 (fun ζ e => e)
    refine w_aload_n d12_51 rfl ?_
    refine w_dloadS d12_52 (ok48.kd ok.kX) (fr1280 ok48 ok.kX) ?_
    refine w_iload d12_55 rfl ?_
    refine w_callv2 d12_57 (by omega) rfl (ok48.kd (kT1280 ok48 ok.kX)) (by simp) (Nat.le_of_ble_eq_true rfl) ?_
    refine r_Row_addInt (by omega) ok48 (kT1280 ok48 ok.kX) (fun h57 m57 e57_1 e57_2 => ?_)
    have ok57 := m57.ok
    have M57 := Mo.tr ok M48 m57 (fun ζ e => e)
    refine w_aload_n d12_60 rfl ?_
    refine w_dloadS d12_61 (ok57.kd ok.kX) (fr1280 ok57 ok.kX) ?_
    refine w_callv1 d12_64 (by omega) rfl (ok57.kd (kT1280 ok57 ok.kX)) (by simp) (Nat.le_of_ble_eq_true rfl) ?_
    refine r_Row_size ok57 (kT1280 ok57 ok.kX) ?_
    have eT : rl h57 (sT S 1280 (sX S)) = tp ++ (by4 a ++ (by4 b ++ (by4 c ++ (by4 e ++ by4 f)))) := by rw [e57_1, e48_1, e48_2, e39_1, e39_2, e31_1, e31_2, e23_1, e23_2, addBs3, addBs3, addBs3, addBs3, htp]; exact addBs_fit (by simp only [List.length_append, by4_len]; omega)
    rw [eT]
    refine w_ireturn d12_67 ?_
    have er : feR tp = ((tp ++ (by4 a ++ (by4 b ++ (by4 c ++ (by4 e ++ by4 f))))).length : Int) := by unfold feR; rw [if_pos le]; simp only [List.length_append, by4_len]; try omega
    rw [er] at kk
    exact kk h57 M57 (by unfold feT; rw [if_pos le]; exact eT)
  · refine w_iconst d12_16 (by decide) ?_
    refine w_ireturn d12_17 ?_
    have e : feR tp = -1 := by unfold feR; rw [if_neg (by omega)]
    rw [e] at kk
    exact kk h (Mo.refl ok) (by unfold feT; rw [if_neg (by omega)]; exact htp)
theorem d179_0 : dc 179 0 = some (.aload_n 0, 1) := by decide +kernel
theorem d179_1 : dc 179 1 = some (.dload 1281, 4) := by decide +kernel
theorem d179_4 : dc 179 4 = some (.iload_n 1, 5) := by decide +kernel
theorem d179_5 : dc 179 5 = some (.invokevirtual 23, 8) := by decide +kernel
theorem d179_8 : dc 179 8 = some (.ireturn, 9) := by decide +kernel
theorem k_Ho_answer {S : Shp} {G : Nat → Option Nat} {d : Nat} {h : Hp} {Q : Option MV → Hp → Prop} {i : Int} (ok : Ok S h) (h1 : 1 ≤ d)
    (kk : Q (some (vI (atv (rl h (sT S 1281 (sX S))) i))) h) : Cl G d 179 [vR (some (sX S)), vI i] h Q := by
  show Wp G d 179 0 [some (vR (some (sX S))), some (vI i)] [] h Q
  refine w_aload_n d179_0 rfl ?_
  refine w_dloadS d179_1 (ok.kd ok.kX) (fr1281 ok ok.kX) ?_
  refine w_iload_n d179_4 rfl ?_
  refine w_callv2 d179_5 (by omega) rfl (ok.kd (kT1281 ok ok.kX)) (by simp) (Nat.le_of_ble_eq_true rfl) ?_
  refine r_Row_at ok (kT1281 ok ok.kX) ?_
  refine w_ireturn d179_8 ?_
  exact kk
theorem d185_0 : dc 185 0 = some (.aload_n 0, 1) := by decide +kernel
theorem d185_1 : dc 185 1 = some (.dload 1283, 4) := by decide +kernel
theorem d185_4 : dc 185 4 = some (.iload_n 1, 5) := by decide +kernel
theorem d185_5 : dc 185 5 = some (.invokevirtual 61, 8) := by decide +kernel
theorem d185_8 : dc 185 8 = some (.ireturn, 9) := by decide +kernel
theorem k_Ho_byteAt {S : Shp} {G : Nat → Option Nat} {d : Nat} {h : Hp} {Q : Option MV → Hp → Prop} {i : Int} (ok : Ok S h) (h1 : 1 ≤ d) {b : BkV} (Bk : BoC S h b.1 b.2.1 b.2.2.1 b.2.2.2)
    (kk : Q (some (vI (bAt b.1 i))) h) : Cl G d 185 [vR (some (sX S)), vI i] h Q := by
  show Wp G d 185 0 [some (vR (some (sX S))), some (vI i)] [] h Q
  refine w_aload_n d185_0 rfl ?_
  refine w_dloadS d185_1 (ok.kd ok.kX) (fr1283 ok ok.kX) ?_
  refine w_iload_n d185_4 rfl ?_
  refine w_callv2 d185_5 (by omega) rfl (ok.kd (kT1283 ok ok.kX)) (by simp) (Nat.le_of_ble_eq_true rfl) ?_
  refine k_Book_at ok (by omega) (kT1283 ok ok.kX) Bk.1 ?_
  refine w_ireturn d185_8 ?_
  exact kk
theorem d186_0 : dc 186 0 = some (.aload_n 0, 1) := by decide +kernel
theorem d186_1 : dc 186 1 = some (.dload 1283, 4) := by decide +kernel
theorem d186_4 : dc 186 4 = some (.iload_n 1, 5) := by decide +kernel
theorem d186_5 : dc 186 5 = some (.iload_n 2, 6) := by decide +kernel
theorem d186_6 : dc 186 6 = some (.invokevirtual 187, 9) := by decide +kernel
theorem d186_9 : dc 186 9 = some (.freturn, 10) := by decide +kernel
theorem k_Ho_poke {S : Shp} {G : Nat → Option Nat} {d : Nat} {h : Hp} {Q : Option MV → Hp → Prop} {i m : Int} (ok : Ok S h) (h1 : 2 ≤ d) {b : BkV} (Bk : BoC S h b.1 b.2.1 b.2.2.1 b.2.2.2)
    (kk : ∀ h' r, Mo S (fun z => U S (sT S 1283 (sX S)) z) h h' → (r = true ↔ (0 ≤ i ∧ i < 2048) ∧ 1 ≤ m ∧ m ≤ 255) → BoV S h' (if r = true then (xorB b.1 i.toNat m.toNat, b.2.1, b.2.2.1, true) else b) → Q (some (vI (b2i r))) h') : Cl G d 186 [vR (some (sX S)), vI i, vI m] h Q := by
  show Wp G d 186 0 [some (vR (some (sX S))), some (vI i), some (vI m)] [] h Q
  refine w_aload_n d186_0 rfl ?_
  refine w_dloadS d186_1 (ok.kd ok.kX) (fr1283 ok ok.kX) ?_
  refine w_iload_n d186_4 rfl ?_
  refine w_iload_n d186_5 rfl ?_
  refine w_callv3 d186_6 (by omega) rfl (ok.kd (kT1283 ok ok.kX)) (by simp) (Nat.le_of_ble_eq_true rfl) ?_
  have kb := kT1283 ok ok.kX
  obtain ⟨q1, q2, q3, q4⟩ := id Bk
  refine k_Book_spoil ok (by omega) kb q1 (fun h6 v m6 e6_1 e6_2 e6_3 e6_4 e6_5 e6_6 => ?_)
  have ok6 := m6.ok
  have M6 := Mo.tr ok (Mo.refl (A := (fun ζ => U S (sT S 1283 (sX S)) ζ)) ok) m6 (fun ζ u => (U_trans U_refl u))
  refine w_zreturn d186_9 (b2i_01 v) ?_
  refine kk h6 v M6 e6_1 ?_
  cases v with
  | true => rw [if_pos rfl]; exact ⟨e6_2 rfl, e6_4.trans q2, e6_5.trans q3, by rw [e6_6]; rfl⟩
  | false => rw [if_neg (by decide)]; exact ⟨e6_3 rfl, e6_4.trans q2, e6_5.trans q3, by rw [e6_6]; exact q4⟩
theorem d181_0 : dc 181 0 = some (.iload_n 1, 1) := by decide +kernel
theorem d181_1 : dc 181 1 = some (.tableswitch ((201 : Nat) : Int) 0 12 #[((68 : Nat) : Int), ((76 : Nat) : Int), ((84 : Nat) : Int), ((92 : Nat) : Int), ((108 : Nat) : Int), ((116 : Nat) : Int), ((124 : Nat) : Int), ((132 : Nat) : Int), ((143 : Nat) : Int), ((165 : Nat) : Int), ((173 : Nat) : Int), ((181 : Nat) : Int), ((191 : Nat) : Int)], 68) := by decide +kernel
theorem d181_68 : dc 181 68 = some (.aload_n 0, 69) := by decide +kernel
theorem d181_69 : dc 181 69 = some (.dload 1284, 72) := by decide +kernel
theorem d181_72 : dc 181 72 = some (.getfield 384, 75) := by decide +kernel
theorem d181_75 : dc 181 75 = some (.ireturn, 76) := by decide +kernel
theorem d181_76 : dc 181 76 = some (.aload_n 0, 77) := by decide +kernel
theorem d181_77 : dc 181 77 = some (.dload 1284, 80) := by decide +kernel
theorem d181_80 : dc 181 80 = some (.invokevirtual 182, 83) := by decide +kernel
theorem d181_83 : dc 181 83 = some (.ireturn, 84) := by decide +kernel
theorem d181_84 : dc 181 84 = some (.aload_n 0, 85) := by decide +kernel
theorem d181_85 : dc 181 85 = some (.dload 1285, 88) := by decide +kernel
theorem d181_88 : dc 181 88 = some (.getfield 1024, 91) := by decide +kernel
theorem d181_91 : dc 181 91 = some (.ireturn, 92) := by decide +kernel
theorem d181_92 : dc 181 92 = some (.aload_n 0, 93) := by decide +kernel
theorem d181_93 : dc 181 93 = some (.dload 1286, 96) := by decide +kernel
theorem d181_96 : dc 181 96 = some (.getfield 771, 99) := by decide +kernel
theorem d181_99 : dc 181 99 = some (.ifCond .eq ((106 : Nat) : Int), 102) := by decide +kernel
theorem d181_102 : dc 181 102 = some (.iconst 1, 103) := by decide +kernel
theorem d181_103 : dc 181 103 = some (.goto ((107 : Nat) : Int), 106) := by decide +kernel
theorem d181_106 : dc 181 106 = some (.iconst 0, 107) := by decide +kernel
theorem d181_107 : dc 181 107 = some (.ireturn, 108) := by decide +kernel
theorem d181_108 : dc 181 108 = some (.aload_n 0, 109) := by decide +kernel
theorem d181_109 : dc 181 109 = some (.dload 1286, 112) := by decide +kernel
theorem d181_112 : dc 181 112 = some (.getfield 772, 115) := by decide +kernel
theorem d181_115 : dc 181 115 = some (.ireturn, 116) := by decide +kernel
theorem d181_116 : dc 181 116 = some (.aload_n 0, 117) := by decide +kernel
theorem d181_117 : dc 181 117 = some (.dload 1286, 120) := by decide +kernel
theorem d181_120 : dc 181 120 = some (.invokevirtual 183, 123) := by decide +kernel
theorem d181_123 : dc 181 123 = some (.ireturn, 124) := by decide +kernel
theorem d181_124 : dc 181 124 = some (.aload_n 0, 125) := by decide +kernel
theorem d181_125 : dc 181 125 = some (.dload 1286, 128) := by decide +kernel
theorem d181_128 : dc 181 128 = some (.invokevirtual 184, 131) := by decide +kernel
theorem d181_131 : dc 181 131 = some (.ireturn, 132) := by decide +kernel
theorem d181_132 : dc 181 132 = some (.aload_n 0, 133) := by decide +kernel
theorem d181_133 : dc 181 133 = some (.dload 1286, 136) := by decide +kernel
theorem d181_136 : dc 181 136 = some (.dload 769, 139) := by decide +kernel
theorem d181_139 : dc 181 139 = some (.getfield 901, 142) := by decide +kernel
theorem d181_142 : dc 181 142 = some (.ireturn, 143) := by decide +kernel
theorem d181_143 : dc 181 143 = some (.aload_n 0, 144) := by decide +kernel
theorem d181_144 : dc 181 144 = some (.dload 1283, 147) := by decide +kernel
theorem d181_147 : dc 181 147 = some (.getfield 3, 150) := by decide +kernel
theorem d181_150 : dc 181 150 = some (.ifCond .eq ((157 : Nat) : Int), 153) := by decide +kernel
theorem d181_153 : dc 181 153 = some (.iconst (-1), 154) := by decide +kernel
theorem d181_154 : dc 181 154 = some (.goto ((164 : Nat) : Int), 157) := by decide +kernel
theorem d181_157 : dc 181 157 = some (.aload_n 0, 158) := by decide +kernel
theorem d181_158 : dc 181 158 = some (.dload 1283, 161) := by decide +kernel
theorem d181_161 : dc 181 161 = some (.getfield 1, 164) := by decide +kernel
theorem d181_164 : dc 181 164 = some (.ireturn, 165) := by decide +kernel
theorem d181_165 : dc 181 165 = some (.aload_n 0, 166) := by decide +kernel
theorem d181_166 : dc 181 166 = some (.dload 1280, 169) := by decide +kernel
theorem d181_169 : dc 181 169 = some (.invokevirtual 13, 172) := by decide +kernel
theorem d181_172 : dc 181 172 = some (.ireturn, 173) := by decide +kernel
theorem d181_173 : dc 181 173 = some (.aload_n 0, 174) := by decide +kernel
theorem d181_174 : dc 181 174 = some (.dload 1281, 177) := by decide +kernel
theorem d181_177 : dc 181 177 = some (.invokevirtual 13, 180) := by decide +kernel
theorem d181_180 : dc 181 180 = some (.ireturn, 181) := by decide +kernel
theorem d181_181 : dc 181 181 = some (.aload_n 0, 182) := by decide +kernel
theorem d181_182 : dc 181 182 = some (.dload 1286, 185) := by decide +kernel
theorem d181_185 : dc 181 185 = some (.dload 775, 188) := by decide +kernel
theorem d181_188 : dc 181 188 = some (.iconst 0, 189) := by decide +kernel
theorem d181_189 : dc 181 189 = some (.iaload, 190) := by decide +kernel
theorem d181_190 : dc 181 190 = some (.ireturn, 191) := by decide +kernel
theorem d181_191 : dc 181 191 = some (.aload_n 0, 192) := by decide +kernel
theorem d181_192 : dc 181 192 = some (.dload 1286, 195) := by decide +kernel
theorem d181_195 : dc 181 195 = some (.dload 775, 198) := by decide +kernel
theorem d181_198 : dc 181 198 = some (.iconst 1, 199) := by decide +kernel
theorem d181_199 : dc 181 199 = some (.iaload, 200) := by decide +kernel
theorem d181_200 : dc 181 200 = some (.ireturn, 201) := by decide +kernel
theorem d181_201 : dc 181 201 = some (.iconst (-1), 202) := by decide +kernel
theorem d181_202 : dc 181 202 = some (.ireturn, 203) := by decide +kernel
theorem k_Ho_state {S : Shp} {G : Nat → Option Nat} {d : Nat} {h : Hp} {Q : Option MV → Hp → Prop} {i : Int} (ok : Ok S h) (h1 : 2 ≤ d) {v : HoS} {b : BkV} (D : HoC S h v) (Bk : BoC S h b.1 b.2.1 b.2.2.1 b.2.2.2)
    (kk : Q (some (vI (stV v b (rl h (sT S 1280 (sX S))).length (rl h (sT S 1281 (sX S))).length i))) h) : Cl G d 181 [vR (some (sX S)), vI i] h Q := by
  show Wp G d 181 0 [some (vR (some (sX S))), some (vI i)] [] h Q
  have kq := kT1282 ok ok.kX
  have kp := kT1284 ok ok.kX
  have kv := kT1285 ok ok.kX
  have ks0 := kT1286 ok ok.kX
  have kl := kT1281 ok ok.kX
  obtain ⟨pl, d2, ⟨y0, sd, sI, sL_, sY⟩, dtr, dno⟩ := id D
  have fl384 : FI h 384 (sT S 1284 (sX S)) = ((v.1.1.length : Nat) : Int) := (by obtain ⟨σ, z1, z2, z3, z4⟩ := pl.1; exact z3)
  refine w_iload_n d181_0 rfl ?_
  by_cases s0 : i = 0
  · refine w_tsw 68 d181_1 (by rw [s0]; decide) ?_
    refine w_aload_n d181_68 rfl ?_
    refine w_dloadS d181_69 (ok.kd ok.kX) (fr1284 ok ok.kX) ?_
    refine w_getI (x := ((v.1.1.length : Nat) : Int)) d181_72 (ok.kd (kT1284 ok ok.kX)) fl384 ?_
    refine w_ireturn d181_75 ?_
    refine qI ?_ kk
    unfold stV
    rw [if_pos s0]
  by_cases s1 : i = 1
  · refine w_tsw 76 d181_1 (by rw [s1]; decide) ?_
    refine w_aload_n d181_76 rfl ?_
    refine w_dloadS d181_77 (ok.kd ok.kX) (fr1284 ok ok.kX) ?_
    refine w_callv1 d181_80 (by omega) rfl (ok.kd (kT1284 ok ok.kX)) (by simp) (Nat.le_of_ble_eq_true rfl) ?_
    refine k_Plan_targetsThere ok (by omega) kp pl.2.2 ?_
    refine w_ireturn d181_83 ?_
    refine qI ?_ kk
    unfold stV
    rw [if_neg (by omega), if_pos s1]
  by_cases s2 : i = 2
  · refine w_tsw 84 d181_1 (by rw [s2]; decide) ?_
    refine w_aload_n d181_84 rfl ?_
    refine w_dloadS d181_85 (ok.kd ok.kX) (fr1285 ok ok.kX) ?_
    refine w_getI (x := ((v.2.1.length : Nat) : Int)) d181_88 (ok.kd (kT1285 ok ok.kX)) d2.1 ?_
    refine w_ireturn d181_91 ?_
    refine qI ?_ kk
    unfold stV
    rw [if_neg (by omega), if_neg (by omega), if_pos s2]
  by_cases s3 : i = 3
  · refine w_tsw 92 d181_1 (by rw [s3]; decide) ?_
    refine w_aload_n d181_92 rfl ?_
    refine w_dloadS d181_93 (ok.kd ok.kX) (fr1286 ok ok.kX) ?_
    refine w_getI (x := (b2i (seOn v.2.2))) d181_96 (ok.kd (kT1286 ok ok.kX)) sd.2.2.2.2.1 ?_
    refine w_ifeq d181_99 (fun c99 => ?_) (fun c99 => ?_)
    · have g1 : seOn v.2.2 = false := by cases z : seOn v.2.2 with
        | true => rw [z] at c99; exact absurd c99 (by decide)
        | false => rfl
      refine w_iconst d181_106 (by decide) ?_
      refine w_ireturn d181_107 ?_
      refine qI ?_ kk
      unfold stV
      rw [if_neg (by omega), if_neg (by omega), if_neg (by omega), if_pos s3]
      rw [g1]
      first | done | rfl
    · have g1 : seOn v.2.2 = true := by cases z : seOn v.2.2 with
        | true => rfl
        | false => rw [z] at c99; exact absurd rfl c99
      refine w_iconst d181_102 (by decide) ?_
      refine w_goto d181_103 ?_
      refine w_ireturn d181_107 ?_
      refine qI ?_ kk
      unfold stV
      rw [if_neg (by omega), if_neg (by omega), if_neg (by omega), if_pos s3]
      rw [g1]
      first | done | rfl
  by_cases s4 : i = 4
  · refine w_tsw 108 d181_1 (by rw [s4]; decide) ?_
    refine w_aload_n d181_108 rfl ?_
    refine w_dloadS d181_109 (ok.kd ok.kX) (fr1286 ok ok.kX) ?_
    refine w_getI (x := ((seSt v.2.2 : Nat) : Int)) d181_112 (ok.kd (kT1286 ok ok.kX)) sd.2.2.2.2.2.1 ?_
    refine w_ireturn d181_115 ?_
    refine qI ?_ kk
    unfold stV
    rw [if_neg (by omega), if_neg (by omega), if_neg (by omega), if_neg (by omega), if_pos s4]
  by_cases s5 : i = 5
  · refine w_tsw 116 d181_1 (by rw [s5]; decide) ?_
    refine w_aload_n d181_116 rfl ?_
    refine w_dloadS d181_117 (ok.kd ok.kX) (fr1286 ok ok.kX) ?_
    refine w_callv1 d181_120 (by omega) rfl (ok.kd (kT1286 ok ok.kX)) (by simp) (Nat.le_of_ble_eq_true rfl) ?_
    refine k_Se_neededCount ok (by omega) ks0 sd.2.2.2.1 ?_
    refine w_ireturn d181_123 ?_
    refine qI ?_ kk
    unfold stV
    rw [if_neg (by omega), if_neg (by omega), if_neg (by omega), if_neg (by omega), if_neg (by omega), if_pos s5]
    first | done | rfl
  by_cases s6 : i = 6
  · refine w_tsw 124 d181_1 (by rw [s6]; decide) ?_
    refine w_aload_n d181_124 rfl ?_
    refine w_dloadS d181_125 (ok.kd ok.kX) (fr1286 ok ok.kX) ?_
    refine w_callv1 d181_128 (by omega) rfl (ok.kd (kT1286 ok ok.kX)) (by simp) (Nat.le_of_ble_eq_true rfl) ?_
    refine k_Se_doneCount ok (by omega) ks0 sd.2.2.1 ?_
    refine w_ireturn d181_131 ?_
    refine qI ?_ kk
    unfold stV
    rw [if_neg (by omega), if_neg (by omega), if_neg (by omega), if_neg (by omega), if_neg (by omega), if_neg (by omega), if_pos s6]
    first | done | rfl
  by_cases s7 : i = 7
  · refine w_tsw 132 d181_1 (by rw [s7]; decide) ?_
    refine w_aload_n d181_132 rfl ?_
    refine w_dloadS d181_133 (ok.kd ok.kX) (fr1286 ok ok.kX) ?_
    refine w_dloadS d181_136 (ok.kd (kT1286 ok ok.kX)) (fr769 ok (kT1286 ok ok.kX)) ?_
    refine w_getI (x := (((seGo v.2.2).2.2.2.1.length : Nat) : Int)) d181_139 (ok.kd (kT769 ok (kT1286 ok ok.kX))) sd.2.1.2.2.2.choose_spec.2.2.1 ?_
    refine w_ireturn d181_142 ?_
    refine qI ?_ kk
    unfold stV
    rw [if_neg (by omega), if_neg (by omega), if_neg (by omega), if_neg (by omega), if_neg (by omega), if_neg (by omega), if_neg (by omega), if_pos s7]
  by_cases s8 : i = 8
  · refine w_tsw 143 d181_1 (by rw [s8]; decide) ?_
    refine w_aload_n d181_143 rfl ?_
    refine w_dloadS d181_144 (ok.kd ok.kX) (fr1283 ok ok.kX) ?_
    refine w_getI (x := (b2i b.2.2.2)) d181_147 (ok.kd (kT1283 ok ok.kX)) Bk.2.2.2 ?_
    refine w_ifeq d181_150 (fun c150 => ?_) (fun c150 => ?_)
    · have g1 : ¬ b.2.2.2 = true := fun e => by rw [e] at c150; exact absurd c150 (by decide)
      refine w_aload_n d181_157 rfl ?_
      refine w_dloadS d181_158 (ok.kd ok.kX) (fr1283 ok ok.kX) ?_
      refine w_getI (x := ((b.2.1 : Nat) : Int)) d181_161 (ok.kd (kT1283 ok ok.kX)) Bk.2.1 ?_
      refine w_ireturn d181_164 ?_
      refine qI ?_ kk
      unfold stV
      rw [if_neg (by omega), if_neg (by omega), if_neg (by omega), if_neg (by omega), if_neg (by omega), if_neg (by omega), if_neg (by omega), if_neg (by omega), if_pos s8]
      rw [if_neg g1]
    · have g1 : b.2.2.2 = true := by cases z : b.2.2.2 with
        | true => rfl
        | false => rw [z] at c150; exact absurd rfl c150
      refine w_iconst d181_153 (by decide) ?_
      refine w_goto d181_154 ?_
      refine w_ireturn d181_164 ?_
      refine qI ?_ kk
      unfold stV
      rw [if_neg (by omega), if_neg (by omega), if_neg (by omega), if_neg (by omega), if_neg (by omega), if_neg (by omega), if_neg (by omega), if_neg (by omega), if_pos s8]
      rw [if_pos g1]
  by_cases s9 : i = 9
  · refine w_tsw 165 d181_1 (by rw [s9]; decide) ?_
    refine w_aload_n d181_165 rfl ?_
    refine w_dloadS d181_166 (ok.kd ok.kX) (fr1280 ok ok.kX) ?_
    refine w_callv1 d181_169 (by omega) rfl (ok.kd (kT1280 ok ok.kX)) (by simp) (Nat.le_of_ble_eq_true rfl) ?_
    refine r_Row_size ok (kT1280 ok ok.kX) ?_
    refine w_ireturn d181_172 ?_
    refine qI ?_ kk
    unfold stV
    rw [if_neg (by omega), if_neg (by omega), if_neg (by omega), if_neg (by omega), if_neg (by omega), if_neg (by omega), if_neg (by omega), if_neg (by omega), if_neg (by omega), if_pos s9]
  by_cases s10 : i = 10
  · refine w_tsw 173 d181_1 (by rw [s10]; decide) ?_
    refine w_aload_n d181_173 rfl ?_
    refine w_dloadS d181_174 (ok.kd ok.kX) (fr1281 ok ok.kX) ?_
    refine w_callv1 d181_177 (by omega) rfl (ok.kd (kT1281 ok ok.kX)) (by simp) (Nat.le_of_ble_eq_true rfl) ?_
    refine r_Row_size ok (kT1281 ok ok.kX) ?_
    refine w_ireturn d181_180 ?_
    refine qI ?_ kk
    unfold stV
    rw [if_neg (by omega), if_neg (by omega), if_neg (by omega), if_neg (by omega), if_neg (by omega), if_neg (by omega), if_neg (by omega), if_neg (by omega), if_neg (by omega), if_neg (by omega), if_pos s10]
  by_cases s11 : i = 11
  · refine w_tsw 181 d181_1 (by rw [s11]; decide) ?_
    refine w_aload_n d181_181 rfl ?_
    refine w_dloadS d181_182 (ok.kd ok.kX) (fr1286 ok ok.kX) ?_
    refine w_dloadS d181_185 (ok.kd (kT1286 ok ok.kX)) (fr775 ok (kT1286 ok ok.kX)) ?_
    refine w_iconst d181_188 (by decide) ?_
    refine w_ialoadV (x := (rH (goR (seGo v.2.2)) 0)) d181_189 (gi775 ok (kT1286 ok ok.kX) (by omega)) (sd.2.2.1.2.1 0 (by decide)) ?_
    refine w_ireturn d181_190 ?_
    refine qI ?_ kk
    unfold stV
    rw [if_neg (by omega), if_neg (by omega), if_neg (by omega), if_neg (by omega), if_neg (by omega), if_neg (by omega), if_neg (by omega), if_neg (by omega), if_neg (by omega), if_neg (by omega), if_neg (by omega), if_pos s11]
  by_cases s12 : i = 12
  · refine w_tsw 191 d181_1 (by rw [s12]; decide) ?_
    refine w_aload_n d181_191 rfl ?_
    refine w_dloadS d181_192 (ok.kd ok.kX) (fr1286 ok ok.kX) ?_
    refine w_dloadS d181_195 (ok.kd (kT1286 ok ok.kX)) (fr775 ok (kT1286 ok ok.kX)) ?_
    refine w_iconst d181_198 (by decide) ?_
    refine w_ialoadV (x := (rH (goR (seGo v.2.2)) 1)) d181_199 (gi775 ok (kT1286 ok ok.kX) (by omega)) (sd.2.2.1.2.1 1 (by decide)) ?_
    refine w_ireturn d181_200 ?_
    refine qI ?_ kk
    unfold stV
    rw [if_neg (by omega), if_neg (by omega), if_neg (by omega), if_neg (by omega), if_neg (by omega), if_neg (by omega), if_neg (by omega), if_neg (by omega), if_neg (by omega), if_neg (by omega), if_neg (by omega), if_neg (by omega), if_pos s12]
  refine w_tsw 201 d181_1 (by rw [if_pos (show i < 0 ∨ 12 < i by omega)]) ?_
  refine w_iconst d181_201 (by decide) ?_
  refine w_ireturn d181_202 ?_
  refine qI ?_ kk
  unfold stV
  rw [if_neg (by omega), if_neg (by omega), if_neg (by omega), if_neg (by omega), if_neg (by omega), if_neg (by omega), if_neg (by omega), if_neg (by omega), if_neg (by omega), if_neg (by omega), if_neg (by omega), if_neg (by omega), if_neg (by omega)]
