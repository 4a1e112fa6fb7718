/-! constructors of the class (written by wip/tools/m/mc02.py) -/
def tRow (c : Nat) : List ObE := putE (ronE 6 0) 0 640 (ronE 41 c)
theorem d1_0 : dc 1 0 = some (.aload_n 0, 1) := by decide +kernel
theorem d1_1 : dc 1 1 = some (.invokespecial 0, 4) := by decide +kernel
theorem d1_4 : dc 1 4 = some (.aload_n 0, 5) := by decide +kernel
theorem d1_5 : dc 1 5 = some (.iload_n 1, 6) := by decide +kernel
theorem d1_6 : dc 1 6 = some (.iconst 0, 7) := by decide +kernel
theorem d1_7 : dc 1 7 = some (.invokestatic 3, 10) := by decide +kernel
theorem d1_10 : dc 1 10 = some (.newarray .byte, 12) := by decide +kernel
theorem d1_12 : dc 1 12 = some (.dstore 640, 15) := by decide +kernel
theorem d1_15 : dc 1 15 = some (.return_, 16) := by decide +kernel
theorem i_Row {G : Nat → Option Nat} {d c : Nat} (hc : c ≤ 60000000) (h1 : 1 ≤ d) : Mk G d 1 [vI (c : Nat)] 6 (tRow c) (fun _ _ => True) := by
  intro h0 p s0 Q B0 kk
  have F0 : Fx (fun x => p ≤ x) h0 h0 := Fx.refl
  show Wp G d 1 0 [some (vR (some p)), some (vI (c : Nat))] [] h0 Q
  refine w_aload_n d1_0 rfl ?_
  refine w_objinit d1_1 ⟨by rw [B0.kp]; decide, Nat.zero_le _, by omega⟩ ?_
  refine w_aload_n d1_4 rfl ?_
  refine w_iload_n d1_5 rfl ?_
  refine w_iconst d1_6 (by decide) ?_
  refine w_max d1_7 ⟨by simp, by omega⟩ ?_
  rw [show (if ((c : Nat) : Int) < 0 then 0 else ((c : Nat) : Int)) = ((c : Nat) : Int) from if_neg (by omega)]
  refine w_newarray d1_10 ⟨by omega, by decide⟩ ?_
  refine c_dst B0 (Fx.nA h0 41 c) (Bl.nA h0 41 c (by decide) (fun _ => none)) (iF_40 (by decide)) (iA_no (by decide)) d1_12 ⟨by decide, by decide⟩ (by decide +kernel) (by decide) (fun h1 B1 g1 e1 => ?_)
  have F1 := F0.tr (g1.any (fun x e => by omega))
  clear g1 e1
  refine w_return d1_15 ?_
  exact kk _ ((B1.ri (iF_no (by decide)) (fun _ => rfl)).dz) F1 trivial
def tDef : List ObE := (putE (putE (putE (putE (ronE 2 0) 0 134 (ronE 42 6)) 0 135 (ronE 44 6)) 0 136 (ronE 44 6)) 0 139 (tRow 0))
theorem d4_0 : dc 4 0 = some (.aload_n 0, 1) := by decide +kernel
theorem d4_1 : dc 4 1 = some (.invokespecial 0, 4) := by decide +kernel
theorem d4_4 : dc 4 4 = some (.aload_n 0, 5) := by decide +kernel
theorem d4_5 : dc 4 5 = some (.iconst (-1), 6) := by decide +kernel
theorem d4_6 : dc 4 6 = some (.putfield 131, 9) := by decide +kernel
theorem d4_9 : dc 4 9 = some (.aload_n 0, 10) := by decide +kernel
theorem d4_10 : dc 4 10 = some (.bipush 6, 12) := by decide +kernel
theorem d4_12 : dc 4 12 = some (.newarray .boolean, 14) := by decide +kernel
theorem d4_14 : dc 4 14 = some (.dstore 134, 17) := by decide +kernel
theorem d4_17 : dc 4 17 = some (.aload_n 0, 18) := by decide +kernel
theorem d4_18 : dc 4 18 = some (.bipush 6, 20) := by decide +kernel
theorem d4_20 : dc 4 20 = some (.newarray .long, 22) := by decide +kernel
theorem d4_22 : dc 4 22 = some (.dstore 135, 25) := by decide +kernel
theorem d4_25 : dc 4 25 = some (.aload_n 0, 26) := by decide +kernel
theorem d4_26 : dc 4 26 = some (.bipush 6, 28) := by decide +kernel
theorem d4_28 : dc 4 28 = some (.newarray .long, 30) := by decide +kernel
theorem d4_30 : dc 4 30 = some (.dstore 136, 33) := by decide +kernel
theorem d4_33 : dc 4 33 = some (.aload_n 0, 34) := by decide +kernel
theorem d4_34 : dc 4 34 = some (.new 5, 37) := by decide +kernel
theorem d4_37 : dc 4 37 = some (.dup, 38) := by decide +kernel
theorem d4_38 : dc 4 38 = some (.iconst 0, 39) := by decide +kernel
theorem d4_39 : dc 4 39 = some (.invokevirtual 1, 42) := by decide +kernel
theorem d4_42 : dc 4 42 = some (.dstore 139, 45) := by decide +kernel
theorem d4_45 : dc 4 45 = some (.return_, 46) := by decide +kernel
theorem i_Def {G : Nat → Option Nat} {d : Nat} (h1 : 2 ≤ d) : Mk G d 4 [] 2 tDef (fun _ _ => True) := by
  intro h0 p s0 Q B0 kk
  have F0 : Fx (fun x => p ≤ x) h0 h0 := Fx.refl
  show Wp G d 4 0 [some (vR (some p))] [] h0 Q
  refine w_aload_n d4_0 rfl ?_
  refine w_objinit d4_1 ⟨by rw [B0.kp]; decide, Nat.zero_le _, by omega⟩ ?_
  refine w_aload_n d4_4 rfl ?_
  refine w_iconst d4_5 (by decide) ?_
  refine w_putfield d4_6 ⟨B0.kp.trans (by decide), by decide⟩ ?_
  obtain ⟨B1, g1⟩ := B0.si 131 (-1)
  have F1 := F0.tr (g1.any (fun x e => by omega))
  generalize sFI h0 131 p (-1) = h1 at B1 g1 F1 ⊢
  refine w_aload_n d4_9 rfl ?_
  refine w_bipush d4_10 (by decide) ?_
  refine w_newarray d4_12 ⟨by decide, by decide⟩ ?_
  refine c_dst B1 (Fx.nA h1 42 6) (Bl.nA h1 42 6 (by decide) (fun _ => none)) (iF_40 (by decide)) (iA_no (by decide)) d4_14 ⟨by decide, by decide⟩ (by decide +kernel) (by decide) (fun h2 B2 g2 e2 => ?_)
  have F2 := F1.tr (g2.any (fun x e => by omega))
  clear g2 e2
  refine w_aload_n d4_17 rfl ?_
  refine w_bipush d4_18 (by decide) ?_
  refine w_newarray d4_20 ⟨by decide, by decide⟩ ?_
  refine c_dst B2 (Fx.nA h2 44 6) (Bl.nA h2 44 6 (by decide) (fun _ => none)) (iF_40 (by decide)) (iA_no (by decide)) d4_22 ⟨by decide, by decide⟩ (by decide +kernel) (by decide) (fun h3 B3 g3 e3 => ?_)
  have F3 := F2.tr (g3.any (fun x e => by omega))
  clear g3 e3
  refine w_aload_n d4_25 rfl ?_
  refine w_bipush d4_26 (by decide) ?_
  refine w_newarray d4_28 ⟨by decide, by decide⟩ ?_
  refine c_dst B3 (Fx.nA h3 44 6) (Bl.nA h3 44 6 (by decide) (fun _ => none)) (iF_40 (by decide)) (iA_no (by decide)) d4_30 ⟨by decide, by decide⟩ (by decide +kernel) (by decide) (fun h4 B4 g4 e4 => ?_)
  have F4 := F3.tr (g4.any (fun x e => by omega))
  clear g4 e4
  refine w_aload_n d4_33 rfl ?_
  refine w_new d4_34 (by decide) ?_
  refine w_dupR d4_37 ?_
  refine w_iconst d4_38 (by decide) ?_
  refine w_callv2 d4_39 (by omega) rfl ((KD_nO _ _).trans (by decide)) (by simp) (Nat.le_of_ble_eq_true rfl) ?_
  refine i_Row (c := 0) (by decide) (by omega) _ _ _ _ (Bl.nO h4 5 (by decide) _) (fun hq bq fq xq => ?_)
  refine c_dst B4 (fq.made (fun _ z => z)) bq (fun _ => rfl) (iA_no (by decide)) d4_42 ⟨by decide, by decide⟩ (by decide +kernel) (by decide) (fun h5 B5 g5 e5 => ?_)
  have F5 := F4.tr (g5.any (fun x e => by omega))
  clear g5 e5
  refine w_return d4_45 ?_
  exact kk _ ((B5.ri (iF_at (g := 131) (by decide)) (fun _ => rfl)).dz) F5 trivial
def tOut : List ObE := (putE (putE (putE (putE (ronE 3 0) 0 257 (tRow 0)) 0 258 (tRow 0)) 0 259 (tRow 24)) 0 260 (ronE 44 7))
theorem d11_0 : dc 11 0 = some (.aload_n 0, 1) := by decide +kernel
theorem d11_1 : dc 11 1 = some (.invokespecial 0, 4) := by decide +kernel
theorem d11_4 : dc 11 4 = some (.aload_n 0, 5) := by decide +kernel
theorem d11_5 : dc 11 5 = some (.new 5, 8) := by decide +kernel
theorem d11_8 : dc 11 8 = some (.dup, 9) := by decide +kernel
theorem d11_9 : dc 11 9 = some (.iconst 0, 10) := by decide +kernel
theorem d11_10 : dc 11 10 = some (.invokevirtual 1, 13) := by decide +kernel
theorem d11_13 : dc 11 13 = some (.dstore 257, 16) := by decide +kernel
theorem d11_16 : dc 11 16 = some (.aload_n 0, 17) := by decide +kernel
theorem d11_17 : dc 11 17 = some (.new 5, 20) := by decide +kernel
theorem d11_20 : dc 11 20 = some (.dup, 21) := by decide +kernel
theorem d11_21 : dc 11 21 = some (.iconst 0, 22) := by decide +kernel
theorem d11_22 : dc 11 22 = some (.invokevirtual 1, 25) := by decide +kernel
theorem d11_25 : dc 11 25 = some (.dstore 258, 28) := by decide +kernel
theorem d11_28 : dc 11 28 = some (.aload_n 0, 29) := by decide +kernel
theorem d11_29 : dc 11 29 = some (.new 5, 32) := by decide +kernel
theorem d11_32 : dc 11 32 = some (.dup, 33) := by decide +kernel
theorem d11_33 : dc 11 33 = some (.bipush 24, 35) := by decide +kernel
theorem d11_35 : dc 11 35 = some (.invokevirtual 1, 38) := by decide +kernel
theorem d11_38 : dc 11 38 = some (.dstore 259, 41) := by decide +kernel
theorem d11_41 : dc 11 41 = some (.aload_n 0, 42) := by decide +kernel
theorem d11_42 : dc 11 42 = some (.bipush 7, 44) := by decide +kernel
theorem d11_44 : dc 11 44 = some (.newarray .long, 46) := by decide +kernel
theorem d11_46 : dc 11 46 = some (.dstore 260, 49) := by decide +kernel
theorem d11_49 : dc 11 49 = some (.return_, 50) := by decide +kernel
theorem i_Out {G : Nat → Option Nat} {d : Nat} (h1 : 2 ≤ d) : Mk G d 11 [] 3 tOut (fun _ _ => True) := by
  intro h0 p s0 Q B0 kk
  have F0 : Fx (fun x => p ≤ x) h0 h0 := Fx.refl
  show Wp G d 11 0 [some (vR (some p))] [] h0 Q
  refine w_aload_n d11_0 rfl ?_
  refine w_objinit d11_1 ⟨by rw [B0.kp]; decide, Nat.zero_le _, by omega⟩ ?_
  refine w_aload_n d11_4 rfl ?_
  refine w_new d11_5 (by decide) ?_
  refine w_dupR d11_8 ?_
  refine w_iconst d11_9 (by decide) ?_
  refine w_callv2 d11_10 (by omega) rfl ((KD_nO _ _).trans (by decide)) (by simp) (Nat.le_of_ble_eq_true rfl) ?_
  refine i_Row (c := 0) (by decide) (by omega) _ _ _ _ (Bl.nO h0 5 (by decide) _) (fun hq bq fq xq => ?_)
  refine c_dst B0 (fq.made (fun _ z => z)) bq (fun _ => rfl) (iA_no (by decide)) d11_13 ⟨by decide, by decide⟩ (by decide +kernel) (by decide) (fun h1 B1 g1 e1 => ?_)
  have F1 := F0.tr (g1.any (fun x e => by omega))
  clear g1 e1
  refine w_aload_n d11_16 rfl ?_
  refine w_new d11_17 (by decide) ?_
  refine w_dupR d11_20 ?_
  refine w_iconst d11_21 (by decide) ?_
  refine w_callv2 d11_22 (by omega) rfl ((KD_nO _ _).trans (by decide)) (by simp) (Nat.le_of_ble_eq_true rfl) ?_
  refine i_Row (c := 0) (by decide) (by omega) _ _ _ _ (Bl.nO h1 5 (by decide) _) (fun hq bq fq xq => ?_)
  refine c_dst B1 (fq.made (fun _ z => z)) bq (fun _ => rfl) (iA_no (by decide)) d11_25 ⟨by decide, by decide⟩ (by decide +kernel) (by decide) (fun h2 B2 g2 e2 => ?_)
  have F2 := F1.tr (g2.any (fun x e => by omega))
  clear g2 e2
  refine w_aload_n d11_28 rfl ?_
  refine w_new d11_29 (by decide) ?_
  refine w_dupR d11_32 ?_
  refine w_bipush d11_33 (by decide) ?_
  refine w_callv2 d11_35 (by omega) rfl ((KD_nO _ _).trans (by decide)) (by simp) (Nat.le_of_ble_eq_true rfl) ?_
  refine i_Row (c := 24) (by decide) (by omega) _ _ _ _ (Bl.nO h2 5 (by decide) _) (fun hq bq fq xq => ?_)
  refine c_dst B2 (fq.made (fun _ z => z)) bq (fun _ => rfl) (iA_no (by decide)) d11_38 ⟨by decide, by decide⟩ (by decide +kernel) (by decide) (fun h3 B3 g3 e3 => ?_)
  have F3 := F2.tr (g3.any (fun x e => by omega))
  clear g3 e3
  refine w_aload_n d11_41 rfl ?_
  refine w_bipush d11_42 (by decide) ?_
  refine w_newarray d11_44 ⟨by decide, by decide⟩ ?_
  refine c_dst B3 (Fx.nA h3 44 7) (Bl.nA h3 44 7 (by decide) (fun _ => none)) (iF_40 (by decide)) (iA_no (by decide)) d11_46 ⟨by decide, by decide⟩ (by decide +kernel) (by decide) (fun h4 B4 g4 e4 => ?_)
  have F4 := F3.tr (g4.any (fun x e => by omega))
  clear g4 e4
  refine w_return d11_49 ?_
  exact kk _ ((B4.ri (iF_no (by decide)) (fun _ => rfl)).dz) F4 trivial
def tBook : List ObE := (putE (ronE 1 0) 0 0 (ronE 41 2048))
theorem d5_0 : dc 5 0 = some (.aload_n 0, 1) := by decide +kernel
theorem d5_1 : dc 5 1 = some (.invokespecial 0, 4) := by decide +kernel
theorem d5_4 : dc 5 4 = some (.aload_n 0, 5) := by decide +kernel
theorem d5_5 : dc 5 5 = some (.sipush 2048, 8) := by decide +kernel
theorem d5_8 : dc 5 8 = some (.newarray .byte, 10) := by decide +kernel
theorem d5_10 : dc 5 10 = some (.dstore 0, 13) := by decide +kernel
theorem d5_13 : dc 5 13 = some (.aload_n 0, 14) := by decide +kernel
theorem d5_14 : dc 5 14 = some (.iconst (-1), 15) := by decide +kernel
theorem d5_15 : dc 5 15 = some (.putfield 2, 18) := by decide +kernel
theorem d5_18 : dc 5 18 = some (.return_, 19) := by decide +kernel
theorem i_Book {G : Nat → Option Nat} {d : Nat} (h1 : 1 ≤ d) : Mk G d 5 [] 1 tBook (fun _ _ => True) := by
  intro h0 p s0 Q B0 kk
  have F0 : Fx (fun x => p ≤ x) h0 h0 := Fx.refl
  show Wp G d 5 0 [some (vR (some p))] [] h0 Q
  refine w_aload_n d5_0 rfl ?_
  refine w_objinit d5_1 ⟨by rw [B0.kp]; decide, Nat.zero_le _, by omega⟩ ?_
  refine w_aload_n d5_4 rfl ?_
  refine w_sipush d5_5 (by decide) ?_
  refine w_newarray d5_8 ⟨by decide, by decide⟩ ?_
  refine c_dst B0 (Fx.nA h0 41 2048) (Bl.nA h0 41 2048 (by decide) (fun _ => none)) (iF_40 (by decide)) (iA_no (by decide)) d5_10 ⟨by decide, by decide⟩ (by decide +kernel) (by decide) (fun h1 B1 g1 e1 => ?_)
  have F1 := F0.tr (g1.any (fun x e => by omega))
  clear g1 e1
  refine w_aload_n d5_13 rfl ?_
  refine w_iconst d5_14 (by decide) ?_
  refine w_putfield d5_15 ⟨B1.kp.trans (by decide), by decide⟩ ?_
  obtain ⟨B2, g2⟩ := B1.si 2 (-1)
  have F2 := F1.tr (g2.any (fun x e => by omega))
  generalize sFI h1 2 p (-1) = h2 at B2 g2 F2 ⊢
  refine w_return d5_18 ?_
  exact kk _ ((B2.ri (iF_at (g := 2) (by decide)) (fun _ => rfl)).dz) F2 trivial
def tVers : List ObE := (putE (putE (putE (putE (putE (putE (putE (putE (putE (putE (ronE 9 0) 0 1025 (ronE 40 20)) 0 1026 (ronE 40 20)) 0 1027 (ronE 40 20)) 0 1028 (ronE 40 20)) 0 1029 (ronE 40 20)) 0 1030 (ronE 40 5)) 0 1031 (ronE 40 5)) 0 1032 (ronE 40 512)) 0 1033 (ronE 40 512)) 0 1034 (ronE 40 512))
theorem d7_0 : dc 7 0 = some (.aload_n 0, 1) := by decide +kernel
theorem d7_1 : dc 7 1 = some (.invokespecial 0, 4) := by decide +kernel
theorem d7_4 : dc 7 4 = some (.aload_n 0, 5) := by decide +kernel
theorem d7_5 : dc 7 5 = some (.bipush 20, 7) := by decide +kernel
theorem d7_7 : dc 7 7 = some (.newarray .int, 9) := by decide +kernel
theorem d7_9 : dc 7 9 = some (.dstore 1025, 12) := by decide +kernel
theorem d7_12 : dc 7 12 = some (.aload_n 0, 13) := by decide +kernel
theorem d7_13 : dc 7 13 = some (.bipush 20, 15) := by decide +kernel
theorem d7_15 : dc 7 15 = some (.newarray .int, 17) := by decide +kernel
theorem d7_17 : dc 7 17 = some (.dstore 1026, 20) := by decide +kernel
theorem d7_20 : dc 7 20 = some (.aload_n 0, 21) := by decide +kernel
theorem d7_21 : dc 7 21 = some (.bipush 20, 23) := by decide +kernel
theorem d7_23 : dc 7 23 = some (.newarray .int, 25) := by decide +kernel
theorem d7_25 : dc 7 25 = some (.dstore 1027, 28) := by decide +kernel
theorem d7_28 : dc 7 28 = some (.aload_n 0, 29) := by decide +kernel
theorem d7_29 : dc 7 29 = some (.bipush 20, 31) := by decide +kernel
theorem d7_31 : dc 7 31 = some (.newarray .int, 33) := by decide +kernel
theorem d7_33 : dc 7 33 = some (.dstore 1028, 36) := by decide +kernel
theorem d7_36 : dc 7 36 = some (.aload_n 0, 37) := by decide +kernel
theorem d7_37 : dc 7 37 = some (.bipush 20, 39) := by decide +kernel
theorem d7_39 : dc 7 39 = some (.newarray .int, 41) := by decide +kernel
theorem d7_41 : dc 7 41 = some (.dstore 1029, 44) := by decide +kernel
theorem d7_44 : dc 7 44 = some (.aload_n 0, 45) := by decide +kernel
theorem d7_45 : dc 7 45 = some (.iconst 5, 46) := by decide +kernel
theorem d7_46 : dc 7 46 = some (.newarray .int, 48) := by decide +kernel
theorem d7_48 : dc 7 48 = some (.dstore 1030, 51) := by decide +kernel
theorem d7_51 : dc 7 51 = some (.aload_n 0, 52) := by decide +kernel
theorem d7_52 : dc 7 52 = some (.iconst 5, 53) := by decide +kernel
theorem d7_53 : dc 7 53 = some (.newarray .int, 55) := by decide +kernel
theorem d7_55 : dc 7 55 = some (.dstore 1031, 58) := by decide +kernel
theorem d7_58 : dc 7 58 = some (.aload_n 0, 59) := by decide +kernel
theorem d7_59 : dc 7 59 = some (.sipush 512, 62) := by decide +kernel
theorem d7_62 : dc 7 62 = some (.newarray .int, 64) := by decide +kernel
theorem d7_64 : dc 7 64 = some (.dstore 1032, 67) := by decide +kernel
theorem d7_67 : dc 7 67 = some (.aload_n 0, 68) := by decide +kernel
theorem d7_68 : dc 7 68 = some (.sipush 512, 71) := by decide +kernel
theorem d7_71 : dc 7 71 = some (.newarray .int, 73) := by decide +kernel
theorem d7_73 : dc 7 73 = some (.dstore 1033, 76) := by decide +kernel
theorem d7_76 : dc 7 76 = some (.aload_n 0, 77) := by decide +kernel
theorem d7_77 : dc 7 77 = some (.sipush 512, 80) := by decide +kernel
theorem d7_80 : dc 7 80 = some (.newarray .int, 82) := by decide +kernel
theorem d7_82 : dc 7 82 = some (.dstore 1034, 85) := by decide +kernel
theorem d7_85 : dc 7 85 = some (.return_, 86) := by decide +kernel
theorem i_Vers {G : Nat → Option Nat} {d : Nat} (h1 : 1 ≤ d) : Mk G d 7 [] 9 tVers (fun _ _ => True) := by
  intro h0 p s0 Q B0 kk
  have F0 : Fx (fun x => p ≤ x) h0 h0 := Fx.refl
  show Wp G d 7 0 [some (vR (some p))] [] h0 Q
  refine w_aload_n d7_0 rfl ?_
  refine w_objinit d7_1 ⟨by rw [B0.kp]; decide, Nat.zero_le _, by omega⟩ ?_
  refine w_aload_n d7_4 rfl ?_
  refine w_bipush d7_5 (by decide) ?_
  refine w_newarray d7_7 ⟨by decide, by decide⟩ ?_
  refine c_dst B0 (Fx.nA h0 40 20) (Bl.nA h0 40 20 (by decide) (fun _ => none)) (iF_40 (by decide)) (iA_no (by decide)) d7_9 ⟨by decide, by decide⟩ (by decide +kernel) (by decide) (fun h1 B1 g1 e1 => ?_)
  have F1 := F0.tr (g1.any (fun x e => by omega))
  clear g1 e1
  refine w_aload_n d7_12 rfl ?_
  refine w_bipush d7_13 (by decide) ?_
  refine w_newarray d7_15 ⟨by decide, by decide⟩ ?_
  refine c_dst B1 (Fx.nA h1 40 20) (Bl.nA h1 40 20 (by decide) (fun _ => none)) (iF_40 (by decide)) (iA_no (by decide)) d7_17 ⟨by decide, by decide⟩ (by decide +kernel) (by decide) (fun h2 B2 g2 e2 => ?_)
  have F2 := F1.tr (g2.any (fun x e => by omega))
  clear g2 e2
  refine w_aload_n d7_20 rfl ?_
  refine w_bipush d7_21 (by decide) ?_
  refine w_newarray d7_23 ⟨by decide, by decide⟩ ?_
  refine c_dst B2 (Fx.nA h2 40 20) (Bl.nA h2 40 20 (by decide) (fun _ => none)) (iF_40 (by decide)) (iA_no (by decide)) d7_25 ⟨by decide, by decide⟩ (by decide +kernel) (by decide) (fun h3 B3 g3 e3 => ?_)
  have F3 := F2.tr (g3.any (fun x e => by omega))
  clear g3 e3
  refine w_aload_n d7_28 rfl ?_
  refine w_bipush d7_29 (by decide) ?_
  refine w_newarray d7_31 ⟨by decide, by decide⟩ ?_
  refine c_dst B3 (Fx.nA h3 40 20) (Bl.nA h3 40 20 (by decide) (fun _ => none)) (iF_40 (by decide)) (iA_no (by decide)) d7_33 ⟨by decide, by decide⟩ (by decide +kernel) (by decide) (fun h4 B4 g4 e4 => ?_)
  have F4 := F3.tr (g4.any (fun x e => by omega))
  clear g4 e4
  refine w_aload_n d7_36 rfl ?_
  refine w_bipush d7_37 (by decide) ?_
  refine w_newarray d7_39 ⟨by decide, by decide⟩ ?_
  refine c_dst B4 (Fx.nA h4 40 20) (Bl.nA h4 40 20 (by decide) (fun _ => none)) (iF_40 (by decide)) (iA_no (by decide)) d7_41 ⟨by decide, by decide⟩ (by decide +kernel) (by decide) (fun h5 B5 g5 e5 => ?_)
  have F5 := F4.tr (g5.any (fun x e => by omega))
  clear g5 e5
  refine w_aload_n d7_44 rfl ?_
  refine w_iconst d7_45 (by decide) ?_
  refine w_newarray d7_46 ⟨by decide, by decide⟩ ?_
  refine c_dst B5 (Fx.nA h5 40 5) (Bl.nA h5 40 5 (by decide) (fun _ => none)) (iF_40 (by decide)) (iA_no (by decide)) d7_48 ⟨by decide, by decide⟩ (by decide +kernel) (by decide) (fun h6 B6 g6 e6 => ?_)
  have F6 := F5.tr (g6.any (fun x e => by omega))
  clear g6 e6
  refine w_aload_n d7_51 rfl ?_
  refine w_iconst d7_52 (by decide) ?_
  refine w_newarray d7_53 ⟨by decide, by decide⟩ ?_
  refine c_dst B6 (Fx.nA h6 40 5) (Bl.nA h6 40 5 (by decide) (fun _ => none)) (iF_40 (by decide)) (iA_no (by decide)) d7_55 ⟨by decide, by decide⟩ (by decide +kernel) (by decide) (fun h7 B7 g7 e7 => ?_)
  have F7 := F6.tr (g7.any (fun x e => by omega))
  clear g7 e7
  refine w_aload_n d7_58 rfl ?_
  refine w_sipush d7_59 (by decide) ?_
  refine w_newarray d7_62 ⟨by decide, by decide⟩ ?_
  refine c_dst B7 (Fx.nA h7 40 512) (Bl.nA h7 40 512 (by decide) (fun _ => none)) (iF_40 (by decide)) (iA_no (by decide)) d7_64 ⟨by decide, by decide⟩ (by decide +kernel) (by decide) (fun h8 B8 g8 e8 => ?_)
  have F8 := F7.tr (g8.any (fun x e => by omega))
  clear g8 e8
  refine w_aload_n d7_67 rfl ?_
  refine w_sipush d7_68 (by decide) ?_
  refine w_newarray d7_71 ⟨by decide, by decide⟩ ?_
  refine c_dst B8 (Fx.nA h8 40 512) (Bl.nA h8 40 512 (by decide) (fun _ => none)) (iF_40 (by decide)) (iA_no (by decide)) d7_73 ⟨by decide, by decide⟩ (by decide +kernel) (by decide) (fun h9 B9 g9 e9 => ?_)
  have F9 := F8.tr (g9.any (fun x e => by omega))
  clear g9 e9
  refine w_aload_n d7_76 rfl ?_
  refine w_sipush d7_77 (by decide) ?_
  refine w_newarray d7_80 ⟨by decide, by decide⟩ ?_
  refine c_dst B9 (Fx.nA h9 40 512) (Bl.nA h9 40 512 (by decide) (fun _ => none)) (iF_40 (by decide)) (iA_no (by decide)) d7_82 ⟨by decide, by decide⟩ (by decide +kernel) (by decide) (fun h10 B10 g10 e10 => ?_)
  have F10 := F9.tr (g10.any (fun x e => by omega))
  clear g10 e10
  refine w_return d7_85 ?_
  exact kk _ ((B10.ri (iF_no (by decide)) (fun _ => rfl)).dz) F10 trivial
def tPlan : List ObE := (repE (repE (putE (putE (putE (putE (putE (putE (putE (ronE 4 0) 0 385 (ronE 44 16)) 0 386 (ronE 44 16)) 0 387 (ronE 55 16)) 0 389 (ronE 44 6)) 0 390 (ronE 40 6)) 0 392 (ronE 51 14)) 0 393 (ronE 40 14)) 3 (tRow 0) 16) 6 tDef 14)
theorem d6_0 : dc 6 0 = some (.aload_n 0, 1) := by decide +kernel
theorem d6_1 : dc 6 1 = some (.invokespecial 0, 4) := by decide +kernel
theorem d6_4 : dc 6 4 = some (.aload_n 0, 5) := by decide +kernel
theorem d6_5 : dc 6 5 = some (.bipush 16, 7) := by decide +kernel
theorem d6_7 : dc 6 7 = some (.newarray .long, 9) := by decide +kernel
theorem d6_9 : dc 6 9 = some (.dstore 385, 12) := by decide +kernel
theorem d6_12 : dc 6 12 = some (.aload_n 0, 13) := by decide +kernel
theorem d6_13 : dc 6 13 = some (.bipush 16, 15) := by decide +kernel
theorem d6_15 : dc 6 15 = some (.newarray .long, 17) := by decide +kernel
theorem d6_17 : dc 6 17 = some (.dstore 386, 20) := by decide +kernel
theorem d6_20 : dc 6 20 = some (.aload_n 0, 21) := by decide +kernel
theorem d6_21 : dc 6 21 = some (.bipush 16, 23) := by decide +kernel
theorem d6_23 : dc 6 23 = some (.anewarray 5, 26) := by decide +kernel
theorem d6_26 : dc 6 26 = some (.dstore 387, 29) := by decide +kernel
theorem d6_29 : dc 6 29 = some (.aload_n 0, 30) := by decide +kernel
theorem d6_30 : dc 6 30 = some (.bipush 6, 32) := by decide +kernel
theorem d6_32 : dc 6 32 = some (.newarray .long, 34) := by decide +kernel
theorem d6_34 : dc 6 34 = some (.dstore 389, 37) := by decide +kernel
theorem d6_37 : dc 6 37 = some (.aload_n 0, 38) := by decide +kernel
theorem d6_38 : dc 6 38 = some (.bipush 6, 40) := by decide +kernel
theorem d6_40 : dc 6 40 = some (.newarray .int, 42) := by decide +kernel
theorem d6_42 : dc 6 42 = some (.dstore 390, 45) := by decide +kernel
theorem d6_45 : dc 6 45 = some (.aload_n 0, 46) := by decide +kernel
theorem d6_46 : dc 6 46 = some (.bipush 14, 48) := by decide +kernel
theorem d6_48 : dc 6 48 = some (.anewarray 1, 51) := by decide +kernel
theorem d6_51 : dc 6 51 = some (.dstore 392, 54) := by decide +kernel
theorem d6_54 : dc 6 54 = some (.aload_n 0, 55) := by decide +kernel
theorem d6_55 : dc 6 55 = some (.bipush 14, 57) := by decide +kernel
theorem d6_57 : dc 6 57 = some (.newarray .int, 59) := by decide +kernel
theorem d6_59 : dc 6 59 = some (.dstore 393, 62) := by decide +kernel
theorem d6_62 : dc 6 62 = some (.iconst 0, 63) := by decide +kernel
theorem d6_63 : dc 6 63 = some (.istore_n 1, 64) := by decide +kernel
theorem d6_64 : dc 6 64 = some (.iload_n 1, 65) := by decide +kernel
theorem d6_65 : dc 6 65 = some (.bipush 16, 67) := by decide +kernel
theorem d6_67 : dc 6 67 = some (.if_icmp .ge ((90 : Nat) : Int), 70) := by decide +kernel
theorem d6_70 : dc 6 70 = some (.aload_n 0, 71) := by decide +kernel
theorem d6_71 : dc 6 71 = some (.dload 387, 74) := by decide +kernel
theorem d6_74 : dc 6 74 = some (.iload_n 1, 75) := by decide +kernel
theorem d6_75 : dc 6 75 = some (.new 5, 78) := by decide +kernel
theorem d6_78 : dc 6 78 = some (.dup, 79) := by decide +kernel
theorem d6_79 : dc 6 79 = some (.iconst 0, 80) := by decide +kernel
theorem d6_80 : dc 6 80 = some (.invokevirtual 1, 83) := by decide +kernel
theorem d6_83 : dc 6 83 = some (.aastore, 84) := by decide +kernel
theorem d6_84 : dc 6 84 = some (.iinc 1 1, 87) := by decide +kernel
theorem d6_87 : dc 6 87 = some (.goto ((64 : Nat) : Int), 90) := by decide +kernel
theorem d6_90 : dc 6 90 = some (.iconst 0, 91) := by decide +kernel
theorem d6_91 : dc 6 91 = some (.istore_n 1, 92) := by decide +kernel
theorem d6_92 : dc 6 92 = some (.iload_n 1, 93) := by decide +kernel
theorem d6_93 : dc 6 93 = some (.bipush 14, 95) := by decide +kernel
theorem d6_95 : dc 6 95 = some (.if_icmp .ge ((117 : Nat) : Int), 98) := by decide +kernel
theorem d6_98 : dc 6 98 = some (.aload_n 0, 99) := by decide +kernel
theorem d6_99 : dc 6 99 = some (.dload 392, 102) := by decide +kernel
theorem d6_102 : dc 6 102 = some (.iload_n 1, 103) := by decide +kernel
theorem d6_103 : dc 6 103 = some (.new 1, 106) := by decide +kernel
theorem d6_106 : dc 6 106 = some (.dup, 107) := by decide +kernel
theorem d6_107 : dc 6 107 = some (.invokevirtual 4, 110) := by decide +kernel
theorem d6_110 : dc 6 110 = some (.aastore, 111) := by decide +kernel
theorem d6_111 : dc 6 111 = some (.iinc 1 1, 114) := by decide +kernel
theorem d6_114 : dc 6 114 = some (.goto ((92 : Nat) : Int), 117) := by decide +kernel
theorem d6_117 : dc 6 117 = some (.return_, 118) := by decide +kernel
theorem i_Plan {G : Nat → Option Nat} {d : Nat} (h1 : 3 ≤ d) : Mk G d 6 [] 4 tPlan (fun _ _ => True) := by
  intro h0 p s0 Q B0 kk
  have F0 : Fx (fun x => p ≤ x) h0 h0 := Fx.refl
  show Wp G d 6 0 [some (vR (some p)), none] [] h0 Q
  refine w_aload_n d6_0 rfl ?_
  refine w_objinit d6_1 ⟨by rw [B0.kp]; decide, Nat.zero_le _, by omega⟩ ?_
  refine w_aload_n d6_4 rfl ?_
  refine w_bipush d6_5 (by decide) ?_
  refine w_newarray d6_7 ⟨by decide, by decide⟩ ?_
  refine c_dst B0 (Fx.nA h0 44 16) (Bl.nA h0 44 16 (by decide) (fun _ => none)) (iF_40 (by decide)) (iA_no (by decide)) d6_9 ⟨by decide, by decide⟩ (by decide +kernel) (by decide) (fun h1 B1 g1 e1 => ?_)
  have F1 := F0.tr (g1.any (fun x e => by omega))
  clear g1 e1
  refine w_aload_n d6_12 rfl ?_
  refine w_bipush d6_13 (by decide) ?_
  refine w_newarray d6_15 ⟨by decide, by decide⟩ ?_
  refine c_dst B1 (Fx.nA h1 44 16) (Bl.nA h1 44 16 (by decide) (fun _ => none)) (iF_40 (by decide)) (iA_no (by decide)) d6_17 ⟨by decide, by decide⟩ (by decide +kernel) (by decide) (fun h2 B2 g2 e2 => ?_)
  have F2 := F1.tr (g2.any (fun x e => by omega))
  clear g2 e2
  refine w_aload_n d6_20 rfl ?_
  refine w_bipush d6_21 (by decide) ?_
  refine w_anewarray d6_23 ⟨by decide, by decide⟩ ?_
  refine c_dst B2 (Fx.nA h2 55 16) (Bl.nA h2 55 16 (by decide) (fun _ => none)) (iF_40 (by decide)) (iA_no (by decide)) d6_26 ⟨by decide, by decide⟩ (by decide +kernel) (by decide) (fun h3 B3 g3 e3 => ?_)
  have F3 := F2.tr (g3.any (fun x e => by omega))
  clear g3 e3
  refine w_aload_n d6_29 rfl ?_
  refine w_bipush d6_30 (by decide) ?_
  refine w_newarray d6_32 ⟨by decide, by decide⟩ ?_
  refine c_dst B3 (Fx.nA h3 44 6) (Bl.nA h3 44 6 (by decide) (fun _ => none)) (iF_40 (by decide)) (iA_no (by decide)) d6_34 ⟨by decide, by decide⟩ (by decide +kernel) (by decide) (fun h4 B4 g4 e4 => ?_)
  have F4 := F3.tr (g4.any (fun x e => by omega))
  clear g4 e4
  refine w_aload_n d6_37 rfl ?_
  refine w_bipush d6_38 (by decide) ?_
  refine w_newarray d6_40 ⟨by decide, by decide⟩ ?_
  refine c_dst B4 (Fx.nA h4 40 6) (Bl.nA h4 40 6 (by decide) (fun _ => none)) (iF_40 (by decide)) (iA_no (by decide)) d6_42 ⟨by decide, by decide⟩ (by decide +kernel) (by decide) (fun h5 B5 g5 e5 => ?_)
  have F5 := F4.tr (g5.any (fun x e => by omega))
  clear g5 e5
  refine w_aload_n d6_45 rfl ?_
  refine w_bipush d6_46 (by decide) ?_
  refine w_anewarray d6_48 ⟨by decide, by decide⟩ ?_
  refine c_dst B5 (Fx.nA h5 51 14) (Bl.nA h5 51 14 (by decide) (fun _ => none)) (iF_40 (by decide)) (iA_no (by decide)) d6_51 ⟨by decide, by decide⟩ (by decide +kernel) (by decide) (fun h6 B6 g6 e6 => ?_)
  have F6 := F5.tr (g6.any (fun x e => by omega))
  clear g6 e6
  refine w_aload_n d6_54 rfl ?_
  refine w_bipush d6_55 (by decide) ?_
  refine w_newarray d6_57 ⟨by decide, by decide⟩ ?_
  refine c_dst B6 (Fx.nA h6 40 14) (Bl.nA h6 40 14 (by decide) (fun _ => none)) (iF_40 (by decide)) (iA_no (by decide)) d6_59 ⟨by decide, by decide⟩ (by decide +kernel) (by decide) (fun h7 B7 g7 e7 => ?_)
  have F7 := F6.tr (g7.any (fun x e => by omega))
  clear g7 e7
  refine w_iconst d6_62 (by decide) ?_
  refine w_istore1 d6_63 rfl ?_
  have FRLP : ∀ j : Fin 16, freE ((repE (putE (putE (putE (putE (putE (putE (putE (ronE 4 0) 0 385 (ronE 44 16)) 0 386 (ronE 44 16)) 0 387 (ronE 55 16)) 0 389 (ronE 44 6)) 0 390 (ronE 40 6)) 0 392 (ronE 51 14)) 0 393 (ronE 40 14)) 3 (tRow 0) j.val)) 3 (4096 + j.val) = true := by decide +kernel
  have LP : ∀ (m i : Nat) (h8 : Hp), m + i = 16 → Bl 4 0 p s0 (repE (putE (putE (putE (putE (putE (putE (putE (ronE 4 0) 0 385 (ronE 44 16)) 0 386 (ronE 44 16)) 0 387 (ronE 55 16)) 0 389 (ronE 44 6)) 0 390 (ronE 40 6)) 0 392 (ronE 51 14)) 0 393 (ronE 40 14)) 3 (tRow 0) i) [] (fun _ => none) (fun _ => 0) (fun _ => 0) h8 → Fx (fun x => p ≤ x) h0 h8 → Wp G d 6 64 [some (vR (some p)), some (vI (i : Nat))] [] h8 Q := by
    intro m
    induction m with
    | zero =>
      intro i h8 hm B8 F8
      obtain rfl : 16 = i := by omega
      refine w_iload_n d6_64 rfl ?_
      refine w_bipush d6_65 (by decide) ?_
      refine w_icmpge d6_67 (fun _ => ?_) (fun z => absurd z (by omega))
      refine w_iconst d6_90 (by decide) ?_
      refine w_istore1 d6_91 rfl ?_
      have FRLQ : ∀ j : Fin 14, freE ((repE (repE (putE (putE (putE (putE (putE (putE (putE (ronE 4 0) 0 385 (ronE 44 16)) 0 386 (ronE 44 16)) 0 387 (ronE 55 16)) 0 389 (ronE 44 6)) 0 390 (ronE 40 6)) 0 392 (ronE 51 14)) 0 393 (ronE 40 14)) 3 (tRow 0) 16) 6 tDef j.val)) 6 (4096 + j.val) = true := by decide +kernel
      have LQ : ∀ (m i : Nat) (h9 : Hp), m + i = 14 → Bl 4 0 p s0 (repE (repE (putE (putE (putE (putE (putE (putE (putE (ronE 4 0) 0 385 (ronE 44 16)) 0 386 (ronE 44 16)) 0 387 (ronE 55 16)) 0 389 (ronE 44 6)) 0 390 (ronE 40 6)) 0 392 (ronE 51 14)) 0 393 (ronE 40 14)) 3 (tRow 0) 16) 6 tDef i) [] (fun _ => none) (fun _ => 0) (fun _ => 0) h9 → Fx (fun x => p ≤ x) h0 h9 → Wp G d 6 92 [some (vR (some p)), some (vI (i : Nat))] [] h9 Q := by
        intro m
        induction m with
        | zero =>
          intro i h9 hm B9 F9
          obtain rfl : 14 = i := by omega
          refine w_iload_n d6_92 rfl ?_
          refine w_bipush d6_93 (by decide) ?_
          refine w_icmpge d6_95 (fun _ => ?_) (fun z => absurd z (by omega))
          refine w_return d6_117 ?_
          exact kk _ ((B9.ri (iF_no (by decide)) (fun _ => rfl)).dz) F9 trivial
        | succ m ih =>
          intro i h9 hm B9 F9
          refine w_iload_n d6_92 rfl ?_
          refine w_bipush d6_93 (by decide) ?_
          refine w_icmpge d6_95 (fun z => absurd z (by omega)) (fun z => ?_)
          refine w_aload_n d6_98 rfl ?_
          refine w_dloadS d6_99 (B9.kp.trans (by decide)) (B9.fr (k := 6) (a := 51) (b := 14) (f := 392) (by decide) (repE_get (by rfl) _) (by decide)) ?_
          refine w_iload_n d6_102 rfl ?_
          refine w_new d6_103 (by decide) ?_
          refine w_dupR d6_106 ?_
          refine w_callv1 d6_107 (by omega) rfl ((KD_nO _ _).trans (by decide)) (by simp) (Nat.le_of_ble_eq_true rfl) ?_
          refine i_Def (by omega) _ _ _ _ (Bl.nO h9 1 (by decide) _) (fun hq bq fq xq => ?_)
          refine c_ast (q := 6) (n := 14) (par := 0) (place := 392) B9 (fq.made (fun _ z => z)) bq (fun _ => rfl) (fun _ => rfl) d6_110 (by decide) (repE_get (by rfl) _) (by decide) (by omega) (FRLQ ⟨i, by omega⟩) (fun h10 B10 g10 => ?_)
          have F10 := F9.tr (g10.any (fun x e => by omega))
          refine w_iinc1 d6_111 rfl (by omega) ?_
          refine w_goto d6_114 ?_
          exact ih (i + 1) h10 (by omega) B10 F10
      exact LQ 14 0 h8 (by omega) B8 F8
    | succ m ih =>
      intro i h8 hm B8 F8
      refine w_iload_n d6_64 rfl ?_
      refine w_bipush d6_65 (by decide) ?_
      refine w_icmpge d6_67 (fun z => absurd z (by omega)) (fun z => ?_)
      refine w_aload_n d6_70 rfl ?_
      refine w_dloadS d6_71 (B8.kp.trans (by decide)) (B8.fr (k := 3) (a := 55) (b := 16) (f := 387) (by decide) (repE_get (by rfl) _) (by decide)) ?_
      refine w_iload_n d6_74 rfl ?_
      refine w_new d6_75 (by decide) ?_
      refine w_dupR d6_78 ?_
      refine w_iconst d6_79 (by decide) ?_
      refine w_callv2 d6_80 (by omega) rfl ((KD_nO _ _).trans (by decide)) (by simp) (Nat.le_of_ble_eq_true rfl) ?_
      refine i_Row (c := 0) (by decide) (by omega) _ _ _ _ (Bl.nO h8 5 (by decide) _) (fun hq bq fq xq => ?_)
      refine c_ast (q := 3) (n := 16) (par := 0) (place := 387) B8 (fq.made (fun _ z => z)) bq (fun _ => rfl) (fun _ => rfl) d6_83 (by decide) (repE_get (by rfl) _) (by decide) (by omega) (FRLP ⟨i, by omega⟩) (fun h9 B9 g9 => ?_)
      have F9 := F8.tr (g9.any (fun x e => by omega))
      refine w_iinc1 d6_84 rfl (by omega) ?_
      refine w_goto d6_87 ?_
      exact ih (i + 1) h9 (by omega) B9 F9
  exact LP 16 0 h7 (by omega) B7 F7
def tWork : List ObE := (putE (putE (putE (putE (putE (putE (putE (putE (putE (putE (putE (putE (ronE 10 0) 0 1152 (tRow 0)) 0 1153 (ronE 55 6)) 0 1154 (tRow 3606)) 0 1155 (tRow 601)) 0 1156 (tRow 614)) 0 1157 (ronE 40 600)) 0 1158 (ronE 40 600)) 0 1159 (ronE 44 246)) 0 1160 (ronE 40 246)) 0 1161 (ronE 42 246)) 0 1163 (ronE 44 906)) 0 1164 (ronE 40 906))
theorem d8_0 : dc 8 0 = some (.aload_n 0, 1) := by decide +kernel
theorem d8_1 : dc 8 1 = some (.invokespecial 0, 4) := by decide +kernel
theorem d8_4 : dc 8 4 = some (.aload_n 0, 5) := by decide +kernel
theorem d8_5 : dc 8 5 = some (.new 5, 8) := by decide +kernel
theorem d8_8 : dc 8 8 = some (.dup, 9) := by decide +kernel
theorem d8_9 : dc 8 9 = some (.iconst 0, 10) := by decide +kernel
theorem d8_10 : dc 8 10 = some (.invokevirtual 1, 13) := by decide +kernel
theorem d8_13 : dc 8 13 = some (.dstore 1152, 16) := by decide +kernel
theorem d8_16 : dc 8 16 = some (.aload_n 0, 17) := by decide +kernel
theorem d8_17 : dc 8 17 = some (.bipush 6, 19) := by decide +kernel
theorem d8_19 : dc 8 19 = some (.anewarray 5, 22) := by decide +kernel
theorem d8_22 : dc 8 22 = some (.dstore 1153, 25) := by decide +kernel
theorem d8_25 : dc 8 25 = some (.aload_n 0, 26) := by decide +kernel
theorem d8_26 : dc 8 26 = some (.new 5, 29) := by decide +kernel
theorem d8_29 : dc 8 29 = some (.dup, 30) := by decide +kernel
theorem d8_30 : dc 8 30 = some (.sipush 3606, 33) := by decide +kernel
theorem d8_33 : dc 8 33 = some (.invokevirtual 1, 36) := by decide +kernel
theorem d8_36 : dc 8 36 = some (.dstore 1154, 39) := by decide +kernel
theorem d8_39 : dc 8 39 = some (.aload_n 0, 40) := by decide +kernel
theorem d8_40 : dc 8 40 = some (.new 5, 43) := by decide +kernel
theorem d8_43 : dc 8 43 = some (.dup, 44) := by decide +kernel
theorem d8_44 : dc 8 44 = some (.sipush 601, 47) := by decide +kernel
theorem d8_47 : dc 8 47 = some (.invokevirtual 1, 50) := by decide +kernel
theorem d8_50 : dc 8 50 = some (.dstore 1155, 53) := by decide +kernel
theorem d8_53 : dc 8 53 = some (.aload_n 0, 54) := by decide +kernel
theorem d8_54 : dc 8 54 = some (.new 5, 57) := by decide +kernel
theorem d8_57 : dc 8 57 = some (.dup, 58) := by decide +kernel
theorem d8_58 : dc 8 58 = some (.sipush 614, 61) := by decide +kernel
theorem d8_61 : dc 8 61 = some (.invokevirtual 1, 64) := by decide +kernel
theorem d8_64 : dc 8 64 = some (.dstore 1156, 67) := by decide +kernel
theorem d8_67 : dc 8 67 = some (.aload_n 0, 68) := by decide +kernel
theorem d8_68 : dc 8 68 = some (.sipush 600, 71) := by decide +kernel
theorem d8_71 : dc 8 71 = some (.newarray .int, 73) := by decide +kernel
theorem d8_73 : dc 8 73 = some (.dstore 1157, 76) := by decide +kernel
theorem d8_76 : dc 8 76 = some (.aload_n 0, 77) := by decide +kernel
theorem d8_77 : dc 8 77 = some (.sipush 600, 80) := by decide +kernel
theorem d8_80 : dc 8 80 = some (.newarray .int, 82) := by decide +kernel
theorem d8_82 : dc 8 82 = some (.dstore 1158, 85) := by decide +kernel
theorem d8_85 : dc 8 85 = some (.aload_n 0, 86) := by decide +kernel
theorem d8_86 : dc 8 86 = some (.sipush 246, 89) := by decide +kernel
theorem d8_89 : dc 8 89 = some (.newarray .long, 91) := by decide +kernel
theorem d8_91 : dc 8 91 = some (.dstore 1159, 94) := by decide +kernel
theorem d8_94 : dc 8 94 = some (.aload_n 0, 95) := by decide +kernel
theorem d8_95 : dc 8 95 = some (.sipush 246, 98) := by decide +kernel
theorem d8_98 : dc 8 98 = some (.newarray .int, 100) := by decide +kernel
theorem d8_100 : dc 8 100 = some (.dstore 1160, 103) := by decide +kernel
theorem d8_103 : dc 8 103 = some (.aload_n 0, 104) := by decide +kernel
theorem d8_104 : dc 8 104 = some (.sipush 246, 107) := by decide +kernel
theorem d8_107 : dc 8 107 = some (.newarray .boolean, 109) := by decide +kernel
theorem d8_109 : dc 8 109 = some (.dstore 1161, 112) := by decide +kernel
theorem d8_112 : dc 8 112 = some (.aload_n 0, 113) := by decide +kernel
theorem d8_113 : dc 8 113 = some (.sipush 906, 116) := by decide +kernel
theorem d8_116 : dc 8 116 = some (.newarray .long, 118) := by decide +kernel
theorem d8_118 : dc 8 118 = some (.dstore 1163, 121) := by decide +kernel
theorem d8_121 : dc 8 121 = some (.aload_n 0, 122) := by decide +kernel
theorem d8_122 : dc 8 122 = some (.sipush 906, 125) := by decide +kernel
theorem d8_125 : dc 8 125 = some (.newarray .int, 127) := by decide +kernel
theorem d8_127 : dc 8 127 = some (.dstore 1164, 130) := by decide +kernel
theorem d8_130 : dc 8 130 = some (.iconst 0, 131) := by decide +kernel
theorem d8_131 : dc 8 131 = some (.istore_n 1, 132) := by decide +kernel
theorem d8_132 : dc 8 132 = some (.iload_n 1, 133) := by decide +kernel
theorem d8_133 : dc 8 133 = some (.bipush 6, 135) := by decide +kernel
theorem d8_135 : dc 8 135 = some (.if_icmp .ge ((154 : Nat) : Int), 138) := by decide +kernel
theorem d8_138 : dc 8 138 = some (.aload_n 0, 139) := by decide +kernel
theorem d8_139 : dc 8 139 = some (.dload 1153, 142) := by decide +kernel
theorem d8_142 : dc 8 142 = some (.iload_n 1, 143) := by decide +kernel
theorem d8_143 : dc 8 143 = some (.aload_n 0, 144) := by decide +kernel
theorem d8_144 : dc 8 144 = some (.dload 1152, 147) := by decide +kernel
theorem d8_147 : dc 8 147 = some (.aastore, 148) := by decide +kernel
theorem d8_148 : dc 8 148 = some (.iinc 1 1, 151) := by decide +kernel
theorem d8_151 : dc 8 151 = some (.goto ((132 : Nat) : Int), 154) := by decide +kernel
theorem d8_154 : dc 8 154 = some (.return_, 155) := by decide +kernel
theorem i_Work {G : Nat → Option Nat} {d : Nat} (h1 : 2 ≤ d) : Mk G d 8 [] 10 tWork (fun h p => ∀ i, i < 6 → AR h (p + 3) i = some (p + 1)) := by
  intro h0 p s0 Q B0 kk
  have F0 : Fx (fun x => p ≤ x) h0 h0 := Fx.refl
  show Wp G d 8 0 [some (vR (some p)), none] [] h0 Q
  refine w_aload_n d8_0 rfl ?_
  refine w_objinit d8_1 ⟨by rw [B0.kp]; decide, Nat.zero_le _, by omega⟩ ?_
  refine w_aload_n d8_4 rfl ?_
  refine w_new d8_5 (by decide) ?_
  refine w_dupR d8_8 ?_
  refine w_iconst d8_9 (by decide) ?_
  refine w_callv2 d8_10 (by omega) rfl ((KD_nO _ _).trans (by decide)) (by simp) (Nat.le_of_ble_eq_true rfl) ?_
  refine i_Row (c := 0) (by decide) (by omega) _ _ _ _ (Bl.nO h0 5 (by decide) _) (fun hq bq fq xq => ?_)
  refine c_dst B0 (fq.made (fun _ z => z)) bq (fun _ => rfl) (iA_no (by decide)) d8_13 ⟨by decide, by decide⟩ (by decide +kernel) (by decide) (fun h1 B1 g1 e1 => ?_)
  have F1 := F0.tr (g1.any (fun x e => by omega))
  clear g1 e1
  refine w_aload_n d8_16 rfl ?_
  refine w_bipush d8_17 (by decide) ?_
  refine w_anewarray d8_19 ⟨by decide, by decide⟩ ?_
  refine c_dst B1 (Fx.nA h1 55 6) (Bl.nA h1 55 6 (by decide) (fun _ => none)) (iF_40 (by decide)) (iA_no (by decide)) d8_22 ⟨by decide, by decide⟩ (by decide +kernel) (by decide) (fun h2 B2 g2 e2 => ?_)
  have F2 := F1.tr (g2.any (fun x e => by omega))
  clear g2 e2
  refine w_aload_n d8_25 rfl ?_
  refine w_new d8_26 (by decide) ?_
  refine w_dupR d8_29 ?_
  refine w_sipush d8_30 (by decide) ?_
  refine w_callv2 d8_33 (by omega) rfl ((KD_nO _ _).trans (by decide)) (by simp) (Nat.le_of_ble_eq_true rfl) ?_
  refine i_Row (c := 3606) (by decide) (by omega) _ _ _ _ (Bl.nO h2 5 (by decide) _) (fun hq bq fq xq => ?_)
  refine c_dst B2 (fq.made (fun _ z => z)) bq (fun _ => rfl) (iA_no (by decide)) d8_36 ⟨by decide, by decide⟩ (by decide +kernel) (by decide) (fun h3 B3 g3 e3 => ?_)
  have F3 := F2.tr (g3.any (fun x e => by omega))
  clear g3 e3
  refine w_aload_n d8_39 rfl ?_
  refine w_new d8_40 (by decide) ?_
  refine w_dupR d8_43 ?_
  refine w_sipush d8_44 (by decide) ?_
  refine w_callv2 d8_47 (by omega) rfl ((KD_nO _ _).trans (by decide)) (by simp) (Nat.le_of_ble_eq_true rfl) ?_
  refine i_Row (c := 601) (by decide) (by omega) _ _ _ _ (Bl.nO h3 5 (by decide) _) (fun hq bq fq xq => ?_)
  refine c_dst B3 (fq.made (fun _ z => z)) bq (fun _ => rfl) (iA_no (by decide)) d8_50 ⟨by decide, by decide⟩ (by decide +kernel) (by decide) (fun h4 B4 g4 e4 => ?_)
  have F4 := F3.tr (g4.any (fun x e => by omega))
  clear g4 e4
  refine w_aload_n d8_53 rfl ?_
  refine w_new d8_54 (by decide) ?_
  refine w_dupR d8_57 ?_
  refine w_sipush d8_58 (by decide) ?_
  refine w_callv2 d8_61 (by omega) rfl ((KD_nO _ _).trans (by decide)) (by simp) (Nat.le_of_ble_eq_true rfl) ?_
  refine i_Row (c := 614) (by decide) (by omega) _ _ _ _ (Bl.nO h4 5 (by decide) _) (fun hq bq fq xq => ?_)
  refine c_dst B4 (fq.made (fun _ z => z)) bq (fun _ => rfl) (iA_no (by decide)) d8_64 ⟨by decide, by decide⟩ (by decide +kernel) (by decide) (fun h5 B5 g5 e5 => ?_)
  have F5 := F4.tr (g5.any (fun x e => by omega))
  clear g5 e5
  refine w_aload_n d8_67 rfl ?_
  refine w_sipush d8_68 (by decide) ?_
  refine w_newarray d8_71 ⟨by decide, by decide⟩ ?_
  refine c_dst B5 (Fx.nA h5 40 600) (Bl.nA h5 40 600 (by decide) (fun _ => none)) (iF_40 (by decide)) (iA_no (by decide)) d8_73 ⟨by decide, by decide⟩ (by decide +kernel) (by decide) (fun h6 B6 g6 e6 => ?_)
  have F6 := F5.tr (g6.any (fun x e => by omega))
  clear g6 e6
  refine w_aload_n d8_76 rfl ?_
  refine w_sipush d8_77 (by decide) ?_
  refine w_newarray d8_80 ⟨by decide, by decide⟩ ?_
  refine c_dst B6 (Fx.nA h6 40 600) (Bl.nA h6 40 600 (by decide) (fun _ => none)) (iF_40 (by decide)) (iA_no (by decide)) d8_82 ⟨by decide, by decide⟩ (by decide +kernel) (by decide) (fun h7 B7 g7 e7 => ?_)
  have F7 := F6.tr (g7.any (fun x e => by omega))
  clear g7 e7
  refine w_aload_n d8_85 rfl ?_
  refine w_sipush d8_86 (by decide) ?_
  refine w_newarray d8_89 ⟨by decide, by decide⟩ ?_
  refine c_dst B7 (Fx.nA h7 44 246) (Bl.nA h7 44 246 (by decide) (fun _ => none)) (iF_40 (by decide)) (iA_no (by decide)) d8_91 ⟨by decide, by decide⟩ (by decide +kernel) (by decide) (fun h8 B8 g8 e8 => ?_)
  have F8 := F7.tr (g8.any (fun x e => by omega))
  clear g8 e8
  refine w_aload_n d8_94 rfl ?_
  refine w_sipush d8_95 (by decide) ?_
  refine w_newarray d8_98 ⟨by decide, by decide⟩ ?_
  refine c_dst B8 (Fx.nA h8 40 246) (Bl.nA h8 40 246 (by decide) (fun _ => none)) (iF_40 (by decide)) (iA_no (by decide)) d8_100 ⟨by decide, by decide⟩ (by decide +kernel) (by decide) (fun h9 B9 g9 e9 => ?_)
  have F9 := F8.tr (g9.any (fun x e => by omega))
  clear g9 e9
  refine w_aload_n d8_103 rfl ?_
  refine w_sipush d8_104 (by decide) ?_
  refine w_newarray d8_107 ⟨by decide, by decide⟩ ?_
  refine c_dst B9 (Fx.nA h9 42 246) (Bl.nA h9 42 246 (by decide) (fun _ => none)) (iF_40 (by decide)) (iA_no (by decide)) d8_109 ⟨by decide, by decide⟩ (by decide +kernel) (by decide) (fun h10 B10 g10 e10 => ?_)
  have F10 := F9.tr (g10.any (fun x e => by omega))
  clear g10 e10
  refine w_aload_n d8_112 rfl ?_
  refine w_sipush d8_113 (by decide) ?_
  refine w_newarray d8_116 ⟨by decide, by decide⟩ ?_
  refine c_dst B10 (Fx.nA h10 44 906) (Bl.nA h10 44 906 (by decide) (fun _ => none)) (iF_40 (by decide)) (iA_no (by decide)) d8_118 ⟨by decide, by decide⟩ (by decide +kernel) (by decide) (fun h11 B11 g11 e11 => ?_)
  have F11 := F10.tr (g11.any (fun x e => by omega))
  clear g11 e11
  refine w_aload_n d8_121 rfl ?_
  refine w_sipush d8_122 (by decide) ?_
  refine w_newarray d8_125 ⟨by decide, by decide⟩ ?_
  refine c_dst B11 (Fx.nA h11 40 906) (Bl.nA h11 40 906 (by decide) (fun _ => none)) (iF_40 (by decide)) (iA_no (by decide)) d8_127 ⟨by decide, by decide⟩ (by decide +kernel) (by decide) (fun h12 B12 g12 e12 => ?_)
  have F12 := F11.tr (g12.any (fun x e => by omega))
  clear g12 e12
  refine w_iconst d8_130 (by decide) ?_
  refine w_istore1 d8_131 rfl ?_
  have FRW : ∀ j : Fin 6, freE (putE (putE (putE (putE (putE (putE (putE (putE (putE (putE (putE (putE (ronE 10 0) 0 1152 (tRow 0)) 0 1153 (ronE 55 6)) 0 1154 (tRow 3606)) 0 1155 (tRow 601)) 0 1156 (tRow 614)) 0 1157 (ronE 40 600)) 0 1158 (ronE 40 600)) 0 1159 (ronE 44 246)) 0 1160 (ronE 40 246)) 0 1161 (ronE 42 246)) 0 1163 (ronE 44 906)) 0 1164 (ronE 40 906)) 3 (4096 + j.val) = true := by decide +kernel
  have LP : ∀ (m i : Nat) (h13 : Hp), m + i = 6 → Bl 10 0 p s0 (putE (putE (putE (putE (putE (putE (putE (putE (putE (putE (putE (putE (ronE 10 0) 0 1152 (tRow 0)) 0 1153 (ronE 55 6)) 0 1154 (tRow 3606)) 0 1155 (tRow 601)) 0 1156 (tRow 614)) 0 1157 (ronE 40 600)) 0 1158 (ronE 40 600)) 0 1159 (ronE 44 246)) 0 1160 (ronE 40 246)) 0 1161 (ronE 42 246)) 0 1163 (ronE 44 906)) 0 1164 (ronE 40 906)) [] (fun _ => none) (fun _ => 0) (fun _ => 0) h13 → Fx (fun x => p ≤ x) h0 h13 → (∀ j, j < i → AR h13 (p + 3) j = some (p + 1)) → Wp G d 8 132 [some (vR (some p)), some (vI (i : Nat))] [] h13 Q := by
    intro m
    induction m with
    | zero =>
      intro i h13 hm B13 F13 X13
      obtain rfl : 6 = i := by omega
      refine w_iload_n d8_132 rfl ?_
      refine w_bipush d8_133 (by decide) ?_
      refine w_icmpge d8_135 (fun _ => ?_) (fun z => absurd z (by omega))
      refine w_return d8_154 ?_
      exact kk _ ((B13.ri (iF_no (by decide)) (fun _ => rfl)).dz) F13 X13
    | succ m ih =>
      intro i h13 hm B13 F13 X13
      refine w_iload_n d8_132 rfl ?_
      refine w_bipush d8_133 (by decide) ?_
      refine w_icmpge d8_135 (fun z => absurd z (by omega)) (fun z => ?_)
      refine w_aload_n d8_138 rfl ?_
      refine w_dloadS d8_139 (B13.kp.trans (by decide)) (B13.fr (k := 3) (a := 55) (b := 6) (f := 1153) (by decide) (by rfl) (by decide)) ?_
      refine w_iload_n d8_142 rfl ?_
      refine w_aload_n d8_143 rfl ?_
      refine w_dloadS d8_144 (B13.kp.trans (by decide)) (B13.fr (k := 1) (a := 6) (b := 0) (f := 1152) (by decide) (by rfl) (by decide)) ?_
      have ka := B13.kn (k := 3) (a := 55) (b := 6) (c := 0) (e := 1153) (by decide) (by rfl)
      have kb := B13.kn (k := 1) (a := 6) (b := 0) (c := 0) (e := 1152) (by decide) (by rfl)
      refine w_aastore d8_147 ⟨⟨by rw [ka.1]; decide, by rw [ka.1]; decide, by rw [ka.1, kb.1]⟩, by rw [ka.2]; exact ⟨Int.natCast_nonneg i, by omega⟩⟩ ?_
      obtain ⟨B14, g14⟩ := B13.sa 3 i (some (p + 1)) (FRW ⟨i, by omega⟩) (by decide) (by decide +kernel)
      refine w_iinc1 d8_148 rfl (by omega) ?_
      refine w_goto d8_151 ?_
      refine ih (i + 1) _ (by omega) B14 (F13.tr (g14.any (fun x e => by omega))) (fun j hj => ?_)
      show AR (sAR h13 (p + 3) i (some (p + 1))) (p + 3) j = _
      rw [AR_sAR]
      by_cases q : j = i
      · rw [if_pos ⟨rfl, q⟩]
      · rw [if_neg (fun y => q y.2)]; exact X13 j (by omega)
  exact LP 6 0 h12 (by omega) B12 F12 (fun j hj => absurd hj (Nat.not_lt_zero j))
def tStore (n : Nat) : List ObE := (repE (putE (re2E (putE (putE (putE (putE (ronE 8 0) 0 896 (ronE 52 14)) 0 897 (ronE 52 14)) 0 898 muE) 0 899 (ronE 40 14)) 1 2 tOut 14) 0 900 (ronE 52 n)) 243 tOut n)
theorem freE_put {L L2 T : List ObE} (h : ∀ a b, freE L a b = freE L2 a b) (hl : L.length = L2.length) (q pl : Nat) : (∀ a b, freE (putE L q pl T) a b = freE (putE L2 q pl T) a b) ∧ (putE L q pl T).length = (putE L2 q pl T).length := by
  refine ⟨fun a b => ?_, ?_⟩
  · unfold putE
    have h := h a b
    unfold freE at h ⊢
    rw [List.all_append, List.all_append, h, hl]
  · unfold putE
    rw [List.length_append, List.length_append, attE_len, attE_len, hl]
theorem freE_rep {L L2 T : List ObE} (h : ∀ a b, freE L a b = freE L2 a b) (hl : L.length = L2.length) (q : Nat) : ∀ i, (∀ a b, freE (repE L q T i) a b = freE (repE L2 q T i) a b) ∧ (repE L q T i).length = (repE L2 q T i).length
  | 0 => ⟨h, hl⟩
  | i + 1 => by
    have g := freE_rep (T := T) h hl q i
    exact freE_put g.1 g.2 q (4096 + i)
theorem tStore_fe (n j : Nat) : freE ((repE (putE (re2E (putE (putE (putE (putE (ronE 8 0) 0 896 (ronE 52 14)) 0 897 (ronE 52 14)) 0 898 muE) 0 899 (ronE 40 14)) 1 2 tOut 14) 0 900 (ronE 52 n)) 243 tOut j)) 243 (4096 + j) = freE ((repE (putE (re2E (putE (putE (putE (putE (ronE 8 0) 0 896 (ronE 52 14)) 0 897 (ronE 52 14)) 0 898 muE) 0 899 (ronE 40 14)) 1 2 tOut 14) 0 900 (ronE 52 0)) 243 tOut j)) 243 (4096 + j) := by
  refine (freE_rep ?_ ?_ 243 j).1 _ _
  · intro a b
    unfold putE freE attE ronE shE
    simp only [List.all_append, List.all_cons]
  · unfold putE
    simp only [List.length_append, attE_len, ronE, List.length_cons, List.length_nil]
theorem tStore_fr (n : Nat) : ∀ j : Fin 24, freE ((repE (putE (re2E (putE (putE (putE (putE (ronE 8 0) 0 896 (ronE 52 14)) 0 897 (ronE 52 14)) 0 898 muE) 0 899 (ronE 40 14)) 1 2 tOut 14) 0 900 (ronE 52 n)) 243 tOut j.val)) 243 (4096 + j.val) = true := by
  have e : ∀ j : Nat, j < 24 → freE ((repE (putE (re2E (putE (putE (putE (putE (ronE 8 0) 0 896 (ronE 52 14)) 0 897 (ronE 52 14)) 0 898 muE) 0 899 (ronE 40 14)) 1 2 tOut 14) 0 900 (ronE 52 n)) 243 tOut j)) 243 (4096 + j) = freE ((repE (putE (re2E (putE (putE (putE (putE (ronE 8 0) 0 896 (ronE 52 14)) 0 897 (ronE 52 14)) 0 898 muE) 0 899 (ronE 40 14)) 1 2 tOut 14) 0 900 (ronE 52 0)) 243 tOut j)) 243 (4096 + j) := fun j _ => tStore_fe n j
  intro j
  rw [e j.val j.isLt]
  revert j
  decide +kernel
theorem d10_0 : dc 10 0 = some (.aload_n 0, 1) := by decide +kernel
theorem d10_1 : dc 10 1 = some (.invokespecial 0, 4) := by decide +kernel
theorem d10_4 : dc 10 4 = some (.aload_n 0, 5) := by decide +kernel
theorem d10_5 : dc 10 5 = some (.bipush 14, 7) := by decide +kernel
theorem d10_7 : dc 10 7 = some (.anewarray 2, 10) := by decide +kernel
theorem d10_10 : dc 10 10 = some (.dstore 896, 13) := by decide +kernel
theorem d10_13 : dc 10 13 = some (.aload_n 0, 14) := by decide +kernel
theorem d10_14 : dc 10 14 = some (.bipush 14, 16) := by decide +kernel
theorem d10_16 : dc 10 16 = some (.anewarray 2, 19) := by decide +kernel
theorem d10_19 : dc 10 19 = some (.dstore 897, 22) := by decide +kernel
theorem d10_22 : dc 10 22 = some (.aload_n 0, 23) := by decide +kernel
theorem d10_23 : dc 10 23 = some (.bipush 14, 25) := by decide +kernel
theorem d10_25 : dc 10 25 = some (.iconst 3, 26) := by decide +kernel
theorem d10_26 : dc 10 26 = some (.multianewarray 21 2, 30) := by decide +kernel
theorem d10_30 : dc 10 30 = some (.dstore 898, 33) := by decide +kernel
theorem d10_33 : dc 10 33 = some (.aload_n 0, 34) := by decide +kernel
theorem d10_34 : dc 10 34 = some (.bipush 14, 36) := by decide +kernel
theorem d10_36 : dc 10 36 = some (.newarray .int, 38) := by decide +kernel
theorem d10_38 : dc 10 38 = some (.dstore 899, 41) := by decide +kernel
theorem d10_41 : dc 10 41 = some (.iconst 0, 42) := by decide +kernel
theorem d10_42 : dc 10 42 = some (.istore_n 2, 43) := by decide +kernel
theorem d10_43 : dc 10 43 = some (.iload_n 2, 44) := by decide +kernel
theorem d10_44 : dc 10 44 = some (.bipush 14, 46) := by decide +kernel
theorem d10_46 : dc 10 46 = some (.if_icmp .ge ((81 : Nat) : Int), 49) := by decide +kernel
theorem d10_49 : dc 10 49 = some (.aload_n 0, 50) := by decide +kernel
theorem d10_50 : dc 10 50 = some (.dload 896, 53) := by decide +kernel
theorem d10_53 : dc 10 53 = some (.iload_n 2, 54) := by decide +kernel
theorem d10_54 : dc 10 54 = some (.new 2, 57) := by decide +kernel
theorem d10_57 : dc 10 57 = some (.dup, 58) := by decide +kernel
theorem d10_58 : dc 10 58 = some (.invokevirtual 11, 61) := by decide +kernel
theorem d10_61 : dc 10 61 = some (.aastore, 62) := by decide +kernel
theorem d10_62 : dc 10 62 = some (.aload_n 0, 63) := by decide +kernel
theorem d10_63 : dc 10 63 = some (.dload 897, 66) := by decide +kernel
theorem d10_66 : dc 10 66 = some (.iload_n 2, 67) := by decide +kernel
theorem d10_67 : dc 10 67 = some (.new 2, 70) := by decide +kernel
theorem d10_70 : dc 10 70 = some (.dup, 71) := by decide +kernel
theorem d10_71 : dc 10 71 = some (.invokevirtual 11, 74) := by decide +kernel
theorem d10_74 : dc 10 74 = some (.aastore, 75) := by decide +kernel
theorem d10_75 : dc 10 75 = some (.iinc 2 1, 78) := by decide +kernel
theorem d10_78 : dc 10 78 = some (.goto ((43 : Nat) : Int), 81) := by decide +kernel
theorem d10_81 : dc 10 81 = some (.aload_n 0, 82) := by decide +kernel
theorem d10_82 : dc 10 82 = some (.iload_n 1, 83) := by decide +kernel
theorem d10_83 : dc 10 83 = some (.iconst 0, 84) := by decide +kernel
theorem d10_84 : dc 10 84 = some (.invokestatic 3, 87) := by decide +kernel
theorem d10_87 : dc 10 87 = some (.anewarray 2, 90) := by decide +kernel
theorem d10_90 : dc 10 90 = some (.dstore 900, 93) := by decide +kernel
theorem d10_93 : dc 10 93 = some (.iconst 0, 94) := by decide +kernel
theorem d10_94 : dc 10 94 = some (.istore_n 2, 95) := by decide +kernel
theorem d10_95 : dc 10 95 = some (.iload_n 2, 96) := by decide +kernel
theorem d10_96 : dc 10 96 = some (.aload_n 0, 97) := by decide +kernel
theorem d10_97 : dc 10 97 = some (.dload 900, 100) := by decide +kernel
theorem d10_100 : dc 10 100 = some (.arraylength, 101) := by decide +kernel
theorem d10_101 : dc 10 101 = some (.if_icmp .ge ((123 : Nat) : Int), 104) := by decide +kernel
theorem d10_104 : dc 10 104 = some (.aload_n 0, 105) := by decide +kernel
theorem d10_105 : dc 10 105 = some (.dload 900, 108) := by decide +kernel
theorem d10_108 : dc 10 108 = some (.iload_n 2, 109) := by decide +kernel
theorem d10_109 : dc 10 109 = some (.new 2, 112) := by decide +kernel
theorem d10_112 : dc 10 112 = some (.dup, 113) := by decide +kernel
theorem d10_113 : dc 10 113 = some (.invokevirtual 11, 116) := by decide +kernel
theorem d10_116 : dc 10 116 = some (.aastore, 117) := by decide +kernel
theorem d10_117 : dc 10 117 = some (.iinc 2 1, 120) := by decide +kernel
theorem d10_120 : dc 10 120 = some (.goto ((95 : Nat) : Int), 123) := by decide +kernel
theorem d10_123 : dc 10 123 = some (.return_, 124) := by decide +kernel
theorem i_Store {G : Nat → Option Nat} {d n : Nat} (hn : n ≤ 24) (h1 : 3 ≤ d) : Mk G d 10 [vI (n : Nat)] 8 (tStore n) (fun _ _ => True) := by
  intro h0 p s0 Q B0 kk
  have F0 : Fx (fun x => p ≤ x) h0 h0 := Fx.refl
  show Wp G d 10 0 [some (vR (some p)), some (vI (n : Nat)), none] [] h0 Q
  refine w_aload_n d10_0 rfl ?_
  refine w_objinit d10_1 ⟨by rw [B0.kp]; decide, Nat.zero_le _, by omega⟩ ?_
  refine w_aload_n d10_4 rfl ?_
  refine w_bipush d10_5 (by decide) ?_
  refine w_anewarray d10_7 ⟨by decide, by decide⟩ ?_
  refine c_dst B0 (Fx.nA h0 52 14) (Bl.nA h0 52 14 (by decide) (fun _ => none)) (iF_40 (by decide)) (iA_no (by decide)) d10_10 ⟨by decide, by decide⟩ (by decide +kernel) (by decide) (fun h1 B1 g1 e1 => ?_)
  have F1 := F0.tr (g1.any (fun x e => by omega))
  clear g1 e1
  refine w_aload_n d10_13 rfl ?_
  refine w_bipush d10_14 (by decide) ?_
  refine w_anewarray d10_16 ⟨by decide, by decide⟩ ?_
  refine c_dst B1 (Fx.nA h1 52 14) (Bl.nA h1 52 14 (by decide) (fun _ => none)) (iF_40 (by decide)) (iA_no (by decide)) d10_19 ⟨by decide, by decide⟩ (by decide +kernel) (by decide) (fun h2 B2 g2 e2 => ?_)
  have F2 := F1.tr (g2.any (fun x e => by omega))
  clear g2 e2
  refine w_aload_n d10_22 rfl ?_
  refine w_bipush d10_23 (by decide) ?_
  refine w_iconst d10_25 (by decide) ?_
  refine w_multianewarray d10_26 (by decide) ?_
  refine c_dst B2 (Fx.nM h2 14 3) (Bl.nM h2 (fun _ => none)) (iF_40 (by decide)) (iA_no (by decide)) d10_30 ⟨by decide, by decide⟩ (by decide +kernel) (by decide) (fun h3 B3 g3 e3 => ?_)
  have F3 := F2.tr (g3.any (fun x e => by omega))
  clear g3 e3
  refine w_aload_n d10_33 rfl ?_
  refine w_bipush d10_34 (by decide) ?_
  refine w_newarray d10_36 ⟨by decide, by decide⟩ ?_
  refine c_dst B3 (Fx.nA h3 40 14) (Bl.nA h3 40 14 (by decide) (fun _ => none)) (iF_40 (by decide)) (iA_no (by decide)) d10_38 ⟨by decide, by decide⟩ (by decide +kernel) (by decide) (fun h4 B4 g4 e4 => ?_)
  have F4 := F3.tr (g4.any (fun x e => by omega))
  clear g4 e4
  refine w_iconst d10_41 (by decide) ?_
  refine w_istore2 d10_42 rfl ?_
  have FRLP : ∀ j : Fin 14, freE ((re2E (putE (putE (putE (putE (ronE 8 0) 0 896 (ronE 52 14)) 0 897 (ronE 52 14)) 0 898 muE) 0 899 (ronE 40 14)) 1 2 tOut j.val)) 1 (4096 + j.val) = true := by decide +kernel
  have FSLP : ∀ j : Fin 14, freE (putE (re2E (putE (putE (putE (putE (ronE 8 0) 0 896 (ronE 52 14)) 0 897 (ronE 52 14)) 0 898 muE) 0 899 (ronE 40 14)) 1 2 tOut j.val) 1 (4096 + j.val) tOut) 2 (4096 + j.val) = true := by decide +kernel
  have LP : ∀ (m i : Nat) (h5 : Hp), m + i = 14 → Bl 8 0 p s0 (re2E (putE (putE (putE (putE (ronE 8 0) 0 896 (ronE 52 14)) 0 897 (ronE 52 14)) 0 898 muE) 0 899 (ronE 40 14)) 1 2 tOut i) [] (fun _ => none) (fun _ => 0) (fun _ => 0) h5 → Fx (fun x => p ≤ x) h0 h5 → Wp G d 10 43 [some (vR (some p)), some (vI (n : Nat)), some (vI (i : Nat))] [] h5 Q := by
    intro m
    induction m with
    | zero =>
      intro i h5 hm B5 F5
      obtain rfl : 14 = i := by omega
      refine w_iload_n d10_43 rfl ?_
      refine w_bipush d10_44 (by decide) ?_
      refine w_icmpge d10_46 (fun _ => ?_) (fun z => absurd z (by omega))
      refine w_aload_n d10_81 rfl ?_
      refine w_iload_n d10_82 rfl ?_
      refine w_iconst d10_83 (by decide) ?_
      refine w_max d10_84 ⟨by simp, by omega⟩ ?_
      rw [show (if ((n : Nat) : Int) < 0 then 0 else ((n : Nat) : Int)) = ((n : Nat) : Int) from if_neg (by omega)]
      refine w_anewarray d10_87 ⟨by omega, by decide⟩ ?_
      refine c_dst B5 (Fx.nA h5 52 n) (Bl.nA h5 52 n (by decide) (fun _ => none)) (iF_40 (by decide)) (iA_no (by decide)) d10_90 ⟨by decide, by decide⟩ (by decide +kernel) (by decide) (fun h6 B6 g6 e6 => ?_)
      have F6 := F5.tr (g6.any (fun x e => by omega))
      clear g6 e6
      refine w_iconst d10_93 (by decide) ?_
      refine w_istore2 d10_94 rfl ?_
      have FRLK : ∀ j : Fin 24, freE ((repE (putE (re2E (putE (putE (putE (putE (ronE 8 0) 0 896 (ronE 52 14)) 0 897 (ronE 52 14)) 0 898 muE) 0 899 (ronE 40 14)) 1 2 tOut 14) 0 900 (ronE 52 n)) 243 tOut j.val)) 243 (4096 + j.val) = true := tStore_fr n
      have LK : ∀ (m i : Nat) (h7 : Hp), m + i = n → Bl 8 0 p s0 (repE (putE (re2E (putE (putE (putE (putE (ronE 8 0) 0 896 (ronE 52 14)) 0 897 (ronE 52 14)) 0 898 muE) 0 899 (ronE 40 14)) 1 2 tOut 14) 0 900 (ronE 52 n)) 243 tOut i) [] (fun _ => none) (fun _ => 0) (fun _ => 0) h7 → Fx (fun x => p ≤ x) h0 h7 → Wp G d 10 95 [some (vR (some p)), some (vI (n : Nat)), some (vI (i : Nat))] [] h7 Q := by
        intro m
        induction m with
        | zero =>
          intro i h7 hm B7 F7
          obtain rfl : n = i := by omega
          refine w_iload_n d10_95 rfl ?_
          refine w_aload_n d10_96 rfl ?_
          refine w_dloadS d10_97 (B7.kp.trans (by decide)) (B7.fr (k := 243) (a := 52) (b := n) (f := 900) (by decide) (repE_get (by rfl) _) (by decide)) ?_
          have kz := B7.kn (k := 243) (a := 52) (b := n) (c := 0) (e := 900) (by decide) (repE_get (by rfl) _)
          refine w_arraylength d10_100 (by rw [kz.1]; decide) ?_
          rw [kz.2]
          refine w_icmpge d10_101 (fun _ => ?_) (fun z => absurd z (by omega))
          refine w_return d10_123 ?_
          exact kk _ ((B7.ri (iF_no (by decide)) (fun _ => rfl)).dz) F7 trivial
        | succ m ih =>
          intro i h7 hm B7 F7
          refine w_iload_n d10_95 rfl ?_
          refine w_aload_n d10_96 rfl ?_
          refine w_dloadS d10_97 (B7.kp.trans (by decide)) (B7.fr (k := 243) (a := 52) (b := n) (f := 900) (by decide) (repE_get (by rfl) _) (by decide)) ?_
          have kz := B7.kn (k := 243) (a := 52) (b := n) (c := 0) (e := 900) (by decide) (repE_get (by rfl) _)
          refine w_arraylength d10_100 (by rw [kz.1]; decide) ?_
          rw [kz.2]
          refine w_icmpge d10_101 (fun z => absurd z (by omega)) (fun z => ?_)
          refine w_aload_n d10_104 rfl ?_
          refine w_dloadS d10_105 (B7.kp.trans (by decide)) (B7.fr (k := 243) (a := 52) (b := n) (f := 900) (by decide) (repE_get (by rfl) _) (by decide)) ?_
          refine w_iload_n d10_108 rfl ?_
          refine w_new d10_109 (by decide) ?_
          refine w_dupR d10_112 ?_
          refine w_callv1 d10_113 (by omega) rfl ((KD_nO _ _).trans (by decide)) (by simp) (Nat.le_of_ble_eq_true rfl) ?_
          refine i_Out (by omega) _ _ _ _ (Bl.nO h7 2 (by decide) _) (fun hq bq fq xq => ?_)
          refine c_ast (q := 243) (n := n) (par := 0) (place := 900) B7 (fq.made (fun _ z => z)) bq (fun _ => rfl) (fun _ => rfl) d10_116 (by decide) (repE_get (by rfl) _) (by decide) (by omega) (FRLK ⟨i, by omega⟩) (fun h8 B8 g8 => ?_)
          have F8 := F7.tr (g8.any (fun x e => by omega))
          refine w_iinc2 d10_117 rfl (by omega) ?_
          refine w_goto d10_120 ?_
          exact ih (i + 1) h8 (by omega) B8 F8
      exact LK n 0 h6 (by omega) B6 F6
    | succ m ih =>
      intro i h5 hm B5 F5
      refine w_iload_n d10_43 rfl ?_
      refine w_bipush d10_44 (by decide) ?_
      refine w_icmpge d10_46 (fun z => absurd z (by omega)) (fun z => ?_)
      refine w_aload_n d10_49 rfl ?_
      refine w_dloadS d10_50 (B5.kp.trans (by decide)) (B5.fr (k := 1) (a := 52) (b := 14) (f := 896) (by decide) (re2E_get (by rfl) _) (by decide)) ?_
      refine w_iload_n d10_53 rfl ?_
      refine w_new d10_54 (by decide) ?_
      refine w_dupR d10_57 ?_
      refine w_callv1 d10_58 (by omega) rfl ((KD_nO _ _).trans (by decide)) (by simp) (Nat.le_of_ble_eq_true rfl) ?_
      refine i_Out (by omega) _ _ _ _ (Bl.nO h5 2 (by decide) _) (fun hq bq fq xq => ?_)
      refine c_ast (q := 1) (n := 14) (par := 0) (place := 896) B5 (fq.made (fun _ z => z)) bq (fun _ => rfl) (fun _ => rfl) d10_61 (by decide) (re2E_get (by rfl) _) (by decide) (by omega) (FRLP ⟨i, by omega⟩) (fun h6 B6 g6 => ?_)
      have F6 := F5.tr (g6.any (fun x e => by omega))
      refine w_aload_n d10_62 rfl ?_
      refine w_dloadS d10_63 (B6.kp.trans (by decide)) (B6.fr (k := 2) (a := 52) (b := 14) (f := 897) (by decide) (putE_get (re2E_get (by rfl) _)) (by decide)) ?_
      refine w_iload_n d10_66 rfl ?_
      refine w_new d10_67 (by decide) ?_
      refine w_dupR d10_70 ?_
      refine w_callv1 d10_71 (by omega) rfl ((KD_nO _ _).trans (by decide)) (by simp) (Nat.le_of_ble_eq_true rfl) ?_
      refine i_Out (by omega) _ _ _ _ (Bl.nO h6 2 (by decide) _) (fun hq bq fq xq => ?_)
      refine c_ast (q := 2) (n := 14) (par := 0) (place := 897) B6 (fq.made (fun _ z => z)) bq (fun _ => rfl) (fun _ => rfl) d10_74 (by decide) (putE_get (re2E_get (by rfl) _)) (by decide) (by omega) (FSLP ⟨i, by omega⟩) (fun h7 B7 g7 => ?_)
      have F7 := F6.tr (g7.any (fun x e => by omega))
      refine w_iinc2 d10_75 rfl (by omega) ?_
      refine w_goto d10_78 ?_
      exact ih (i + 1) h7 (by omega) B7 F7
  exact LP 14 0 h4 (by omega) B4 F4
