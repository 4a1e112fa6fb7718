/-! constructors of the reference (written by wip/tools/m/mc02.py) -/
def tOu : List ObE := (putE (putE (putE (ronE 13 0) 0 1536 (ronE 40 600)) 0 1538 (ronE 40 600)) 0 1540 (ronE 40 40))
theorem d191_0 : dc 191 0 = some (.aload_n 0, 1) := by decide +kernel
theorem d191_1 : dc 191 1 = some (.invokespecial 0, 4) := by decide +kernel
theorem d191_4 : dc 191 4 = some (.aload_n 0, 5) := by decide +kernel
theorem d191_5 : dc 191 5 = some (.sipush 600, 8) := by decide +kernel
theorem d191_8 : dc 191 8 = some (.newarray .int, 10) := by decide +kernel
theorem d191_10 : dc 191 10 = some (.dstore 1536, 13) := by decide +kernel
theorem d191_13 : dc 191 13 = some (.aload_n 0, 14) := by decide +kernel
theorem d191_14 : dc 191 14 = some (.sipush 600, 17) := by decide +kernel
theorem d191_17 : dc 191 17 = some (.newarray .int, 19) := by decide +kernel
theorem d191_19 : dc 191 19 = some (.dstore 1538, 22) := by decide +kernel
theorem d191_22 : dc 191 22 = some (.aload_n 0, 23) := by decide +kernel
theorem d191_23 : dc 191 23 = some (.bipush 40, 25) := by decide +kernel
theorem d191_25 : dc 191 25 = some (.newarray .int, 27) := by decide +kernel
theorem d191_27 : dc 191 27 = some (.dstore 1540, 30) := by decide +kernel
theorem d191_30 : dc 191 30 = some (.return_, 31) := by decide +kernel
theorem i_Ou {G : Nat → Option Nat} {d : Nat} (h1 : 1 ≤ d) : Mk G d 191 [] 13 tOu (fun _ _ => True) := by
  intro h0 p s0 Q B0 kk
  have F0 : Fx (fun x => p ≤ x) h0 h0 := Fx.refl
  show Wp G d 191 0 [some (vR (some p))] [] h0 Q
  refine w_aload_n d191_0 rfl ?_
  refine w_objinit d191_1 ⟨by rw [B0.kp]; decide, Nat.zero_le _, by omega⟩ ?_
  refine w_aload_n d191_4 rfl ?_
  refine w_sipush d191_5 (by decide) ?_
  refine w_newarray d191_8 ⟨by decide, by decide⟩ ?_
  refine c_dst B0 (Fx.nA h0 40 600) (Bl.nA h0 40 600 (by decide) (fun _ => none)) (iF_40 (by decide)) (iA_no (by decide)) d191_10 ⟨by decide, by decide⟩ (by decide +kernel) (by decide) (fun h1 B1 g1 e1 => ?_)
  have F1 := F0.tr (g1.any (fun x e => by omega))
  clear g1 e1
  refine w_aload_n d191_13 rfl ?_
  refine w_sipush d191_14 (by decide) ?_
  refine w_newarray d191_17 ⟨by decide, by decide⟩ ?_
  refine c_dst B1 (Fx.nA h1 40 600) (Bl.nA h1 40 600 (by decide) (fun _ => none)) (iF_40 (by decide)) (iA_no (by decide)) d191_19 ⟨by decide, by decide⟩ (by decide +kernel) (by decide) (fun h2 B2 g2 e2 => ?_)
  have F2 := F1.tr (g2.any (fun x e => by omega))
  clear g2 e2
  refine w_aload_n d191_22 rfl ?_
  refine w_bipush d191_23 (by decide) ?_
  refine w_newarray d191_25 ⟨by decide, by decide⟩ ?_
  refine c_dst B2 (Fx.nA h2 40 40) (Bl.nA h2 40 40 (by decide) (fun _ => none)) (iF_40 (by decide)) (iA_no (by decide)) d191_27 ⟨by decide, by decide⟩ (by decide +kernel) (by decide) (fun h3 B3 g3 e3 => ?_)
  have F3 := F2.tr (g3.any (fun x e => by omega))
  clear g3 e3
  refine w_return d191_30 ?_
  exact kk _ ((B3.ri (iF_no (by decide)) (fun _ => rfl)).dz) F3 trivial
def tDfs : List ObE := (putE (putE (putE (putE (putE (putE (putE (putE (putE (putE (putE (putE (putE (putE (putE (putE (putE (putE (putE (putE (ronE 12 0) 0 1409 (ronE 40 192)) 0 1410 (ronE 40 16)) 0 1411 (ronE 40 2560)) 0 1412 (ronE 40 16)) 0 1414 (ronE 40 48)) 0 1415 (ronE 40 6)) 0 1416 (ronE 40 6)) 0 1418 (ronE 40 112)) 0 1419 (ronE 40 14)) 0 1420 (ronE 42 14)) 0 1421 (ronE 40 14)) 0 1422 (ronE 40 112)) 0 1423 (ronE 40 14)) 0 1424 (ronE 40 14)) 0 1425 (ronE 42 84)) 0 1426 (ronE 40 1008)) 0 1427 (ronE 40 84)) 0 1428 (ronE 40 112)) 0 1429 (ronE 40 14)) 0 1430 (ronE 40 14))
theorem d189_0 : dc 189 0 = some (.aload_n 0, 1) := by decide +kernel
theorem d189_1 : dc 189 1 = some (.invokespecial 0, 4) := by decide +kernel
theorem d189_4 : dc 189 4 = some (.aload_n 0, 5) := by decide +kernel
theorem d189_5 : dc 189 5 = some (.sipush 192, 8) := by decide +kernel
theorem d189_8 : dc 189 8 = some (.newarray .int, 10) := by decide +kernel
theorem d189_10 : dc 189 10 = some (.dstore 1409, 13) := by decide +kernel
theorem d189_13 : dc 189 13 = some (.aload_n 0, 14) := by decide +kernel
theorem d189_14 : dc 189 14 = some (.bipush 16, 16) := by decide +kernel
theorem d189_16 : dc 189 16 = some (.newarray .int, 18) := by decide +kernel
theorem d189_18 : dc 189 18 = some (.dstore 1410, 21) := by decide +kernel
theorem d189_21 : dc 189 21 = some (.aload_n 0, 22) := by decide +kernel
theorem d189_22 : dc 189 22 = some (.sipush 2560, 25) := by decide +kernel
theorem d189_25 : dc 189 25 = some (.newarray .int, 27) := by decide +kernel
theorem d189_27 : dc 189 27 = some (.dstore 1411, 30) := by decide +kernel
theorem d189_30 : dc 189 30 = some (.aload_n 0, 31) := by decide +kernel
theorem d189_31 : dc 189 31 = some (.bipush 16, 33) := by decide +kernel
theorem d189_33 : dc 189 33 = some (.newarray .int, 35) := by decide +kernel
theorem d189_35 : dc 189 35 = some (.dstore 1412, 38) := by decide +kernel
theorem d189_38 : dc 189 38 = some (.aload_n 0, 39) := by decide +kernel
theorem d189_39 : dc 189 39 = some (.bipush 48, 41) := by decide +kernel
theorem d189_41 : dc 189 41 = some (.newarray .int, 43) := by decide +kernel
theorem d189_43 : dc 189 43 = some (.dstore 1414, 46) := by decide +kernel
theorem d189_46 : dc 189 46 = some (.aload_n 0, 47) := by decide +kernel
theorem d189_47 : dc 189 47 = some (.bipush 6, 49) := by decide +kernel
theorem d189_49 : dc 189 49 = some (.newarray .int, 51) := by decide +kernel
theorem d189_51 : dc 189 51 = some (.dstore 1415, 54) := by decide +kernel
theorem d189_54 : dc 189 54 = some (.aload_n 0, 55) := by decide +kernel
theorem d189_55 : dc 189 55 = some (.bipush 6, 57) := by decide +kernel
theorem d189_57 : dc 189 57 = some (.newarray .int, 59) := by decide +kernel
theorem d189_59 : dc 189 59 = some (.dstore 1416, 62) := by decide +kernel
theorem d189_62 : dc 189 62 = some (.aload_n 0, 63) := by decide +kernel
theorem d189_63 : dc 189 63 = some (.bipush 112, 65) := by decide +kernel
theorem d189_65 : dc 189 65 = some (.newarray .int, 67) := by decide +kernel
theorem d189_67 : dc 189 67 = some (.dstore 1418, 70) := by decide +kernel
theorem d189_70 : dc 189 70 = some (.aload_n 0, 71) := by decide +kernel
theorem d189_71 : dc 189 71 = some (.bipush 14, 73) := by decide +kernel
theorem d189_73 : dc 189 73 = some (.newarray .int, 75) := by decide +kernel
theorem d189_75 : dc 189 75 = some (.dstore 1419, 78) := by decide +kernel
theorem d189_78 : dc 189 78 = some (.aload_n 0, 79) := by decide +kernel
theorem d189_79 : dc 189 79 = some (.bipush 14, 81) := by decide +kernel
theorem d189_81 : dc 189 81 = some (.newarray .boolean, 83) := by decide +kernel
theorem d189_83 : dc 189 83 = some (.dstore 1420, 86) := by decide +kernel
theorem d189_86 : dc 189 86 = some (.aload_n 0, 87) := by decide +kernel
theorem d189_87 : dc 189 87 = some (.bipush 14, 89) := by decide +kernel
theorem d189_89 : dc 189 89 = some (.newarray .int, 91) := by decide +kernel
theorem d189_91 : dc 189 91 = some (.dstore 1421, 94) := by decide +kernel
theorem d189_94 : dc 189 94 = some (.aload_n 0, 95) := by decide +kernel
theorem d189_95 : dc 189 95 = some (.bipush 112, 97) := by decide +kernel
theorem d189_97 : dc 189 97 = some (.newarray .int, 99) := by decide +kernel
theorem d189_99 : dc 189 99 = some (.dstore 1422, 102) := by decide +kernel
theorem d189_102 : dc 189 102 = some (.aload_n 0, 103) := by decide +kernel
theorem d189_103 : dc 189 103 = some (.bipush 14, 105) := by decide +kernel
theorem d189_105 : dc 189 105 = some (.newarray .int, 107) := by decide +kernel
theorem d189_107 : dc 189 107 = some (.dstore 1423, 110) := by decide +kernel
theorem d189_110 : dc 189 110 = some (.aload_n 0, 111) := by decide +kernel
theorem d189_111 : dc 189 111 = some (.bipush 14, 113) := by decide +kernel
theorem d189_113 : dc 189 113 = some (.newarray .int, 115) := by decide +kernel
theorem d189_115 : dc 189 115 = some (.dstore 1424, 118) := by decide +kernel
theorem d189_118 : dc 189 118 = some (.aload_n 0, 119) := by decide +kernel
theorem d189_119 : dc 189 119 = some (.bipush 84, 121) := by decide +kernel
theorem d189_121 : dc 189 121 = some (.newarray .boolean, 123) := by decide +kernel
theorem d189_123 : dc 189 123 = some (.dstore 1425, 126) := by decide +kernel
theorem d189_126 : dc 189 126 = some (.aload_n 0, 127) := by decide +kernel
theorem d189_127 : dc 189 127 = some (.sipush 1008, 130) := by decide +kernel
theorem d189_130 : dc 189 130 = some (.newarray .int, 132) := by decide +kernel
theorem d189_132 : dc 189 132 = some (.dstore 1426, 135) := by decide +kernel
theorem d189_135 : dc 189 135 = some (.aload_n 0, 136) := by decide +kernel
theorem d189_136 : dc 189 136 = some (.bipush 84, 138) := by decide +kernel
theorem d189_138 : dc 189 138 = some (.newarray .int, 140) := by decide +kernel
theorem d189_140 : dc 189 140 = some (.dstore 1427, 143) := by decide +kernel
theorem d189_143 : dc 189 143 = some (.aload_n 0, 144) := by decide +kernel
theorem d189_144 : dc 189 144 = some (.bipush 112, 146) := by decide +kernel
theorem d189_146 : dc 189 146 = some (.newarray .int, 148) := by decide +kernel
theorem d189_148 : dc 189 148 = some (.dstore 1428, 151) := by decide +kernel
theorem d189_151 : dc 189 151 = some (.aload_n 0, 152) := by decide +kernel
theorem d189_152 : dc 189 152 = some (.bipush 14, 154) := by decide +kernel
theorem d189_154 : dc 189 154 = some (.newarray .int, 156) := by decide +kernel
theorem d189_156 : dc 189 156 = some (.dstore 1429, 159) := by decide +kernel
theorem d189_159 : dc 189 159 = some (.aload_n 0, 160) := by decide +kernel
theorem d189_160 : dc 189 160 = some (.bipush 14, 162) := by decide +kernel
theorem d189_162 : dc 189 162 = some (.newarray .int, 164) := by decide +kernel
theorem d189_164 : dc 189 164 = some (.dstore 1430, 167) := by decide +kernel
theorem d189_167 : dc 189 167 = some (.return_, 168) := by decide +kernel
theorem i_Dfs {G : Nat → Option Nat} {d : Nat} (h1 : 1 ≤ d) : Mk G d 189 [] 12 tDfs (fun _ _ => True) := by
  intro h0 p s0 Q B0 kk
  have F0 : Fx (fun x => p ≤ x) h0 h0 := Fx.refl
  show Wp G d 189 0 [some (vR (some p))] [] h0 Q
  refine w_aload_n d189_0 rfl ?_
  refine w_objinit d189_1 ⟨by rw [B0.kp]; decide, Nat.zero_le _, by omega⟩ ?_
  refine w_aload_n d189_4 rfl ?_
  refine w_sipush d189_5 (by decide) ?_
  refine w_newarray d189_8 ⟨by decide, by decide⟩ ?_
  refine c_dst B0 (Fx.nA h0 40 192) (Bl.nA h0 40 192 (by decide) (fun _ => none)) (iF_40 (by decide)) (iA_no (by decide)) d189_10 ⟨by decide, by decide⟩ (by decide +kernel) (by decide) (fun h1 B1 g1 e1 => ?_)
  have F1 := F0.tr (g1.any (fun x e => by omega))
  clear g1 e1
  refine w_aload_n d189_13 rfl ?_
  refine w_bipush d189_14 (by decide) ?_
  refine w_newarray d189_16 ⟨by decide, by decide⟩ ?_
  refine c_dst B1 (Fx.nA h1 40 16) (Bl.nA h1 40 16 (by decide) (fun _ => none)) (iF_40 (by decide)) (iA_no (by decide)) d189_18 ⟨by decide, by decide⟩ (by decide +kernel) (by decide) (fun h2 B2 g2 e2 => ?_)
  have F2 := F1.tr (g2.any (fun x e => by omega))
  clear g2 e2
  refine w_aload_n d189_21 rfl ?_
  refine w_sipush d189_22 (by decide) ?_
  refine w_newarray d189_25 ⟨by decide, by decide⟩ ?_
  refine c_dst B2 (Fx.nA h2 40 2560) (Bl.nA h2 40 2560 (by decide) (fun _ => none)) (iF_40 (by decide)) (iA_no (by decide)) d189_27 ⟨by decide, by decide⟩ (by decide +kernel) (by decide) (fun h3 B3 g3 e3 => ?_)
  have F3 := F2.tr (g3.any (fun x e => by omega))
  clear g3 e3
  refine w_aload_n d189_30 rfl ?_
  refine w_bipush d189_31 (by decide) ?_
  refine w_newarray d189_33 ⟨by decide, by decide⟩ ?_
  refine c_dst B3 (Fx.nA h3 40 16) (Bl.nA h3 40 16 (by decide) (fun _ => none)) (iF_40 (by decide)) (iA_no (by decide)) d189_35 ⟨by decide, by decide⟩ (by decide +kernel) (by decide) (fun h4 B4 g4 e4 => ?_)
  have F4 := F3.tr (g4.any (fun x e => by omega))
  clear g4 e4
  refine w_aload_n d189_38 rfl ?_
  refine w_bipush d189_39 (by decide) ?_
  refine w_newarray d189_41 ⟨by decide, by decide⟩ ?_
  refine c_dst B4 (Fx.nA h4 40 48) (Bl.nA h4 40 48 (by decide) (fun _ => none)) (iF_40 (by decide)) (iA_no (by decide)) d189_43 ⟨by decide, by decide⟩ (by decide +kernel) (by decide) (fun h5 B5 g5 e5 => ?_)
  have F5 := F4.tr (g5.any (fun x e => by omega))
  clear g5 e5
  refine w_aload_n d189_46 rfl ?_
  refine w_bipush d189_47 (by decide) ?_
  refine w_newarray d189_49 ⟨by decide, by decide⟩ ?_
  refine c_dst B5 (Fx.nA h5 40 6) (Bl.nA h5 40 6 (by decide) (fun _ => none)) (iF_40 (by decide)) (iA_no (by decide)) d189_51 ⟨by decide, by decide⟩ (by decide +kernel) (by decide) (fun h6 B6 g6 e6 => ?_)
  have F6 := F5.tr (g6.any (fun x e => by omega))
  clear g6 e6
  refine w_aload_n d189_54 rfl ?_
  refine w_bipush d189_55 (by decide) ?_
  refine w_newarray d189_57 ⟨by decide, by decide⟩ ?_
  refine c_dst B6 (Fx.nA h6 40 6) (Bl.nA h6 40 6 (by decide) (fun _ => none)) (iF_40 (by decide)) (iA_no (by decide)) d189_59 ⟨by decide, by decide⟩ (by decide +kernel) (by decide) (fun h7 B7 g7 e7 => ?_)
  have F7 := F6.tr (g7.any (fun x e => by omega))
  clear g7 e7
  refine w_aload_n d189_62 rfl ?_
  refine w_bipush d189_63 (by decide) ?_
  refine w_newarray d189_65 ⟨by decide, by decide⟩ ?_
  refine c_dst B7 (Fx.nA h7 40 112) (Bl.nA h7 40 112 (by decide) (fun _ => none)) (iF_40 (by decide)) (iA_no (by decide)) d189_67 ⟨by decide, by decide⟩ (by decide +kernel) (by decide) (fun h8 B8 g8 e8 => ?_)
  have F8 := F7.tr (g8.any (fun x e => by omega))
  clear g8 e8
  refine w_aload_n d189_70 rfl ?_
  refine w_bipush d189_71 (by decide) ?_
  refine w_newarray d189_73 ⟨by decide, by decide⟩ ?_
  refine c_dst B8 (Fx.nA h8 40 14) (Bl.nA h8 40 14 (by decide) (fun _ => none)) (iF_40 (by decide)) (iA_no (by decide)) d189_75 ⟨by decide, by decide⟩ (by decide +kernel) (by decide) (fun h9 B9 g9 e9 => ?_)
  have F9 := F8.tr (g9.any (fun x e => by omega))
  clear g9 e9
  refine w_aload_n d189_78 rfl ?_
  refine w_bipush d189_79 (by decide) ?_
  refine w_newarray d189_81 ⟨by decide, by decide⟩ ?_
  refine c_dst B9 (Fx.nA h9 42 14) (Bl.nA h9 42 14 (by decide) (fun _ => none)) (iF_40 (by decide)) (iA_no (by decide)) d189_83 ⟨by decide, by decide⟩ (by decide +kernel) (by decide) (fun h10 B10 g10 e10 => ?_)
  have F10 := F9.tr (g10.any (fun x e => by omega))
  clear g10 e10
  refine w_aload_n d189_86 rfl ?_
  refine w_bipush d189_87 (by decide) ?_
  refine w_newarray d189_89 ⟨by decide, by decide⟩ ?_
  refine c_dst B10 (Fx.nA h10 40 14) (Bl.nA h10 40 14 (by decide) (fun _ => none)) (iF_40 (by decide)) (iA_no (by decide)) d189_91 ⟨by decide, by decide⟩ (by decide +kernel) (by decide) (fun h11 B11 g11 e11 => ?_)
  have F11 := F10.tr (g11.any (fun x e => by omega))
  clear g11 e11
  refine w_aload_n d189_94 rfl ?_
  refine w_bipush d189_95 (by decide) ?_
  refine w_newarray d189_97 ⟨by decide, by decide⟩ ?_
  refine c_dst B11 (Fx.nA h11 40 112) (Bl.nA h11 40 112 (by decide) (fun _ => none)) (iF_40 (by decide)) (iA_no (by decide)) d189_99 ⟨by decide, by decide⟩ (by decide +kernel) (by decide) (fun h12 B12 g12 e12 => ?_)
  have F12 := F11.tr (g12.any (fun x e => by omega))
  clear g12 e12
  refine w_aload_n d189_102 rfl ?_
  refine w_bipush d189_103 (by decide) ?_
  refine w_newarray d189_105 ⟨by decide, by decide⟩ ?_
  refine c_dst B12 (Fx.nA h12 40 14) (Bl.nA h12 40 14 (by decide) (fun _ => none)) (iF_40 (by decide)) (iA_no (by decide)) d189_107 ⟨by decide, by decide⟩ (by decide +kernel) (by decide) (fun h13 B13 g13 e13 => ?_)
  have F13 := F12.tr (g13.any (fun x e => by omega))
  clear g13 e13
  refine w_aload_n d189_110 rfl ?_
  refine w_bipush d189_111 (by decide) ?_
  refine w_newarray d189_113 ⟨by decide, by decide⟩ ?_
  refine c_dst B13 (Fx.nA h13 40 14) (Bl.nA h13 40 14 (by decide) (fun _ => none)) (iF_40 (by decide)) (iA_no (by decide)) d189_115 ⟨by decide, by decide⟩ (by decide +kernel) (by decide) (fun h14 B14 g14 e14 => ?_)
  have F14 := F13.tr (g14.any (fun x e => by omega))
  clear g14 e14
  refine w_aload_n d189_118 rfl ?_
  refine w_bipush d189_119 (by decide) ?_
  refine w_newarray d189_121 ⟨by decide, by decide⟩ ?_
  refine c_dst B14 (Fx.nA h14 42 84) (Bl.nA h14 42 84 (by decide) (fun _ => none)) (iF_40 (by decide)) (iA_no (by decide)) d189_123 ⟨by decide, by decide⟩ (by decide +kernel) (by decide) (fun h15 B15 g15 e15 => ?_)
  have F15 := F14.tr (g15.any (fun x e => by omega))
  clear g15 e15
  refine w_aload_n d189_126 rfl ?_
  refine w_sipush d189_127 (by decide) ?_
  refine w_newarray d189_130 ⟨by decide, by decide⟩ ?_
  refine c_dst B15 (Fx.nA h15 40 1008) (Bl.nA h15 40 1008 (by decide) (fun _ => none)) (iF_40 (by decide)) (iA_no (by decide)) d189_132 ⟨by decide, by decide⟩ (by decide +kernel) (by decide) (fun h16 B16 g16 e16 => ?_)
  have F16 := F15.tr (g16.any (fun x e => by omega))
  clear g16 e16
  refine w_aload_n d189_135 rfl ?_
  refine w_bipush d189_136 (by decide) ?_
  refine w_newarray d189_138 ⟨by decide, by decide⟩ ?_
  refine c_dst B16 (Fx.nA h16 40 84) (Bl.nA h16 40 84 (by decide) (fun _ => none)) (iF_40 (by decide)) (iA_no (by decide)) d189_140 ⟨by decide, by decide⟩ (by decide +kernel) (by decide) (fun h17 B17 g17 e17 => ?_)
  have F17 := F16.tr (g17.any (fun x e => by omega))
  clear g17 e17
  refine w_aload_n d189_143 rfl ?_
  refine w_bipush d189_144 (by decide) ?_
  refine w_newarray d189_146 ⟨by decide, by decide⟩ ?_
  refine c_dst B17 (Fx.nA h17 40 112) (Bl.nA h17 40 112 (by decide) (fun _ => none)) (iF_40 (by decide)) (iA_no (by decide)) d189_148 ⟨by decide, by decide⟩ (by decide +kernel) (by decide) (fun h18 B18 g18 e18 => ?_)
  have F18 := F17.tr (g18.any (fun x e => by omega))
  clear g18 e18
  refine w_aload_n d189_151 rfl ?_
  refine w_bipush d189_152 (by decide) ?_
  refine w_newarray d189_154 ⟨by decide, by decide⟩ ?_
  refine c_dst B18 (Fx.nA h18 40 14) (Bl.nA h18 40 14 (by decide) (fun _ => none)) (iF_40 (by decide)) (iA_no (by decide)) d189_156 ⟨by decide, by decide⟩ (by decide +kernel) (by decide) (fun h19 B19 g19 e19 => ?_)
  have F19 := F18.tr (g19.any (fun x e => by omega))
  clear g19 e19
  refine w_aload_n d189_159 rfl ?_
  refine w_bipush d189_160 (by decide) ?_
  refine w_newarray d189_162 ⟨by decide, by decide⟩ ?_
  refine c_dst B19 (Fx.nA h19 40 14) (Bl.nA h19 40 14 (by decide) (fun _ => none)) (iF_40 (by decide)) (iA_no (by decide)) d189_164 ⟨by decide, by decide⟩ (by decide +kernel) (by decide) (fun h20 B20 g20 e20 => ?_)
  have F20 := F19.tr (g20.any (fun x e => by omega))
  clear g20 e20
  refine w_return d189_167 ?_
  exact kk _ ((B20.ri (iF_no (by decide)) (fun _ => rfl)).dz) F20 trivial
theorem d190_0 : dc 190 0 = some (.iload_n 0, 1) := by decide +kernel
theorem d190_1 : dc 190 1 = some (.anewarray 12, 4) := by decide +kernel
theorem d190_4 : dc 190 4 = some (.astore_n 1, 5) := by decide +kernel
theorem d190_5 : dc 190 5 = some (.iconst 0, 6) := by decide +kernel
theorem d190_6 : dc 190 6 = some (.istore_n 2, 7) := by decide +kernel
theorem d190_7 : dc 190 7 = some (.iload_n 2, 8) := by decide +kernel
theorem d190_8 : dc 190 8 = some (.iload_n 0, 9) := by decide +kernel
theorem d190_9 : dc 190 9 = some (.if_icmp .ge ((28 : Nat) : Int), 12) := by decide +kernel
theorem d190_12 : dc 190 12 = some (.aload_n 1, 13) := by decide +kernel
theorem d190_13 : dc 190 13 = some (.iload_n 2, 14) := by decide +kernel
theorem d190_14 : dc 190 14 = some (.new 12, 17) := by decide +kernel
theorem d190_17 : dc 190 17 = some (.dup, 18) := by decide +kernel
theorem d190_18 : dc 190 18 = some (.invokevirtual 191, 21) := by decide +kernel
theorem d190_21 : dc 190 21 = some (.aastore, 22) := by decide +kernel
theorem d190_22 : dc 190 22 = some (.iinc 2 1, 25) := by decide +kernel
theorem d190_25 : dc 190 25 = some (.goto ((7 : Nat) : Int), 28) := by decide +kernel
theorem d190_28 : dc 190 28 = some (.aload_n 1, 29) := by decide +kernel
theorem d190_29 : dc 190 29 = some (.areturn, 30) := by decide +kernel
theorem c_as0 {G : Nat → Option Nat} {d k pc pc' : Nat} {ls : List (Option MV)} {st : List MV} {Q : Option MV → Hp → Prop} {kd ln p s0 : Nat} {L : List ObE} {zv : Nat → Option Nat} {rI rA : Nat → Int} {h h2 : Hp} {kd' ln' : Nat} {T : List ObE} {zs' : List Nat} {zv' : Nat → Option Nat} {rI' rA' : Nat → Int} {i : Nat} (B : Bl kd ln p s0 L [] zv rI rA h) (fx : Fx (fun _ => False) h h2) (b : Bl kd' ln' (NX h) (SL h) T zs' zv' rI' rA' h2) (hr : ∀ g, rI' g = iF kd' g) (ha : ∀ j, rA' j = 0) (hd : dc k pc = some (.aastore, pc')) (hk : kd = 49 + kd' ∧ 1 ≤ kd' ∧ kd' < 15) (hi : i < ln) (fr : freE L 0 (4096 + i) = true)
    (kk : ∀ h', Bl kd ln p s0 (putE L 0 (4096 + i) T) [] zv rI rA h' → Fx (fun x => x = p) h h' → Wp G d k pc' ls st h' Q) : Wp G d k pc ls (vR (some (NX h)) :: vI (i : Nat) :: vR (some p) :: st) h2 Q := by
  have l0 : 0 < L.length := (List.getElem?_eq_some_iff.mp B.2.2.1).1
  have np : p < NX h := by have := B.1; omega
  have s := fx.2 p np (fun z => z)
  refine w_aastore hd ⟨⟨by rw [s.1, B.kp]; omega, by rw [s.1, B.kp]; omega, by rw [s.1, B.kp, b.kp]; omega⟩, by rw [s.2.1, B.2.2.2.1.2.1]; exact ⟨Int.natCast_nonneg i, by omega⟩⟩ ?_
  have g := B.add (place := 4096 + i) (par := 0) fx b hr (fun j => (ha j).trans (iA_no (by omega) j)) fr (fun _ => List.not_mem_nil) l0
  rw [wlE_A] at g
  exact kk _ g.1 g.2
def tRows (n : Nat) : List ObE := repE (ronE 62 n) 0 tOu n
theorem tRows_fr (n : Nat) : ∀ j : Fin 24, freE (repE (ronE 62 n) 0 tOu j.val) 0 (4096 + j.val) = true := by
  have e : ∀ j : Nat, freE (repE (ronE 62 n) 0 tOu j) 0 (4096 + j) = freE (repE (ronE 62 0) 0 tOu j) 0 (4096 + j) := fun j => (freE_rep (L := ronE 62 n) (L2 := ronE 62 0) (fun a b => by unfold freE ronE; simp only [List.all_cons]) rfl 0 j).1 _ _
  intro j
  rw [e j.val]
  revert j
  decide +kernel
theorem i_rows {G : Nat → Option Nat} {d n : Nat} (hn : n ≤ 24) (h1 : 2 ≤ d) {h0 : Hp} {Q : Option MV → Hp → Prop} (kk : ∀ h', Bl 62 n (NX h0) (SL h0) (tRows n) [] (fun _ => none) (fun _ => 0) (fun _ => 0) h' → Fx (fun _ => False) h0 h' → Q (some (vR (some (NX h0)))) h') : Cl G d 190 [vI (n : Nat)] h0 Q := by
  show Wp G d 190 0 [some (vI (n : Nat)), none, none] [] h0 Q
  refine w_iload_n d190_0 rfl ?_
  refine w_anewarray d190_1 ⟨by omega, by decide⟩ ?_
  refine w_astore1 d190_4 rfl ?_
  refine w_iconst d190_5 (by decide) ?_
  refine w_istore2 d190_6 rfl ?_
  have B0 := Bl.nA h0 62 n (by decide) (fun _ => none)
  have F0 := Fx.nA h0 62 n
  have FR := tRows_fr n
  generalize hp : NX h0 = p at B0 kk ⊢
  generalize hs : SL h0 = s0 at B0 kk
  have LP : ∀ (m i : Nat) (h1 : Hp), m + i = n → Bl 62 n p s0 (repE (ronE 62 n) 0 tOu i) [] (fun _ => none) (fun _ => 0) (fun _ => 0) h1 → Fx (fun _ => False) h0 h1 → Wp G d 190 7 [some (vI (n : Nat)), some (vR (some p)), some (vI (i : Nat))] [] h1 Q := by
    intro m
    induction m with
    | zero =>
      intro i h1 hm B F
      obtain rfl : n = i := by omega
      refine w_iload_n d190_7 rfl ?_
      refine w_iload_n d190_8 rfl ?_
      refine w_icmpge d190_9 (fun _ => ?_) (fun z => absurd z (by omega))
      refine w_aload_n d190_28 rfl ?_
      exact w_areturn d190_29 (kk _ B F)
    | succ m ih =>
      intro i h1 hm B F
      refine w_iload_n d190_7 rfl ?_
      refine w_iload_n d190_8 rfl ?_
      refine w_icmpge d190_9 (fun z => absurd z (by omega)) (fun z => ?_)
      refine w_aload_n d190_12 rfl ?_
      refine w_iload_n d190_13 rfl ?_
      refine w_new d190_14 (by decide) ?_
      refine w_dupR d190_17 ?_
      refine w_callv1 d190_18 (by omega) rfl ((KD_nO _ _).trans (by decide)) (by simp) (Nat.le_of_ble_eq_true rfl) ?_
      refine i_Ou (by omega) _ _ _ _ (Bl.nO h1 12 (by decide) _) (fun hq bq fq xq => ?_)
      refine c_as0 B (fq.made (fun _ z => z)) bq (fun _ => rfl) (fun _ => rfl) d190_21 (by decide) (by omega) (FR ⟨i, by omega⟩) (fun h2 B2 g2 => ?_)
      refine w_iinc2 d190_22 rfl (by omega) ?_
      refine w_goto d190_25 ?_
      have pn : ∀ x, x < NX h0 → x ≠ p := fun x hx => by omega
      have F2 : Fx (fun _ => False) h0 h2 := ⟨⟨Nat.le_trans F.1.1 g2.1.1, fun c => g2.1.2 (F.1.2 c)⟩, fun x hx _ => (F.2 x hx (fun z => z)).tr (g2.2 x (Nat.lt_of_lt_of_le hx F.1.1) (pn x hx))⟩
      exact ih (i + 1) h2 (by omega) B2 F2
  exact LP n 0 _ (by omega) B0 F0
def tModel : List ObE := (putE (putE (putE (putE (putE (putE (putE (putE (putE (putE (putE (putE (putE (putE (putE (putE (putE (putE (putE (putE (putE (putE (putE (putE (putE (putE (putE (putE (putE (putE (putE (putE (putE (putE (putE (putE (putE (putE (putE (putE (putE (putE (putE (putE (putE (putE (putE (putE (putE (putE (putE (putE (putE (putE (putE (ronE 14 0) 0 1664 tDfs) 0 1665 tDfs) 0 1666 (ronE 42 14)) 0 1667 (tRows 14)) 0 1668 (tRows 14)) 0 1669 (tRows 14)) 0 1670 (ronE 44 98)) 0 1671 (ronE 40 14)) 0 1672 (ronE 40 14)) 0 1673 (ronE 40 14)) 0 1674 (ronE 42 14)) 0 1675 (tRows 14)) 0 1676 (ronE 40 42)) 0 1678 (ronE 44 7)) 0 1681 (ronE 40 3600)) 0 1683 tOu) 0 1684 (ronE 40 7)) 0 1686 (ronE 40 3601)) 0 1687 (ronE 40 3601)) 0 1689 (ronE 40 1300)) 0 1690 (ronE 40 1300)) 0 1691 (ronE 40 1300)) 0 1692 (ronE 42 1300)) 0 1694 (ronE 40 1300)) 0 1695 (ronE 40 1300)) 0 1696 (ronE 40 1300)) 0 1702 (ronE 44 24)) 0 1703 (tRows 24)) 0 1707 (ronE 40 14)) 0 1708 (ronE 40 14)) 0 1713 (ronE 40 2)) 0 1714 (ronE 40 2)) 0 1715 (ronE 40 2)) 0 1716 (tRows 2)) 0 1717 (ronE 44 2)) 0 1718 (ronE 44 14)) 0 1719 (ronE 40 2)) 0 1721 (ronE 40 20)) 0 1722 (ronE 40 20)) 0 1723 (ronE 40 20)) 0 1724 (ronE 40 20)) 0 1725 (ronE 40 20)) 0 1726 (ronE 40 5)) 0 1727 (ronE 42 5)) 0 1728 (ronE 40 4000)) 0 1730 (ronE 40 20020)) 0 1732 (ronE 40 20000)) 0 1734 (ronE 40 2048)) 0 1741 (ronE 40 5)) 0 1753 (ronE 42 6)) 0 1754 (ronE 40 6)) 0 1755 (ronE 40 6)) 0 1759 (ronE 40 20000)) 0 1762 (ronE 40 20000)) 0 1763 (ronE 40 20000))
theorem d188_0 : dc 188 0 = some (.aload_n 0, 1) := by decide +kernel
theorem d188_1 : dc 188 1 = some (.invokespecial 0, 4) := by decide +kernel
theorem d188_4 : dc 188 4 = some (.aload_n 0, 5) := by decide +kernel
theorem d188_5 : dc 188 5 = some (.new 11, 8) := by decide +kernel
theorem d188_8 : dc 188 8 = some (.dup, 9) := by decide +kernel
theorem d188_9 : dc 188 9 = some (.invokevirtual 189, 12) := by decide +kernel
theorem d188_12 : dc 188 12 = some (.dstore 1664, 15) := by decide +kernel
theorem d188_15 : dc 188 15 = some (.aload_n 0, 16) := by decide +kernel
theorem d188_16 : dc 188 16 = some (.new 11, 19) := by decide +kernel
theorem d188_19 : dc 188 19 = some (.dup, 20) := by decide +kernel
theorem d188_20 : dc 188 20 = some (.invokevirtual 189, 23) := by decide +kernel
theorem d188_23 : dc 188 23 = some (.dstore 1665, 26) := by decide +kernel
theorem d188_26 : dc 188 26 = some (.aload_n 0, 27) := by decide +kernel
theorem d188_27 : dc 188 27 = some (.bipush 14, 29) := by decide +kernel
theorem d188_29 : dc 188 29 = some (.newarray .boolean, 31) := by decide +kernel
theorem d188_31 : dc 188 31 = some (.dstore 1666, 34) := by decide +kernel
theorem d188_34 : dc 188 34 = some (.aload_n 0, 35) := by decide +kernel
theorem d188_35 : dc 188 35 = some (.bipush 14, 37) := by decide +kernel
theorem d188_37 : dc 188 37 = some (.invokevirtual 190, 40) := by decide +kernel
theorem d188_40 : dc 188 40 = some (.dstore 1667, 43) := by decide +kernel
theorem d188_43 : dc 188 43 = some (.aload_n 0, 44) := by decide +kernel
theorem d188_44 : dc 188 44 = some (.bipush 14, 46) := by decide +kernel
theorem d188_46 : dc 188 46 = some (.invokevirtual 190, 49) := by decide +kernel
theorem d188_49 : dc 188 49 = some (.dstore 1668, 52) := by decide +kernel
theorem d188_52 : dc 188 52 = some (.aload_n 0, 53) := by decide +kernel
theorem d188_53 : dc 188 53 = some (.bipush 14, 55) := by decide +kernel
theorem d188_55 : dc 188 55 = some (.invokevirtual 190, 58) := by decide +kernel
theorem d188_58 : dc 188 58 = some (.dstore 1669, 61) := by decide +kernel
theorem d188_61 : dc 188 61 = some (.aload_n 0, 62) := by decide +kernel
theorem d188_62 : dc 188 62 = some (.bipush 98, 64) := by decide +kernel
theorem d188_64 : dc 188 64 = some (.newarray .long, 66) := by decide +kernel
theorem d188_66 : dc 188 66 = some (.dstore 1670, 69) := by decide +kernel
theorem d188_69 : dc 188 69 = some (.aload_n 0, 70) := by decide +kernel
theorem d188_70 : dc 188 70 = some (.bipush 14, 72) := by decide +kernel
theorem d188_72 : dc 188 72 = some (.newarray .int, 74) := by decide +kernel
theorem d188_74 : dc 188 74 = some (.dstore 1671, 77) := by decide +kernel
theorem d188_77 : dc 188 77 = some (.aload_n 0, 78) := by decide +kernel
theorem d188_78 : dc 188 78 = some (.bipush 14, 80) := by decide +kernel
theorem d188_80 : dc 188 80 = some (.newarray .int, 82) := by decide +kernel
theorem d188_82 : dc 188 82 = some (.dstore 1672, 85) := by decide +kernel
theorem d188_85 : dc 188 85 = some (.aload_n 0, 86) := by decide +kernel
theorem d188_86 : dc 188 86 = some (.bipush 14, 88) := by decide +kernel
theorem d188_88 : dc 188 88 = some (.newarray .int, 90) := by decide +kernel
theorem d188_90 : dc 188 90 = some (.dstore 1673, 93) := by decide +kernel
theorem d188_93 : dc 188 93 = some (.aload_n 0, 94) := by decide +kernel
theorem d188_94 : dc 188 94 = some (.bipush 14, 96) := by decide +kernel
theorem d188_96 : dc 188 96 = some (.newarray .boolean, 98) := by decide +kernel
theorem d188_98 : dc 188 98 = some (.dstore 1674, 101) := by decide +kernel
theorem d188_101 : dc 188 101 = some (.aload_n 0, 102) := by decide +kernel
theorem d188_102 : dc 188 102 = some (.bipush 14, 104) := by decide +kernel
theorem d188_104 : dc 188 104 = some (.invokevirtual 190, 107) := by decide +kernel
theorem d188_107 : dc 188 107 = some (.dstore 1675, 110) := by decide +kernel
theorem d188_110 : dc 188 110 = some (.aload_n 0, 111) := by decide +kernel
theorem d188_111 : dc 188 111 = some (.bipush 42, 113) := by decide +kernel
theorem d188_113 : dc 188 113 = some (.newarray .int, 115) := by decide +kernel
theorem d188_115 : dc 188 115 = some (.dstore 1676, 118) := by decide +kernel
theorem d188_118 : dc 188 118 = some (.aload_n 0, 119) := by decide +kernel
theorem d188_119 : dc 188 119 = some (.bipush 7, 121) := by decide +kernel
theorem d188_121 : dc 188 121 = some (.newarray .long, 123) := by decide +kernel
theorem d188_123 : dc 188 123 = some (.dstore 1678, 126) := by decide +kernel
theorem d188_126 : dc 188 126 = some (.aload_n 0, 127) := by decide +kernel
theorem d188_127 : dc 188 127 = some (.sipush 3600, 130) := by decide +kernel
theorem d188_130 : dc 188 130 = some (.newarray .int, 132) := by decide +kernel
theorem d188_132 : dc 188 132 = some (.dstore 1681, 135) := by decide +kernel
theorem d188_135 : dc 188 135 = some (.aload_n 0, 136) := by decide +kernel
theorem d188_136 : dc 188 136 = some (.new 12, 139) := by decide +kernel
theorem d188_139 : dc 188 139 = some (.dup, 140) := by decide +kernel
theorem d188_140 : dc 188 140 = some (.invokevirtual 191, 143) := by decide +kernel
theorem d188_143 : dc 188 143 = some (.dstore 1683, 146) := by decide +kernel
theorem d188_146 : dc 188 146 = some (.aload_n 0, 147) := by decide +kernel
theorem d188_147 : dc 188 147 = some (.bipush 7, 149) := by decide +kernel
theorem d188_149 : dc 188 149 = some (.newarray .int, 151) := by decide +kernel
theorem d188_151 : dc 188 151 = some (.dstore 1684, 154) := by decide +kernel
theorem d188_154 : dc 188 154 = some (.aload_n 0, 155) := by decide +kernel
theorem d188_155 : dc 188 155 = some (.sipush 3601, 158) := by decide +kernel
theorem d188_158 : dc 188 158 = some (.newarray .int, 160) := by decide +kernel
theorem d188_160 : dc 188 160 = some (.dstore 1686, 163) := by decide +kernel
theorem d188_163 : dc 188 163 = some (.aload_n 0, 164) := by decide +kernel
theorem d188_164 : dc 188 164 = some (.sipush 3601, 167) := by decide +kernel
theorem d188_167 : dc 188 167 = some (.newarray .int, 169) := by decide +kernel
theorem d188_169 : dc 188 169 = some (.dstore 1687, 172) := by decide +kernel
theorem d188_172 : dc 188 172 = some (.aload_n 0, 173) := by decide +kernel
theorem d188_173 : dc 188 173 = some (.sipush 1300, 176) := by decide +kernel
theorem d188_176 : dc 188 176 = some (.newarray .int, 178) := by decide +kernel
theorem d188_178 : dc 188 178 = some (.dstore 1689, 181) := by decide +kernel
theorem d188_181 : dc 188 181 = some (.aload_n 0, 182) := by decide +kernel
theorem d188_182 : dc 188 182 = some (.sipush 1300, 185) := by decide +kernel
theorem d188_185 : dc 188 185 = some (.newarray .int, 187) := by decide +kernel
theorem d188_187 : dc 188 187 = some (.dstore 1690, 190) := by decide +kernel
theorem d188_190 : dc 188 190 = some (.aload_n 0, 191) := by decide +kernel
theorem d188_191 : dc 188 191 = some (.sipush 1300, 194) := by decide +kernel
theorem d188_194 : dc 188 194 = some (.newarray .int, 196) := by decide +kernel
theorem d188_196 : dc 188 196 = some (.dstore 1691, 199) := by decide +kernel
theorem d188_199 : dc 188 199 = some (.aload_n 0, 200) := by decide +kernel
theorem d188_200 : dc 188 200 = some (.sipush 1300, 203) := by decide +kernel
theorem d188_203 : dc 188 203 = some (.newarray .boolean, 205) := by decide +kernel
theorem d188_205 : dc 188 205 = some (.dstore 1692, 208) := by decide +kernel
theorem d188_208 : dc 188 208 = some (.aload_n 0, 209) := by decide +kernel
theorem d188_209 : dc 188 209 = some (.sipush 1300, 212) := by decide +kernel
theorem d188_212 : dc 188 212 = some (.newarray .int, 214) := by decide +kernel
theorem d188_214 : dc 188 214 = some (.dstore 1694, 217) := by decide +kernel
theorem d188_217 : dc 188 217 = some (.aload_n 0, 218) := by decide +kernel
theorem d188_218 : dc 188 218 = some (.sipush 1300, 221) := by decide +kernel
theorem d188_221 : dc 188 221 = some (.newarray .int, 223) := by decide +kernel
theorem d188_223 : dc 188 223 = some (.dstore 1695, 226) := by decide +kernel
theorem d188_226 : dc 188 226 = some (.aload_n 0, 227) := by decide +kernel
theorem d188_227 : dc 188 227 = some (.sipush 1300, 230) := by decide +kernel
theorem d188_230 : dc 188 230 = some (.newarray .int, 232) := by decide +kernel
theorem d188_232 : dc 188 232 = some (.dstore 1696, 235) := by decide +kernel
theorem d188_235 : dc 188 235 = some (.aload_n 0, 236) := by decide +kernel
theorem d188_236 : dc 188 236 = some (.bipush 24, 238) := by decide +kernel
theorem d188_238 : dc 188 238 = some (.newarray .long, 240) := by decide +kernel
theorem d188_240 : dc 188 240 = some (.dstore 1702, 243) := by decide +kernel
theorem d188_243 : dc 188 243 = some (.aload_n 0, 244) := by decide +kernel
theorem d188_244 : dc 188 244 = some (.bipush 24, 246) := by decide +kernel
theorem d188_246 : dc 188 246 = some (.invokevirtual 190, 249) := by decide +kernel
theorem d188_249 : dc 188 249 = some (.dstore 1703, 252) := by decide +kernel
theorem d188_252 : dc 188 252 = some (.aload_n 0, 253) := by decide +kernel
theorem d188_253 : dc 188 253 = some (.bipush 14, 255) := by decide +kernel
theorem d188_255 : dc 188 255 = some (.newarray .int, 257) := by decide +kernel
theorem d188_257 : dc 188 257 = some (.dstore 1707, 260) := by decide +kernel
theorem d188_260 : dc 188 260 = some (.aload_n 0, 261) := by decide +kernel
theorem d188_261 : dc 188 261 = some (.bipush 14, 263) := by decide +kernel
theorem d188_263 : dc 188 263 = some (.newarray .int, 265) := by decide +kernel
theorem d188_265 : dc 188 265 = some (.dstore 1708, 268) := by decide +kernel
theorem d188_268 : dc 188 268 = some (.aload_n 0, 269) := by decide +kernel
theorem d188_269 : dc 188 269 = some (.iconst 2, 270) := by decide +kernel
theorem d188_270 : dc 188 270 = some (.newarray .int, 272) := by decide +kernel
theorem d188_272 : dc 188 272 = some (.dup, 273) := by decide +kernel
theorem d188_273 : dc 188 273 = some (.iconst 0, 274) := by decide +kernel
theorem d188_274 : dc 188 274 = some (.iconst (-1), 275) := by decide +kernel
theorem d188_275 : dc 188 275 = some (.iastore, 276) := by decide +kernel
theorem d188_276 : dc 188 276 = some (.dup, 277) := by decide +kernel
theorem d188_277 : dc 188 277 = some (.iconst 1, 278) := by decide +kernel
theorem d188_278 : dc 188 278 = some (.iconst (-1), 279) := by decide +kernel
theorem d188_279 : dc 188 279 = some (.iastore, 280) := by decide +kernel
theorem d188_280 : dc 188 280 = some (.dstore 1713, 283) := by decide +kernel
theorem d188_283 : dc 188 283 = some (.aload_n 0, 284) := by decide +kernel
theorem d188_284 : dc 188 284 = some (.iconst 2, 285) := by decide +kernel
theorem d188_285 : dc 188 285 = some (.newarray .int, 287) := by decide +kernel
theorem d188_287 : dc 188 287 = some (.dstore 1714, 290) := by decide +kernel
theorem d188_290 : dc 188 290 = some (.aload_n 0, 291) := by decide +kernel
theorem d188_291 : dc 188 291 = some (.iconst 2, 292) := by decide +kernel
theorem d188_292 : dc 188 292 = some (.newarray .int, 294) := by decide +kernel
theorem d188_294 : dc 188 294 = some (.dstore 1715, 297) := by decide +kernel
theorem d188_297 : dc 188 297 = some (.aload_n 0, 298) := by decide +kernel
theorem d188_298 : dc 188 298 = some (.iconst 2, 299) := by decide +kernel
theorem d188_299 : dc 188 299 = some (.invokevirtual 190, 302) := by decide +kernel
theorem d188_302 : dc 188 302 = some (.dstore 1716, 305) := by decide +kernel
theorem d188_305 : dc 188 305 = some (.aload_n 0, 306) := by decide +kernel
theorem d188_306 : dc 188 306 = some (.iconst 2, 307) := by decide +kernel
theorem d188_307 : dc 188 307 = some (.newarray .long, 309) := by decide +kernel
theorem d188_309 : dc 188 309 = some (.dstore 1717, 312) := by decide +kernel
theorem d188_312 : dc 188 312 = some (.aload_n 0, 313) := by decide +kernel
theorem d188_313 : dc 188 313 = some (.bipush 14, 315) := by decide +kernel
theorem d188_315 : dc 188 315 = some (.newarray .long, 317) := by decide +kernel
theorem d188_317 : dc 188 317 = some (.dstore 1718, 320) := by decide +kernel
theorem d188_320 : dc 188 320 = some (.aload_n 0, 321) := by decide +kernel
theorem d188_321 : dc 188 321 = some (.iconst 2, 322) := by decide +kernel
theorem d188_322 : dc 188 322 = some (.newarray .int, 324) := by decide +kernel
theorem d188_324 : dc 188 324 = some (.dstore 1719, 327) := by decide +kernel
theorem d188_327 : dc 188 327 = some (.aload_n 0, 328) := by decide +kernel
theorem d188_328 : dc 188 328 = some (.bipush 20, 330) := by decide +kernel
theorem d188_330 : dc 188 330 = some (.newarray .int, 332) := by decide +kernel
theorem d188_332 : dc 188 332 = some (.dstore 1721, 335) := by decide +kernel
theorem d188_335 : dc 188 335 = some (.aload_n 0, 336) := by decide +kernel
theorem d188_336 : dc 188 336 = some (.bipush 20, 338) := by decide +kernel
theorem d188_338 : dc 188 338 = some (.newarray .int, 340) := by decide +kernel
theorem d188_340 : dc 188 340 = some (.dstore 1722, 343) := by decide +kernel
theorem d188_343 : dc 188 343 = some (.aload_n 0, 344) := by decide +kernel
theorem d188_344 : dc 188 344 = some (.bipush 20, 346) := by decide +kernel
theorem d188_346 : dc 188 346 = some (.newarray .int, 348) := by decide +kernel
theorem d188_348 : dc 188 348 = some (.dstore 1723, 351) := by decide +kernel
theorem d188_351 : dc 188 351 = some (.aload_n 0, 352) := by decide +kernel
theorem d188_352 : dc 188 352 = some (.bipush 20, 354) := by decide +kernel
theorem d188_354 : dc 188 354 = some (.newarray .int, 356) := by decide +kernel
theorem d188_356 : dc 188 356 = some (.dstore 1724, 359) := by decide +kernel
theorem d188_359 : dc 188 359 = some (.aload_n 0, 360) := by decide +kernel
theorem d188_360 : dc 188 360 = some (.bipush 20, 362) := by decide +kernel
theorem d188_362 : dc 188 362 = some (.newarray .int, 364) := by decide +kernel
theorem d188_364 : dc 188 364 = some (.dstore 1725, 367) := by decide +kernel
theorem d188_367 : dc 188 367 = some (.aload_n 0, 368) := by decide +kernel
theorem d188_368 : dc 188 368 = some (.iconst 5, 369) := by decide +kernel
theorem d188_369 : dc 188 369 = some (.newarray .int, 371) := by decide +kernel
theorem d188_371 : dc 188 371 = some (.dstore 1726, 374) := by decide +kernel
theorem d188_374 : dc 188 374 = some (.aload_n 0, 375) := by decide +kernel
theorem d188_375 : dc 188 375 = some (.iconst 5, 376) := by decide +kernel
theorem d188_376 : dc 188 376 = some (.newarray .boolean, 378) := by decide +kernel
theorem d188_378 : dc 188 378 = some (.dstore 1727, 381) := by decide +kernel
theorem d188_381 : dc 188 381 = some (.aload_n 0, 382) := by decide +kernel
theorem d188_382 : dc 188 382 = some (.sipush 4000, 385) := by decide +kernel
theorem d188_385 : dc 188 385 = some (.newarray .int, 387) := by decide +kernel
theorem d188_387 : dc 188 387 = some (.dstore 1728, 390) := by decide +kernel
theorem d188_390 : dc 188 390 = some (.aload_n 0, 391) := by decide +kernel
theorem d188_391 : dc 188 391 = some (.sipush 20020, 394) := by decide +kernel
theorem d188_394 : dc 188 394 = some (.newarray .int, 396) := by decide +kernel
theorem d188_396 : dc 188 396 = some (.dstore 1730, 399) := by decide +kernel
theorem d188_399 : dc 188 399 = some (.aload_n 0, 400) := by decide +kernel
theorem d188_400 : dc 188 400 = some (.sipush 20000, 403) := by decide +kernel
theorem d188_403 : dc 188 403 = some (.newarray .int, 405) := by decide +kernel
theorem d188_405 : dc 188 405 = some (.dstore 1732, 408) := by decide +kernel
theorem d188_408 : dc 188 408 = some (.aload_n 0, 409) := by decide +kernel
theorem d188_409 : dc 188 409 = some (.sipush 2048, 412) := by decide +kernel
theorem d188_412 : dc 188 412 = some (.newarray .int, 414) := by decide +kernel
theorem d188_414 : dc 188 414 = some (.dstore 1734, 417) := by decide +kernel
theorem d188_417 : dc 188 417 = some (.aload_n 0, 418) := by decide +kernel
theorem d188_418 : dc 188 418 = some (.iconst (-1), 419) := by decide +kernel
theorem d188_419 : dc 188 419 = some (.putfield 1737, 422) := by decide +kernel
theorem d188_422 : dc 188 422 = some (.aload_n 0, 423) := by decide +kernel
theorem d188_423 : dc 188 423 = some (.iconst 5, 424) := by decide +kernel
theorem d188_424 : dc 188 424 = some (.newarray .int, 426) := by decide +kernel
theorem d188_426 : dc 188 426 = some (.dstore 1741, 429) := by decide +kernel
theorem d188_429 : dc 188 429 = some (.aload_n 0, 430) := by decide +kernel
theorem d188_430 : dc 188 430 = some (.bipush 6, 432) := by decide +kernel
theorem d188_432 : dc 188 432 = some (.newarray .boolean, 434) := by decide +kernel
theorem d188_434 : dc 188 434 = some (.dstore 1753, 437) := by decide +kernel
theorem d188_437 : dc 188 437 = some (.aload_n 0, 438) := by decide +kernel
theorem d188_438 : dc 188 438 = some (.bipush 6, 440) := by decide +kernel
theorem d188_440 : dc 188 440 = some (.newarray .int, 442) := by decide +kernel
theorem d188_442 : dc 188 442 = some (.dstore 1754, 445) := by decide +kernel
theorem d188_445 : dc 188 445 = some (.aload_n 0, 446) := by decide +kernel
theorem d188_446 : dc 188 446 = some (.bipush 6, 448) := by decide +kernel
theorem d188_448 : dc 188 448 = some (.newarray .int, 450) := by decide +kernel
theorem d188_450 : dc 188 450 = some (.dstore 1755, 453) := by decide +kernel
theorem d188_453 : dc 188 453 = some (.aload_n 0, 454) := by decide +kernel
theorem d188_454 : dc 188 454 = some (.sipush 20000, 457) := by decide +kernel
theorem d188_457 : dc 188 457 = some (.newarray .int, 459) := by decide +kernel
theorem d188_459 : dc 188 459 = some (.dstore 1759, 462) := by decide +kernel
theorem d188_462 : dc 188 462 = some (.aload_n 0, 463) := by decide +kernel
theorem d188_463 : dc 188 463 = some (.sipush 20000, 466) := by decide +kernel
theorem d188_466 : dc 188 466 = some (.newarray .int, 468) := by decide +kernel
theorem d188_468 : dc 188 468 = some (.dstore 1762, 471) := by decide +kernel
theorem d188_471 : dc 188 471 = some (.aload_n 0, 472) := by decide +kernel
theorem d188_472 : dc 188 472 = some (.sipush 20000, 475) := by decide +kernel
theorem d188_475 : dc 188 475 = some (.newarray .int, 477) := by decide +kernel
theorem d188_477 : dc 188 477 = some (.dstore 1763, 480) := by decide +kernel
theorem d188_480 : dc 188 480 = some (.aload_n 0, 481) := by decide +kernel
theorem d188_481 : dc 188 481 = some (.invokevirtual 192, 484) := by decide +kernel
theorem d188_484 : dc 188 484 = some (.return_, 485) := by decide +kernel
theorem i_Mod {G : Nat → Option Nat} {d : Nat} (h1 : 3 ≤ d) {h0 : Hp} {p s0 : Nat} {Q : Option MV → Hp → Prop} (B0 : Bl 14 0 p s0 (ronE 14 0) [] (fun _ => none) (fun _ => 0) (fun _ => 0) h0) (kk : ∀ h', Bl 14 0 p s0 tModel [] (fun _ => none) (iF 14) (fun _ => 0) h' → Fx (fun x => p ≤ x) h0 h' → Cl G (d - 1) 192 [vR (some p)] h' (fun r h2 => Wp G d 188 484 [some (vR (some p))] (r.toList ++ []) h2 Q)) : Cl G d 188 [vR (some p)] h0 Q := by
  have F0 : Fx (fun x => p ≤ x) h0 h0 := Fx.refl
  show Wp G d 188 0 [some (vR (some p))] [] h0 Q
  refine w_aload_n d188_0 rfl ?_
  refine w_objinit d188_1 ⟨by rw [B0.kp]; decide, Nat.zero_le _, by omega⟩ ?_
  refine w_aload_n d188_4 rfl ?_
  refine w_new d188_5 (by decide) ?_
  refine w_dupR d188_8 ?_
  refine w_callv1 d188_9 (by omega) rfl ((KD_nO _ _).trans (by decide)) (by simp) (Nat.le_of_ble_eq_true rfl) ?_
  refine i_Dfs (by omega) _ _ _ _ (Bl.nO h0 11 (by decide) _) (fun hq bq fq xq => ?_)
  refine c_dst B0 (fq.made (fun _ z => z)) bq (fun _ => rfl) (iA_no (by decide)) d188_12 ⟨by decide, by decide⟩ (by decide +kernel) (by decide) (fun h1 B1 g1 e1 => ?_)
  have F1 := F0.tr (g1.any (fun x e => by omega))
  clear g1 e1
  refine w_aload_n d188_15 rfl ?_
  refine w_new d188_16 (by decide) ?_
  refine w_dupR d188_19 ?_
  refine w_callv1 d188_20 (by omega) rfl ((KD_nO _ _).trans (by decide)) (by simp) (Nat.le_of_ble_eq_true rfl) ?_
  refine i_Dfs (by omega) _ _ _ _ (Bl.nO h1 11 (by decide) _) (fun hq bq fq xq => ?_)
  refine c_dst B1 (fq.made (fun _ z => z)) bq (fun _ => rfl) (iA_no (by decide)) d188_23 ⟨by decide, by decide⟩ (by decide +kernel) (by decide) (fun h2 B2 g2 e2 => ?_)
  have F2 := F1.tr (g2.any (fun x e => by omega))
  clear g2 e2
  refine w_aload_n d188_26 rfl ?_
  refine w_bipush d188_27 (by decide) ?_
  refine w_newarray d188_29 ⟨by decide, by decide⟩ ?_
  refine c_dst B2 (Fx.nA h2 42 14) (Bl.nA h2 42 14 (by decide) (fun _ => none)) (iF_40 (by decide)) (iA_no (by decide)) d188_31 ⟨by decide, by decide⟩ (by decide +kernel) (by decide) (fun h3 B3 g3 e3 => ?_)
  have F3 := F2.tr (g3.any (fun x e => by omega))
  clear g3 e3
  refine w_aload_n d188_34 rfl ?_
  refine w_bipush d188_35 (by decide) ?_
  refine w_calls1 d188_37 (by omega) rfl rfl (by simp) (Nat.le_of_ble_eq_true rfl) ?_
  refine i_rows (n := 14) (by decide) (by omega) (fun hq bq fq => ?_)
  refine c_dst B3 fq bq (iF_40 (by decide)) (iA_no (by decide)) d188_40 ⟨by decide, by decide⟩ (by decide +kernel) (by decide) (fun h4 B4 g4 e4 => ?_)
  have F4 := F3.tr (g4.any (fun x e => by omega))
  clear g4 e4
  refine w_aload_n d188_43 rfl ?_
  refine w_bipush d188_44 (by decide) ?_
  refine w_calls1 d188_46 (by omega) rfl rfl (by simp) (Nat.le_of_ble_eq_true rfl) ?_
  refine i_rows (n := 14) (by decide) (by omega) (fun hq bq fq => ?_)
  refine c_dst B4 fq bq (iF_40 (by decide)) (iA_no (by decide)) d188_49 ⟨by decide, by decide⟩ (by decide +kernel) (by decide) (fun h5 B5 g5 e5 => ?_)
  have F5 := F4.tr (g5.any (fun x e => by omega))
  clear g5 e5
  refine w_aload_n d188_52 rfl ?_
  refine w_bipush d188_53 (by decide) ?_
  refine w_calls1 d188_55 (by omega) rfl rfl (by simp) (Nat.le_of_ble_eq_true rfl) ?_
  refine i_rows (n := 14) (by decide) (by omega) (fun hq bq fq => ?_)
  refine c_dst B5 fq bq (iF_40 (by decide)) (iA_no (by decide)) d188_58 ⟨by decide, by decide⟩ (by decide +kernel) (by decide) (fun h6 B6 g6 e6 => ?_)
  have F6 := F5.tr (g6.any (fun x e => by omega))
  clear g6 e6
  refine w_aload_n d188_61 rfl ?_
  refine w_bipush d188_62 (by decide) ?_
  refine w_newarray d188_64 ⟨by decide, by decide⟩ ?_
  refine c_dst B6 (Fx.nA h6 44 98) (Bl.nA h6 44 98 (by decide) (fun _ => none)) (iF_40 (by decide)) (iA_no (by decide)) d188_66 ⟨by decide, by decide⟩ (by decide +kernel) (by decide) (fun h7 B7 g7 e7 => ?_)
  have F7 := F6.tr (g7.any (fun x e => by omega))
  clear g7 e7
  refine w_aload_n d188_69 rfl ?_
  refine w_bipush d188_70 (by decide) ?_
  refine w_newarray d188_72 ⟨by decide, by decide⟩ ?_
  refine c_dst B7 (Fx.nA h7 40 14) (Bl.nA h7 40 14 (by decide) (fun _ => none)) (iF_40 (by decide)) (iA_no (by decide)) d188_74 ⟨by decide, by decide⟩ (by decide +kernel) (by decide) (fun h8 B8 g8 e8 => ?_)
  have F8 := F7.tr (g8.any (fun x e => by omega))
  clear g8 e8
  refine w_aload_n d188_77 rfl ?_
  refine w_bipush d188_78 (by decide) ?_
  refine w_newarray d188_80 ⟨by decide, by decide⟩ ?_
  refine c_dst B8 (Fx.nA h8 40 14) (Bl.nA h8 40 14 (by decide) (fun _ => none)) (iF_40 (by decide)) (iA_no (by decide)) d188_82 ⟨by decide, by decide⟩ (by decide +kernel) (by decide) (fun h9 B9 g9 e9 => ?_)
  have F9 := F8.tr (g9.any (fun x e => by omega))
  clear g9 e9
  refine w_aload_n d188_85 rfl ?_
  refine w_bipush d188_86 (by decide) ?_
  refine w_newarray d188_88 ⟨by decide, by decide⟩ ?_
  refine c_dst B9 (Fx.nA h9 40 14) (Bl.nA h9 40 14 (by decide) (fun _ => none)) (iF_40 (by decide)) (iA_no (by decide)) d188_90 ⟨by decide, by decide⟩ (by decide +kernel) (by decide) (fun h10 B10 g10 e10 => ?_)
  have F10 := F9.tr (g10.any (fun x e => by omega))
  clear g10 e10
  refine w_aload_n d188_93 rfl ?_
  refine w_bipush d188_94 (by decide) ?_
  refine w_newarray d188_96 ⟨by decide, by decide⟩ ?_
  refine c_dst B10 (Fx.nA h10 42 14) (Bl.nA h10 42 14 (by decide) (fun _ => none)) (iF_40 (by decide)) (iA_no (by decide)) d188_98 ⟨by decide, by decide⟩ (by decide +kernel) (by decide) (fun h11 B11 g11 e11 => ?_)
  have F11 := F10.tr (g11.any (fun x e => by omega))
  clear g11 e11
  refine w_aload_n d188_101 rfl ?_
  refine w_bipush d188_102 (by decide) ?_
  refine w_calls1 d188_104 (by omega) rfl rfl (by simp) (Nat.le_of_ble_eq_true rfl) ?_
  refine i_rows (n := 14) (by decide) (by omega) (fun hq bq fq => ?_)
  refine c_dst B11 fq bq (iF_40 (by decide)) (iA_no (by decide)) d188_107 ⟨by decide, by decide⟩ (by decide +kernel) (by decide) (fun h12 B12 g12 e12 => ?_)
  have F12 := F11.tr (g12.any (fun x e => by omega))
  clear g12 e12
  refine w_aload_n d188_110 rfl ?_
  refine w_bipush d188_111 (by decide) ?_
  refine w_newarray d188_113 ⟨by decide, by decide⟩ ?_
  refine c_dst B12 (Fx.nA h12 40 42) (Bl.nA h12 40 42 (by decide) (fun _ => none)) (iF_40 (by decide)) (iA_no (by decide)) d188_115 ⟨by decide, by decide⟩ (by decide +kernel) (by decide) (fun h13 B13 g13 e13 => ?_)
  have F13 := F12.tr (g13.any (fun x e => by omega))
  clear g13 e13
  refine w_aload_n d188_118 rfl ?_
  refine w_bipush d188_119 (by decide) ?_
  refine w_newarray d188_121 ⟨by decide, by decide⟩ ?_
  refine c_dst B13 (Fx.nA h13 44 7) (Bl.nA h13 44 7 (by decide) (fun _ => none)) (iF_40 (by decide)) (iA_no (by decide)) d188_123 ⟨by decide, by decide⟩ (by decide +kernel) (by decide) (fun h14 B14 g14 e14 => ?_)
  have F14 := F13.tr (g14.any (fun x e => by omega))
  clear g14 e14
  refine w_aload_n d188_126 rfl ?_
  refine w_sipush d188_127 (by decide) ?_
  refine w_newarray d188_130 ⟨by decide, by decide⟩ ?_
  refine c_dst B14 (Fx.nA h14 40 3600) (Bl.nA h14 40 3600 (by decide) (fun _ => none)) (iF_40 (by decide)) (iA_no (by decide)) d188_132 ⟨by decide, by decide⟩ (by decide +kernel) (by decide) (fun h15 B15 g15 e15 => ?_)
  have F15 := F14.tr (g15.any (fun x e => by omega))
  clear g15 e15
  refine w_aload_n d188_135 rfl ?_
  refine w_new d188_136 (by decide) ?_
  refine w_dupR d188_139 ?_
  refine w_callv1 d188_140 (by omega) rfl ((KD_nO _ _).trans (by decide)) (by simp) (Nat.le_of_ble_eq_true rfl) ?_
  refine i_Ou (by omega) _ _ _ _ (Bl.nO h15 12 (by decide) _) (fun hq bq fq xq => ?_)
  refine c_dst B15 (fq.made (fun _ z => z)) bq (fun _ => rfl) (iA_no (by decide)) d188_143 ⟨by decide, by decide⟩ (by decide +kernel) (by decide) (fun h16 B16 g16 e16 => ?_)
  have F16 := F15.tr (g16.any (fun x e => by omega))
  clear g16 e16
  refine w_aload_n d188_146 rfl ?_
  refine w_bipush d188_147 (by decide) ?_
  refine w_newarray d188_149 ⟨by decide, by decide⟩ ?_
  refine c_dst B16 (Fx.nA h16 40 7) (Bl.nA h16 40 7 (by decide) (fun _ => none)) (iF_40 (by decide)) (iA_no (by decide)) d188_151 ⟨by decide, by decide⟩ (by decide +kernel) (by decide) (fun h17 B17 g17 e17 => ?_)
  have F17 := F16.tr (g17.any (fun x e => by omega))
  clear g17 e17
  refine w_aload_n d188_154 rfl ?_
  refine w_sipush d188_155 (by decide) ?_
  refine w_newarray d188_158 ⟨by decide, by decide⟩ ?_
  refine c_dst B17 (Fx.nA h17 40 3601) (Bl.nA h17 40 3601 (by decide) (fun _ => none)) (iF_40 (by decide)) (iA_no (by decide)) d188_160 ⟨by decide, by decide⟩ (by decide +kernel) (by decide) (fun h18 B18 g18 e18 => ?_)
  have F18 := F17.tr (g18.any (fun x e => by omega))
  clear g18 e18
  refine w_aload_n d188_163 rfl ?_
  refine w_sipush d188_164 (by decide) ?_
  refine w_newarray d188_167 ⟨by decide, by decide⟩ ?_
  refine c_dst B18 (Fx.nA h18 40 3601) (Bl.nA h18 40 3601 (by decide) (fun _ => none)) (iF_40 (by decide)) (iA_no (by decide)) d188_169 ⟨by decide, by decide⟩ (by decide +kernel) (by decide) (fun h19 B19 g19 e19 => ?_)
  have F19 := F18.tr (g19.any (fun x e => by omega))
  clear g19 e19
  refine w_aload_n d188_172 rfl ?_
  refine w_sipush d188_173 (by decide) ?_
  refine w_newarray d188_176 ⟨by decide, by decide⟩ ?_
  refine c_dst B19 (Fx.nA h19 40 1300) (Bl.nA h19 40 1300 (by decide) (fun _ => none)) (iF_40 (by decide)) (iA_no (by decide)) d188_178 ⟨by decide, by decide⟩ (by decide +kernel) (by decide) (fun h20 B20 g20 e20 => ?_)
  have F20 := F19.tr (g20.any (fun x e => by omega))
  clear g20 e20
  refine w_aload_n d188_181 rfl ?_
  refine w_sipush d188_182 (by decide) ?_
  refine w_newarray d188_185 ⟨by decide, by decide⟩ ?_
  refine c_dst B20 (Fx.nA h20 40 1300) (Bl.nA h20 40 1300 (by decide) (fun _ => none)) (iF_40 (by decide)) (iA_no (by decide)) d188_187 ⟨by decide, by decide⟩ (by decide +kernel) (by decide) (fun h21 B21 g21 e21 => ?_)
  have F21 := F20.tr (g21.any (fun x e => by omega))
  clear g21 e21
  refine w_aload_n d188_190 rfl ?_
  refine w_sipush d188_191 (by decide) ?_
  refine w_newarray d188_194 ⟨by decide, by decide⟩ ?_
  refine c_dst B21 (Fx.nA h21 40 1300) (Bl.nA h21 40 1300 (by decide) (fun _ => none)) (iF_40 (by decide)) (iA_no (by decide)) d188_196 ⟨by decide, by decide⟩ (by decide +kernel) (by decide) (fun h22 B22 g22 e22 => ?_)
  have F22 := F21.tr (g22.any (fun x e => by omega))
  clear g22 e22
  refine w_aload_n d188_199 rfl ?_
  refine w_sipush d188_200 (by decide) ?_
  refine w_newarray d188_203 ⟨by decide, by decide⟩ ?_
  refine c_dst B22 (Fx.nA h22 42 1300) (Bl.nA h22 42 1300 (by decide) (fun _ => none)) (iF_40 (by decide)) (iA_no (by decide)) d188_205 ⟨by decide, by decide⟩ (by decide +kernel) (by decide) (fun h23 B23 g23 e23 => ?_)
  have F23 := F22.tr (g23.any (fun x e => by omega))
  clear g23 e23
  refine w_aload_n d188_208 rfl ?_
  refine w_sipush d188_209 (by decide) ?_
  refine w_newarray d188_212 ⟨by decide, by decide⟩ ?_
  refine c_dst B23 (Fx.nA h23 40 1300) (Bl.nA h23 40 1300 (by decide) (fun _ => none)) (iF_40 (by decide)) (iA_no (by decide)) d188_214 ⟨by decide, by decide⟩ (by decide +kernel) (by decide) (fun h24 B24 g24 e24 => ?_)
  have F24 := F23.tr (g24.any (fun x e => by omega))
  clear g24 e24
  refine w_aload_n d188_217 rfl ?_
  refine w_sipush d188_218 (by decide) ?_
  refine w_newarray d188_221 ⟨by decide, by decide⟩ ?_
  refine c_dst B24 (Fx.nA h24 40 1300) (Bl.nA h24 40 1300 (by decide) (fun _ => none)) (iF_40 (by decide)) (iA_no (by decide)) d188_223 ⟨by decide, by decide⟩ (by decide +kernel) (by decide) (fun h25 B25 g25 e25 => ?_)
  have F25 := F24.tr (g25.any (fun x e => by omega))
  clear g25 e25
  refine w_aload_n d188_226 rfl ?_
  refine w_sipush d188_227 (by decide) ?_
  refine w_newarray d188_230 ⟨by decide, by decide⟩ ?_
  refine c_dst B25 (Fx.nA h25 40 1300) (Bl.nA h25 40 1300 (by decide) (fun _ => none)) (iF_40 (by decide)) (iA_no (by decide)) d188_232 ⟨by decide, by decide⟩ (by decide +kernel) (by decide) (fun h26 B26 g26 e26 => ?_)
  have F26 := F25.tr (g26.any (fun x e => by omega))
  clear g26 e26
  refine w_aload_n d188_235 rfl ?_
  refine w_bipush d188_236 (by decide) ?_
  refine w_newarray d188_238 ⟨by decide, by decide⟩ ?_
  refine c_dst B26 (Fx.nA h26 44 24) (Bl.nA h26 44 24 (by decide) (fun _ => none)) (iF_40 (by decide)) (iA_no (by decide)) d188_240 ⟨by decide, by decide⟩ (by decide +kernel) (by decide) (fun h27 B27 g27 e27 => ?_)
  have F27 := F26.tr (g27.any (fun x e => by omega))
  clear g27 e27
  refine w_aload_n d188_243 rfl ?_
  refine w_bipush d188_244 (by decide) ?_
  refine w_calls1 d188_246 (by omega) rfl rfl (by simp) (Nat.le_of_ble_eq_true rfl) ?_
  refine i_rows (n := 24) (by decide) (by omega) (fun hq bq fq => ?_)
  refine c_dst B27 fq bq (iF_40 (by decide)) (iA_no (by decide)) d188_249 ⟨by decide, by decide⟩ (by decide +kernel) (by decide) (fun h28 B28 g28 e28 => ?_)
  have F28 := F27.tr (g28.any (fun x e => by omega))
  clear g28 e28
  refine w_aload_n d188_252 rfl ?_
  refine w_bipush d188_253 (by decide) ?_
  refine w_newarray d188_255 ⟨by decide, by decide⟩ ?_
  refine c_dst B28 (Fx.nA h28 40 14) (Bl.nA h28 40 14 (by decide) (fun _ => none)) (iF_40 (by decide)) (iA_no (by decide)) d188_257 ⟨by decide, by decide⟩ (by decide +kernel) (by decide) (fun h29 B29 g29 e29 => ?_)
  have F29 := F28.tr (g29.any (fun x e => by omega))
  clear g29 e29
  refine w_aload_n d188_260 rfl ?_
  refine w_bipush d188_261 (by decide) ?_
  refine w_newarray d188_263 ⟨by decide, by decide⟩ ?_
  refine c_dst B29 (Fx.nA h29 40 14) (Bl.nA h29 40 14 (by decide) (fun _ => none)) (iF_40 (by decide)) (iA_no (by decide)) d188_265 ⟨by decide, by decide⟩ (by decide +kernel) (by decide) (fun h30 B30 g30 e30 => ?_)
  have F30 := F29.tr (g30.any (fun x e => by omega))
  clear g30 e30
  refine w_aload_n d188_268 rfl ?_
  refine w_iconst d188_269 (by decide) ?_
  refine w_newarray d188_270 ⟨by decide, by decide⟩ ?_
  refine w_dupR d188_272 ?_
  refine w_iconst d188_273 (by decide) ?_
  refine w_iconst d188_274 (by decide) ?_
  refine w_iastore d188_275 ⟨KD_nA _ _ _, by show bnd 0 (LN (nwA h30 40 2) (NX h30)); rw [LN_nA]; decide⟩ ?_
  refine w_dupR d188_276 ?_
  refine w_iconst d188_277 (by decide) ?_
  refine w_iconst d188_278 (by decide) ?_
  refine w_iastore d188_279 ⟨KD_nA _ _ _, by show bnd 1 (LN (nwA h30 40 2) (NX h30)); rw [LN_nA]; decide⟩ ?_
  refine c_dst B30 (Fx.hold h30) (Bl.hold h30 (fun _ => none)) (iF_40 (by decide)) (iA_at (by decide)) d188_280 ⟨by decide, by decide⟩ (by decide +kernel) (by decide) (fun h31 B31 g31 e31 => ?_)
  have F31 := F30.tr (g31.any (fun x e => by omega))
  clear g31 e31
  refine w_aload_n d188_283 rfl ?_
  refine w_iconst d188_284 (by decide) ?_
  refine w_newarray d188_285 ⟨by decide, by decide⟩ ?_
  refine c_dst B31 (Fx.nA h31 40 2) (Bl.nA h31 40 2 (by decide) (fun _ => none)) (iF_40 (by decide)) (iA_no (by decide)) d188_287 ⟨by decide, by decide⟩ (by decide +kernel) (by decide) (fun h32 B32 g32 e32 => ?_)
  have F32 := F31.tr (g32.any (fun x e => by omega))
  clear g32 e32
  refine w_aload_n d188_290 rfl ?_
  refine w_iconst d188_291 (by decide) ?_
  refine w_newarray d188_292 ⟨by decide, by decide⟩ ?_
  refine c_dst B32 (Fx.nA h32 40 2) (Bl.nA h32 40 2 (by decide) (fun _ => none)) (iF_40 (by decide)) (iA_no (by decide)) d188_294 ⟨by decide, by decide⟩ (by decide +kernel) (by decide) (fun h33 B33 g33 e33 => ?_)
  have F33 := F32.tr (g33.any (fun x e => by omega))
  clear g33 e33
  refine w_aload_n d188_297 rfl ?_
  refine w_iconst d188_298 (by decide) ?_
  refine w_calls1 d188_299 (by omega) rfl rfl (by simp) (Nat.le_of_ble_eq_true rfl) ?_
  refine i_rows (n := 2) (by decide) (by omega) (fun hq bq fq => ?_)
  refine c_dst B33 fq bq (iF_40 (by decide)) (iA_no (by decide)) d188_302 ⟨by decide, by decide⟩ (by decide +kernel) (by decide) (fun h34 B34 g34 e34 => ?_)
  have F34 := F33.tr (g34.any (fun x e => by omega))
  clear g34 e34
  refine w_aload_n d188_305 rfl ?_
  refine w_iconst d188_306 (by decide) ?_
  refine w_newarray d188_307 ⟨by decide, by decide⟩ ?_
  refine c_dst B34 (Fx.nA h34 44 2) (Bl.nA h34 44 2 (by decide) (fun _ => none)) (iF_40 (by decide)) (iA_no (by decide)) d188_309 ⟨by decide, by decide⟩ (by decide +kernel) (by decide) (fun h35 B35 g35 e35 => ?_)
  have F35 := F34.tr (g35.any (fun x e => by omega))
  clear g35 e35
  refine w_aload_n d188_312 rfl ?_
  refine w_bipush d188_313 (by decide) ?_
  refine w_newarray d188_315 ⟨by decide, by decide⟩ ?_
  refine c_dst B35 (Fx.nA h35 44 14) (Bl.nA h35 44 14 (by decide) (fun _ => none)) (iF_40 (by decide)) (iA_no (by decide)) d188_317 ⟨by decide, by decide⟩ (by decide +kernel) (by decide) (fun h36 B36 g36 e36 => ?_)
  have F36 := F35.tr (g36.any (fun x e => by omega))
  clear g36 e36
  refine w_aload_n d188_320 rfl ?_
  refine w_iconst d188_321 (by decide) ?_
  refine w_newarray d188_322 ⟨by decide, by decide⟩ ?_
  refine c_dst B36 (Fx.nA h36 40 2) (Bl.nA h36 40 2 (by decide) (fun _ => none)) (iF_40 (by decide)) (iA_no (by decide)) d188_324 ⟨by decide, by decide⟩ (by decide +kernel) (by decide) (fun h37 B37 g37 e37 => ?_)
  have F37 := F36.tr (g37.any (fun x e => by omega))
  clear g37 e37
  refine w_aload_n d188_327 rfl ?_
  refine w_bipush d188_328 (by decide) ?_
  refine w_newarray d188_330 ⟨by decide, by decide⟩ ?_
  refine c_dst B37 (Fx.nA h37 40 20) (Bl.nA h37 40 20 (by decide) (fun _ => none)) (iF_40 (by decide)) (iA_no (by decide)) d188_332 ⟨by decide, by decide⟩ (by decide +kernel) (by decide) (fun h38 B38 g38 e38 => ?_)
  have F38 := F37.tr (g38.any (fun x e => by omega))
  clear g38 e38
  refine w_aload_n d188_335 rfl ?_
  refine w_bipush d188_336 (by decide) ?_
  refine w_newarray d188_338 ⟨by decide, by decide⟩ ?_
  refine c_dst B38 (Fx.nA h38 40 20) (Bl.nA h38 40 20 (by decide) (fun _ => none)) (iF_40 (by decide)) (iA_no (by decide)) d188_340 ⟨by decide, by decide⟩ (by decide +kernel) (by decide) (fun h39 B39 g39 e39 => ?_)
  have F39 := F38.tr (g39.any (fun x e => by omega))
  clear g39 e39
  refine w_aload_n d188_343 rfl ?_
  refine w_bipush d188_344 (by decide) ?_
  refine w_newarray d188_346 ⟨by decide, by decide⟩ ?_
  refine c_dst B39 (Fx.nA h39 40 20) (Bl.nA h39 40 20 (by decide) (fun _ => none)) (iF_40 (by decide)) (iA_no (by decide)) d188_348 ⟨by decide, by decide⟩ (by decide +kernel) (by decide) (fun h40 B40 g40 e40 => ?_)
  have F40 := F39.tr (g40.any (fun x e => by omega))
  clear g40 e40
  refine w_aload_n d188_351 rfl ?_
  refine w_bipush d188_352 (by decide) ?_
  refine w_newarray d188_354 ⟨by decide, by decide⟩ ?_
  refine c_dst B40 (Fx.nA h40 40 20) (Bl.nA h40 40 20 (by decide) (fun _ => none)) (iF_40 (by decide)) (iA_no (by decide)) d188_356 ⟨by decide, by decide⟩ (by decide +kernel) (by decide) (fun h41 B41 g41 e41 => ?_)
  have F41 := F40.tr (g41.any (fun x e => by omega))
  clear g41 e41
  refine w_aload_n d188_359 rfl ?_
  refine w_bipush d188_360 (by decide) ?_
  refine w_newarray d188_362 ⟨by decide, by decide⟩ ?_
  refine c_dst B41 (Fx.nA h41 40 20) (Bl.nA h41 40 20 (by decide) (fun _ => none)) (iF_40 (by decide)) (iA_no (by decide)) d188_364 ⟨by decide, by decide⟩ (by decide +kernel) (by decide) (fun h42 B42 g42 e42 => ?_)
  have F42 := F41.tr (g42.any (fun x e => by omega))
  clear g42 e42
  refine w_aload_n d188_367 rfl ?_
  refine w_iconst d188_368 (by decide) ?_
  refine w_newarray d188_369 ⟨by decide, by decide⟩ ?_
  refine c_dst B42 (Fx.nA h42 40 5) (Bl.nA h42 40 5 (by decide) (fun _ => none)) (iF_40 (by decide)) (iA_no (by decide)) d188_371 ⟨by decide, by decide⟩ (by decide +kernel) (by decide) (fun h43 B43 g43 e43 => ?_)
  have F43 := F42.tr (g43.any (fun x e => by omega))
  clear g43 e43
  refine w_aload_n d188_374 rfl ?_
  refine w_iconst d188_375 (by decide) ?_
  refine w_newarray d188_376 ⟨by decide, by decide⟩ ?_
  refine c_dst B43 (Fx.nA h43 42 5) (Bl.nA h43 42 5 (by decide) (fun _ => none)) (iF_40 (by decide)) (iA_no (by decide)) d188_378 ⟨by decide, by decide⟩ (by decide +kernel) (by decide) (fun h44 B44 g44 e44 => ?_)
  have F44 := F43.tr (g44.any (fun x e => by omega))
  clear g44 e44
  refine w_aload_n d188_381 rfl ?_
  refine w_sipush d188_382 (by decide) ?_
  refine w_newarray d188_385 ⟨by decide, by decide⟩ ?_
  refine c_dst B44 (Fx.nA h44 40 4000) (Bl.nA h44 40 4000 (by decide) (fun _ => none)) (iF_40 (by decide)) (iA_no (by decide)) d188_387 ⟨by decide, by decide⟩ (by decide +kernel) (by decide) (fun h45 B45 g45 e45 => ?_)
  have F45 := F44.tr (g45.any (fun x e => by omega))
  clear g45 e45
  refine w_aload_n d188_390 rfl ?_
  refine w_sipush d188_391 (by decide) ?_
  refine w_newarray d188_394 ⟨by decide, by decide⟩ ?_
  refine c_dst B45 (Fx.nA h45 40 20020) (Bl.nA h45 40 20020 (by decide) (fun _ => none)) (iF_40 (by decide)) (iA_no (by decide)) d188_396 ⟨by decide, by decide⟩ (by decide +kernel) (by decide) (fun h46 B46 g46 e46 => ?_)
  have F46 := F45.tr (g46.any (fun x e => by omega))
  clear g46 e46
  refine w_aload_n d188_399 rfl ?_
  refine w_sipush d188_400 (by decide) ?_
  refine w_newarray d188_403 ⟨by decide, by decide⟩ ?_
  refine c_dst B46 (Fx.nA h46 40 20000) (Bl.nA h46 40 20000 (by decide) (fun _ => none)) (iF_40 (by decide)) (iA_no (by decide)) d188_405 ⟨by decide, by decide⟩ (by decide +kernel) (by decide) (fun h47 B47 g47 e47 => ?_)
  have F47 := F46.tr (g47.any (fun x e => by omega))
  clear g47 e47
  refine w_aload_n d188_408 rfl ?_
  refine w_sipush d188_409 (by decide) ?_
  refine w_newarray d188_412 ⟨by decide, by decide⟩ ?_
  refine c_dst B47 (Fx.nA h47 40 2048) (Bl.nA h47 40 2048 (by decide) (fun _ => none)) (iF_40 (by decide)) (iA_no (by decide)) d188_414 ⟨by decide, by decide⟩ (by decide +kernel) (by decide) (fun h48 B48 g48 e48 => ?_)
  have F48 := F47.tr (g48.any (fun x e => by omega))
  clear g48 e48
  refine w_aload_n d188_417 rfl ?_
  refine w_iconst d188_418 (by decide) ?_
  refine w_putfield d188_419 ⟨B48.kp.trans (by decide), by decide⟩ ?_
  obtain ⟨B49, g49⟩ := B48.si 1737 (-1)
  have F49 := F48.tr (g49.any (fun x e => by omega))
  generalize sFI h48 1737 p (-1) = h49 at B49 g49 F49 ⊢
  refine w_aload_n d188_422 rfl ?_
  refine w_iconst d188_423 (by decide) ?_
  refine w_newarray d188_424 ⟨by decide, by decide⟩ ?_
  refine c_dst B49 (Fx.nA h49 40 5) (Bl.nA h49 40 5 (by decide) (fun _ => none)) (iF_40 (by decide)) (iA_no (by decide)) d188_426 ⟨by decide, by decide⟩ (by decide +kernel) (by decide) (fun h50 B50 g50 e50 => ?_)
  have F50 := F49.tr (g50.any (fun x e => by omega))
  clear g50 e50
  refine w_aload_n d188_429 rfl ?_
  refine w_bipush d188_430 (by decide) ?_
  refine w_newarray d188_432 ⟨by decide, by decide⟩ ?_
  refine c_dst B50 (Fx.nA h50 42 6) (Bl.nA h50 42 6 (by decide) (fun _ => none)) (iF_40 (by decide)) (iA_no (by decide)) d188_434 ⟨by decide, by decide⟩ (by decide +kernel) (by decide) (fun h51 B51 g51 e51 => ?_)
  have F51 := F50.tr (g51.any (fun x e => by omega))
  clear g51 e51
  refine w_aload_n d188_437 rfl ?_
  refine w_bipush d188_438 (by decide) ?_
  refine w_newarray d188_440 ⟨by decide, by decide⟩ ?_
  refine c_dst B51 (Fx.nA h51 40 6) (Bl.nA h51 40 6 (by decide) (fun _ => none)) (iF_40 (by decide)) (iA_no (by decide)) d188_442 ⟨by decide, by decide⟩ (by decide +kernel) (by decide) (fun h52 B52 g52 e52 => ?_)
  have F52 := F51.tr (g52.any (fun x e => by omega))
  clear g52 e52
  refine w_aload_n d188_445 rfl ?_
  refine w_bipush d188_446 (by decide) ?_
  refine w_newarray d188_448 ⟨by decide, by decide⟩ ?_
  refine c_dst B52 (Fx.nA h52 40 6) (Bl.nA h52 40 6 (by decide) (fun _ => none)) (iF_40 (by decide)) (iA_no (by decide)) d188_450 ⟨by decide, by decide⟩ (by decide +kernel) (by decide) (fun h53 B53 g53 e53 => ?_)
  have F53 := F52.tr (g53.any (fun x e => by omega))
  clear g53 e53
  refine w_aload_n d188_453 rfl ?_
  refine w_sipush d188_454 (by decide) ?_
  refine w_newarray d188_457 ⟨by decide, by decide⟩ ?_
  refine c_dst B53 (Fx.nA h53 40 20000) (Bl.nA h53 40 20000 (by decide) (fun _ => none)) (iF_40 (by decide)) (iA_no (by decide)) d188_459 ⟨by decide, by decide⟩ (by decide +kernel) (by decide) (fun h54 B54 g54 e54 => ?_)
  have F54 := F53.tr (g54.any (fun x e => by omega))
  clear g54 e54
  refine w_aload_n d188_462 rfl ?_
  refine w_sipush d188_463 (by decide) ?_
  refine w_newarray d188_466 ⟨by decide, by decide⟩ ?_
  refine c_dst B54 (Fx.nA h54 40 20000) (Bl.nA h54 40 20000 (by decide) (fun _ => none)) (iF_40 (by decide)) (iA_no (by decide)) d188_468 ⟨by decide, by decide⟩ (by decide +kernel) (by decide) (fun h55 B55 g55 e55 => ?_)
  have F55 := F54.tr (g55.any (fun x e => by omega))
  clear g55 e55
  refine w_aload_n d188_471 rfl ?_
  refine w_sipush d188_472 (by decide) ?_
  refine w_newarray d188_475 ⟨by decide, by decide⟩ ?_
  refine c_dst B55 (Fx.nA h55 40 20000) (Bl.nA h55 40 20000 (by decide) (fun _ => none)) (iF_40 (by decide)) (iA_no (by decide)) d188_477 ⟨by decide, by decide⟩ (by decide +kernel) (by decide) (fun h56 B56 g56 e56 => ?_)
  have F56 := F55.tr (g56.any (fun x e => by omega))
  clear g56 e56
  refine w_aload_n d188_480 rfl ?_
  refine w_callv1 d188_481 (by omega) rfl (B56.kp.trans (by decide)) (by simp) (Nat.le_of_ble_eq_true rfl) ?_
  exact kk _ ((B56.ri (iF_at (g := 1737) (by decide)) (fun _ => rfl)).dz) F56
