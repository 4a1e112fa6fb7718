/-! constructors of the class: request, session, house (written by wip/tools/m/mc02.py) -/
theorem Bl.nxl {kd ln p s0 n : Nat} {L : List ObE} {zs : List Nat} {zv : Nat → Option Nat} {rI rA : Nat → Int} {h : Hp} (B : Bl kd ln p s0 L zs zv rI rA h) (e : L.length = n) : NX h = p + n := by rw [B.1, e]
theorem d3_0 : dc 3 0 = some (.getstatic 41, 3) := by decide +kernel
theorem d3_3 : dc 3 3 = some (.invokestatic 1, 6) := by decide +kernel
theorem d3_6 : dc 3 6 = some (.checkcast 20, 9) := by decide +kernel
theorem d3_9 : dc 3 9 = some (.areturn, 10) := by decide +kernel
theorem i_vals {G : Nat → Option Nat} {d v : Nat} {h : Hp} {Q : Option MV → Hp → Prop} (hG : G 41 = some v) (hv : KD h v = 82) (h1 : 1 ≤ d) (kk : Q (some (vR (some (NX h)))) (nwC h v 75)) : Cl G d 3 [] h Q := by
  show Wp G d 3 0 [] [] h Q
  refine w_getstaticS d3_0 hG ?_
  refine w_clone d3_3 ⟨hv, Nat.zero_le _, h1⟩ ?_
  refine w_checkcast d3_6 ⟨rfl, if_pos rfl⟩ ?_
  exact w_areturn d3_9 kk
def tReq : List ObE := (putE (putE (putE (putE (putE (putE (ronE 5 0) 0 512 (tRow 4096)) 0 513 (ronE 75 35)) 0 517 (ronE 44 2)) 0 518 (ronE 44 2)) 0 520 (ronE 40 5)) 0 524 tDef)
theorem d2_0 : dc 2 0 = some (.aload_n 0, 1) := by decide +kernel
theorem d2_1 : dc 2 1 = some (.invokespecial 0, 4) := by decide +kernel
theorem d2_4 : dc 2 4 = some (.aload_n 0, 5) := by decide +kernel
theorem d2_5 : dc 2 5 = some (.new 5, 8) := by decide +kernel
theorem d2_8 : dc 2 8 = some (.dup, 9) := by decide +kernel
theorem d2_9 : dc 2 9 = some (.sipush 4096, 12) := by decide +kernel
theorem d2_12 : dc 2 12 = some (.invokevirtual 1, 15) := by decide +kernel
theorem d2_15 : dc 2 15 = some (.dstore 512, 18) := by decide +kernel
theorem d2_18 : dc 2 18 = some (.aload_n 0, 19) := by decide +kernel
theorem d2_19 : dc 2 19 = some (.invokevirtual 3, 22) := by decide +kernel
theorem d2_22 : dc 2 22 = some (.dstore 513, 25) := by decide +kernel
theorem d2_25 : dc 2 25 = some (.aload_n 0, 26) := by decide +kernel
theorem d2_26 : dc 2 26 = some (.getstatic 0, 29) := by decide +kernel
theorem d2_29 : dc 2 29 = some (.dstore 514, 32) := by decide +kernel
theorem d2_32 : dc 2 32 = some (.aload_n 0, 33) := by decide +kernel
theorem d2_33 : dc 2 33 = some (.iconst (-1), 34) := by decide +kernel
theorem d2_34 : dc 2 34 = some (.putfield 515, 37) := by decide +kernel
theorem d2_37 : dc 2 37 = some (.aload_n 0, 38) := by decide +kernel
theorem d2_38 : dc 2 38 = some (.iconst 2, 39) := by decide +kernel
theorem d2_39 : dc 2 39 = some (.newarray .long, 41) := by decide +kernel
theorem d2_41 : dc 2 41 = some (.dstore 517, 44) := by decide +kernel
theorem d2_44 : dc 2 44 = some (.aload_n 0, 45) := by decide +kernel
theorem d2_45 : dc 2 45 = some (.iconst 2, 46) := by decide +kernel
theorem d2_46 : dc 2 46 = some (.newarray .long, 48) := by decide +kernel
theorem d2_48 : dc 2 48 = some (.dstore 518, 51) := by decide +kernel
theorem d2_51 : dc 2 51 = some (.aload_n 0, 52) := by decide +kernel
theorem d2_52 : dc 2 52 = some (.iconst 5, 53) := by decide +kernel
theorem d2_53 : dc 2 53 = some (.newarray .int, 55) := by decide +kernel
theorem d2_55 : dc 2 55 = some (.dstore 520, 58) := by decide +kernel
theorem d2_58 : dc 2 58 = some (.aload_n 0, 59) := by decide +kernel
theorem d2_59 : dc 2 59 = some (.new 1, 62) := by decide +kernel
theorem d2_62 : dc 2 62 = some (.dup, 63) := by decide +kernel
theorem d2_63 : dc 2 63 = some (.invokevirtual 4, 66) := by decide +kernel
theorem d2_66 : dc 2 66 = some (.dstore 524, 69) := by decide +kernel
theorem d2_69 : dc 2 69 = some (.return_, 70) := by decide +kernel
theorem i_Req {G : Nat → Option Nat} {d v : Nat} (hG : G 41 = some v) (h1 : 3 ≤ d) {h0 : Hp} {p s0 : Nat} {Q : Option MV → Hp → Prop} (hv : KD h0 v = 82 ∧ LN h0 v = 35 ∧ v < p) (B0 : Bl 5 0 p s0 (ronE 5 0) [] (fun _ => none) (fun _ => 0) (fun _ => 0) h0) (kk : ∀ h', Bl 5 0 p s0 tReq [] (fun _ => none) (iF 5) (fun _ => 0) h' → Fx (fun x => p ≤ x) h0 h' → FR h' 514 p = G 0 ∧ (∀ j, AR h' (p + 3) j = AR h0 v j) → Q none h') : Cl G d 2 [vR (some p)] h0 Q := by
  have F0 : Fx (fun x => p ≤ x) h0 h0 := Fx.refl
  show Wp G d 2 0 [some (vR (some p))] [] h0 Q
  have np := B0.1
  have np : NX h0 = p + 1 := np
  refine w_aload_n d2_0 rfl ?_
  refine w_objinit d2_1 ⟨by rw [B0.kp]; decide, Nat.zero_le _, by omega⟩ ?_
  refine w_aload_n d2_4 rfl ?_
  refine w_new d2_5 (by decide) ?_
  refine w_dupR d2_8 ?_
  refine w_sipush d2_9 (by decide) ?_
  refine w_callv2 d2_12 (by omega) rfl ((KD_nO _ _).trans (by decide)) (by simp) (Nat.le_of_ble_eq_true rfl) ?_
  refine i_Row (c := 4096) (by decide) (by omega) _ _ _ _ (Bl.nO h0 5 (by decide) _) (fun hq bq fq xq => ?_)
  refine c_dst B0 (fq.made (fun _ z => z)) bq (fun _ => rfl) (iA_no (by decide)) d2_15 ⟨by decide, by decide⟩ (by decide +kernel) (by decide) (fun h1 B1 g1 e1 => ?_)
  have F1 := F0.tr (g1.any (fun x e => by omega))
  clear g1 e1
  refine w_aload_n d2_18 rfl ?_
  refine w_calls0 d2_19 (by omega) rfl rfl (by simp) (Nat.le_of_ble_eq_true rfl) ?_
  have sv := F1.2 v (by omega) (by omega)
  refine i_vals hG (sv.1.trans hv.1) (by omega) ?_
  refine c_dst B1 (Fx.nC h1 v 75) (Bl.nC h1 v 35 (sv.2.1.trans hv.2.1) (fun _ => none)) (iF_40 (by decide)) (iA_no (by decide)) d2_22 ⟨by decide, by decide⟩ (by decide +kernel) (by decide) (fun h2 B2 g2 e2 => ?_)
  have n3 : NX h1 = p + 3 := B1.1
  have AV : ∀ j, AR h2 (p + 3) j = AR h0 v j := fun j => by
    have a := e2.2 (p + 3) (by show p + 3 < NX h1 + 1; omega) (by omega)
    rw [a.2.2.2.2.2, ← sv.2.2.2.2.2]
    show (if p + 3 = NX h1 then AR h1 v j else _) = _
    rw [if_pos n3.symm]
  have F2 := F1.tr (g2.any (fun x e => by omega))
  clear g2
  refine w_aload_n d2_25 rfl ?_
  refine w_getstatic d2_26 ?_
  refine w_dstore d2_29 ⟨B2.kp.trans (by decide), by decide⟩ ?_
  obtain ⟨B3, g3⟩ := B2.sr 514 (G 0) (by decide +kernel)
  have F3 := F2.tr (g3.any (fun x e => by omega))
  generalize sFR h2 514 p (G 0) = h3 at B3 g3 F3 ⊢
  have E3 := g3
  refine w_aload_n d2_32 rfl ?_
  refine w_iconst d2_33 (by decide) ?_
  refine w_putfield d2_34 ⟨B3.kp.trans (by decide), by decide⟩ ?_
  obtain ⟨B4, g4⟩ := B3.si 515 (-1)
  have F4 := F3.tr (g4.any (fun x e => by omega))
  generalize sFI h3 515 p (-1) = h4 at B4 g4 F4 ⊢
  have E4 := E3.tr g4
  refine w_aload_n d2_37 rfl ?_
  refine w_iconst d2_38 (by decide) ?_
  refine w_newarray d2_39 ⟨by decide, by decide⟩ ?_
  refine c_dst B4 (Fx.nA h4 44 2) (Bl.nA h4 44 2 (by decide) (fun _ => none)) (iF_40 (by decide)) (iA_no (by decide)) d2_41 ⟨by decide, by decide⟩ (by decide +kernel) (by decide) (fun h5 B5 g5 e5 => ?_)
  have F5 := F4.tr (g5.any (fun x e => by omega))
  have E5 := E4.tr g5
  refine w_aload_n d2_44 rfl ?_
  refine w_iconst d2_45 (by decide) ?_
  refine w_newarray d2_46 ⟨by decide, by decide⟩ ?_
  refine c_dst B5 (Fx.nA h5 44 2) (Bl.nA h5 44 2 (by decide) (fun _ => none)) (iF_40 (by decide)) (iA_no (by decide)) d2_48 ⟨by decide, by decide⟩ (by decide +kernel) (by decide) (fun h6 B6 g6 e6 => ?_)
  have F6 := F5.tr (g6.any (fun x e => by omega))
  have E6 := E5.tr g6
  refine w_aload_n d2_51 rfl ?_
  refine w_iconst d2_52 (by decide) ?_
  refine w_newarray d2_53 ⟨by decide, by decide⟩ ?_
  refine c_dst B6 (Fx.nA h6 40 5) (Bl.nA h6 40 5 (by decide) (fun _ => none)) (iF_40 (by decide)) (iA_no (by decide)) d2_55 ⟨by decide, by decide⟩ (by decide +kernel) (by decide) (fun h7 B7 g7 e7 => ?_)
  have F7 := F6.tr (g7.any (fun x e => by omega))
  have E7 := E6.tr g7
  refine w_aload_n d2_58 rfl ?_
  refine w_new d2_59 (by decide) ?_
  refine w_dupR d2_62 ?_
  refine w_callv1 d2_63 (by omega) rfl ((KD_nO _ _).trans (by decide)) (by simp) (Nat.le_of_ble_eq_true rfl) ?_
  refine i_Def (by omega) _ _ _ _ (Bl.nO h7 1 (by decide) _) (fun hq bq fq xq => ?_)
  refine c_dst B7 (fq.made (fun _ z => z)) bq (fun _ => rfl) (iA_no (by decide)) d2_66 ⟨by decide, by decide⟩ (by decide +kernel) (by decide) (fun h8 B8 g8 e8 => ?_)
  have F8 := F7.tr (g8.any (fun x e => by omega))
  have E8 := E7.tr g8
  refine w_return d2_69 ?_
  refine kk _ ((B8.ri (iF_at (g := 515) (by decide)) (fun _ => rfl)).dz) F8 ⟨B8.2.2.2.2.2 514 (by decide), fun j => ?_⟩
  have a := E8.2 (p + 3) (by have := B2.1; have : NX h2 = p + 4 := this; omega) (by omega)
  rw [a.2.2.2.2.2]; exact AV j
def sSes0 (n : Nat) : List ObE := (putE (putE (putE (putE (putE (putE (putE (putE (putE (putE (ronE 7 0) 0 770 tPlan) 0 773 (ronE 40 14)) 0 774 (ronE 40 14)) 0 775 (ronE 40 2)) 0 776 (ronE 40 2)) 0 777 (ronE 40 2)) 0 778 (ronE 52 2)) 0 779 (ronE 40 14)) 0 781 (ronE 40 3)) 0 784 (tRow 24))
def sSess (n : Nat) : List ObE := (putE (sSes0 n) 0 769 (tStore n))
def tSess (n : Nat) : List ObE := repE (sSess n) 130 tOut 2
theorem d9_0 : dc 9 0 = some (.aload_n 0, 1) := by decide +kernel
theorem d9_1 : dc 9 1 = some (.invokespecial 0, 4) := by decide +kernel
theorem d9_4 : dc 9 4 = some (.aload_n 0, 5) := by decide +kernel
theorem d9_5 : dc 9 5 = some (.new 3, 8) := by decide +kernel
theorem d9_8 : dc 9 8 = some (.dup, 9) := by decide +kernel
theorem d9_9 : dc 9 9 = some (.invokevirtual 6, 12) := by decide +kernel
theorem d9_12 : dc 9 12 = some (.dstore 770, 15) := by decide +kernel
theorem d9_15 : dc 9 15 = some (.aload_n 0, 16) := by decide +kernel
theorem d9_16 : dc 9 16 = some (.bipush 14, 18) := by decide +kernel
theorem d9_18 : dc 9 18 = some (.newarray .int, 20) := by decide +kernel
theorem d9_20 : dc 9 20 = some (.dstore 773, 23) := by decide +kernel
theorem d9_23 : dc 9 23 = some (.aload_n 0, 24) := by decide +kernel
theorem d9_24 : dc 9 24 = some (.bipush 14, 26) := by decide +kernel
theorem d9_26 : dc 9 26 = some (.newarray .int, 28) := by decide +kernel
theorem d9_28 : dc 9 28 = some (.dstore 774, 31) := by decide +kernel
theorem d9_31 : dc 9 31 = some (.aload_n 0, 32) := by decide +kernel
theorem d9_32 : dc 9 32 = some (.iconst 2, 33) := by decide +kernel
theorem d9_33 : dc 9 33 = some (.newarray .int, 35) := by decide +kernel
theorem d9_35 : dc 9 35 = some (.dup, 36) := by decide +kernel
theorem d9_36 : dc 9 36 = some (.iconst 0, 37) := by decide +kernel
theorem d9_37 : dc 9 37 = some (.iconst (-1), 38) := by decide +kernel
theorem d9_38 : dc 9 38 = some (.iastore, 39) := by decide +kernel
theorem d9_39 : dc 9 39 = some (.dup, 40) := by decide +kernel
theorem d9_40 : dc 9 40 = some (.iconst 1, 41) := by decide +kernel
theorem d9_41 : dc 9 41 = some (.iconst (-1), 42) := by decide +kernel
theorem d9_42 : dc 9 42 = some (.iastore, 43) := by decide +kernel
theorem d9_43 : dc 9 43 = some (.dstore 775, 46) := by decide +kernel
theorem d9_46 : dc 9 46 = some (.aload_n 0, 47) := by decide +kernel
theorem d9_47 : dc 9 47 = some (.iconst 2, 48) := by decide +kernel
theorem d9_48 : dc 9 48 = some (.newarray .int, 50) := by decide +kernel
theorem d9_50 : dc 9 50 = some (.dstore 776, 53) := by decide +kernel
theorem d9_53 : dc 9 53 = some (.aload_n 0, 54) := by decide +kernel
theorem d9_54 : dc 9 54 = some (.iconst 2, 55) := by decide +kernel
theorem d9_55 : dc 9 55 = some (.newarray .int, 57) := by decide +kernel
theorem d9_57 : dc 9 57 = some (.dstore 777, 60) := by decide +kernel
theorem d9_60 : dc 9 60 = some (.aload_n 0, 61) := by decide +kernel
theorem d9_61 : dc 9 61 = some (.iconst 2, 62) := by decide +kernel
theorem d9_62 : dc 9 62 = some (.anewarray 2, 65) := by decide +kernel
theorem d9_65 : dc 9 65 = some (.dstore 778, 68) := by decide +kernel
theorem d9_68 : dc 9 68 = some (.aload_n 0, 69) := by decide +kernel
theorem d9_69 : dc 9 69 = some (.bipush 14, 71) := by decide +kernel
theorem d9_71 : dc 9 71 = some (.newarray .int, 73) := by decide +kernel
theorem d9_73 : dc 9 73 = some (.dstore 779, 76) := by decide +kernel
theorem d9_76 : dc 9 76 = some (.aload_n 0, 77) := by decide +kernel
theorem d9_77 : dc 9 77 = some (.iconst 3, 78) := by decide +kernel
theorem d9_78 : dc 9 78 = some (.newarray .int, 80) := by decide +kernel
theorem d9_80 : dc 9 80 = some (.dstore 781, 83) := by decide +kernel
theorem d9_83 : dc 9 83 = some (.aload_n 0, 84) := by decide +kernel
theorem d9_84 : dc 9 84 = some (.iconst (-1), 85) := by decide +kernel
theorem d9_85 : dc 9 85 = some (.putfield 782, 88) := by decide +kernel
theorem d9_88 : dc 9 88 = some (.aload_n 0, 89) := by decide +kernel
theorem d9_89 : dc 9 89 = some (.new 5, 92) := by decide +kernel
theorem d9_92 : dc 9 92 = some (.dup, 93) := by decide +kernel
theorem d9_93 : dc 9 93 = some (.bipush 24, 95) := by decide +kernel
theorem d9_95 : dc 9 95 = some (.invokevirtual 1, 98) := by decide +kernel
theorem d9_98 : dc 9 98 = some (.dstore 784, 101) := by decide +kernel
theorem d9_101 : dc 9 101 = some (.aload_n 0, 102) := by decide +kernel
theorem d9_102 : dc 9 102 = some (.aload_n 1, 103) := by decide +kernel
theorem d9_103 : dc 9 103 = some (.dstore 768, 106) := by decide +kernel
theorem d9_106 : dc 9 106 = some (.aload_n 0, 107) := by decide +kernel
theorem d9_107 : dc 9 107 = some (.new 7, 110) := by decide +kernel
theorem d9_110 : dc 9 110 = some (.dup, 111) := by decide +kernel
theorem d9_111 : dc 9 111 = some (.iload_n 2, 112) := by decide +kernel
theorem d9_112 : dc 9 112 = some (.invokevirtual 10, 115) := by decide +kernel
theorem d9_115 : dc 9 115 = some (.dstore 769, 118) := by decide +kernel
theorem d9_118 : dc 9 118 = some (.iconst 0, 119) := by decide +kernel
theorem d9_119 : dc 9 119 = some (.istore_n 3, 120) := by decide +kernel
theorem d9_120 : dc 9 120 = some (.iload_n 3, 121) := by decide +kernel
theorem d9_121 : dc 9 121 = some (.iconst 2, 122) := by decide +kernel
theorem d9_122 : dc 9 122 = some (.if_icmp .ge ((144 : Nat) : Int), 125) := by decide +kernel
theorem d9_125 : dc 9 125 = some (.aload_n 0, 126) := by decide +kernel
theorem d9_126 : dc 9 126 = some (.dload 778, 129) := by decide +kernel
theorem d9_129 : dc 9 129 = some (.iload_n 3, 130) := by decide +kernel
theorem d9_130 : dc 9 130 = some (.new 2, 133) := by decide +kernel
theorem d9_133 : dc 9 133 = some (.dup, 134) := by decide +kernel
theorem d9_134 : dc 9 134 = some (.invokevirtual 11, 137) := by decide +kernel
theorem d9_137 : dc 9 137 = some (.aastore, 138) := by decide +kernel
theorem d9_138 : dc 9 138 = some (.iinc 3 1, 141) := by decide +kernel
theorem d9_141 : dc 9 141 = some (.goto ((120 : Nat) : Int), 144) := by decide +kernel
theorem d9_144 : dc 9 144 = some (.return_, 145) := by decide +kernel
theorem i_Sess {G : Nat → Option Nat} {d n w : Nat} (hn : n ≤ 24) (hT : ∀ j : Fin 2, freE (repE (sSess n) 130 tOut j.val) 130 (4096 + j.val) = true) (hS : freE (sSes0 n) 0 769 = true) (h1 : 4 ≤ d) : Mk G d 9 [vR (some w), vI (n : Nat)] 7 (tSess n) (fun h p => FR h 768 p = some w) := by
  intro h0 p s0 Q B0 kk
  have F0 : Fx (fun x => p ≤ x) h0 h0 := Fx.refl
  show Wp G d 9 0 [some (vR (some p)), some (vR (some w)), some (vI (n : Nat)), none] [] h0 Q
  refine w_aload_n d9_0 rfl ?_
  refine w_objinit d9_1 ⟨by rw [B0.kp]; decide, Nat.zero_le _, by omega⟩ ?_
  refine w_aload_n d9_4 rfl ?_
  refine w_new d9_5 (by decide) ?_
  refine w_dupR d9_8 ?_
  refine w_callv1 d9_9 (by omega) rfl ((KD_nO _ _).trans (by decide)) (by simp) (Nat.le_of_ble_eq_true rfl) ?_
  refine i_Plan (by omega) _ _ _ _ (Bl.nO h0 3 (by decide) _) (fun hq bq fq xq => ?_)
  refine c_dst B0 (fq.made (fun _ z => z)) bq (fun _ => rfl) (iA_no (by decide)) d9_12 ⟨by decide, by decide⟩ (by decide +kernel) (by decide) (fun h1 B1 g1 e1 => ?_)
  have F1 := F0.tr (g1.any (fun x e => by omega))
  clear g1 e1
  refine w_aload_n d9_15 rfl ?_
  refine w_bipush d9_16 (by decide) ?_
  refine w_newarray d9_18 ⟨by decide, by decide⟩ ?_
  refine c_dst B1 (Fx.nA h1 40 14) (Bl.nA h1 40 14 (by decide) (fun _ => none)) (iF_40 (by decide)) (iA_no (by decide)) d9_20 ⟨by decide, by decide⟩ (by decide +kernel) (by decide) (fun h2 B2 g2 e2 => ?_)
  have F2 := F1.tr (g2.any (fun x e => by omega))
  clear g2 e2
  refine w_aload_n d9_23 rfl ?_
  refine w_bipush d9_24 (by decide) ?_
  refine w_newarray d9_26 ⟨by decide, by decide⟩ ?_
  refine c_dst B2 (Fx.nA h2 40 14) (Bl.nA h2 40 14 (by decide) (fun _ => none)) (iF_40 (by decide)) (iA_no (by decide)) d9_28 ⟨by decide, by decide⟩ (by decide +kernel) (by decide) (fun h3 B3 g3 e3 => ?_)
  have F3 := F2.tr (g3.any (fun x e => by omega))
  clear g3 e3
  refine w_aload_n d9_31 rfl ?_
  refine w_iconst d9_32 (by decide) ?_
  refine w_newarray d9_33 ⟨by decide, by decide⟩ ?_
  refine w_dupR d9_35 ?_
  refine w_iconst d9_36 (by decide) ?_
  refine w_iconst d9_37 (by decide) ?_
  refine w_iastore d9_38 ⟨KD_nA _ _ _, by show bnd 0 (LN (nwA h3 40 2) (NX h3)); rw [LN_nA]; decide⟩ ?_
  refine w_dupR d9_39 ?_
  refine w_iconst d9_40 (by decide) ?_
  refine w_iconst d9_41 (by decide) ?_
  refine w_iastore d9_42 ⟨KD_nA _ _ _, by show bnd 1 (LN (nwA h3 40 2) (NX h3)); rw [LN_nA]; decide⟩ ?_
  refine c_dst B3 (Fx.hold h3) (Bl.hold h3 (fun _ => none)) (iF_40 (by decide)) (iA_at (by decide)) d9_43 ⟨by decide, by decide⟩ (by decide +kernel) (by decide) (fun h4 B4 g4 e4 => ?_)
  have F4 := F3.tr (g4.any (fun x e => by omega))
  clear g4 e4
  refine w_aload_n d9_46 rfl ?_
  refine w_iconst d9_47 (by decide) ?_
  refine w_newarray d9_48 ⟨by decide, by decide⟩ ?_
  refine c_dst B4 (Fx.nA h4 40 2) (Bl.nA h4 40 2 (by decide) (fun _ => none)) (iF_40 (by decide)) (iA_no (by decide)) d9_50 ⟨by decide, by decide⟩ (by decide +kernel) (by decide) (fun h5 B5 g5 e5 => ?_)
  have F5 := F4.tr (g5.any (fun x e => by omega))
  clear g5 e5
  refine w_aload_n d9_53 rfl ?_
  refine w_iconst d9_54 (by decide) ?_
  refine w_newarray d9_55 ⟨by decide, by decide⟩ ?_
  refine c_dst B5 (Fx.nA h5 40 2) (Bl.nA h5 40 2 (by decide) (fun _ => none)) (iF_40 (by decide)) (iA_no (by decide)) d9_57 ⟨by decide, by decide⟩ (by decide +kernel) (by decide) (fun h6 B6 g6 e6 => ?_)
  have F6 := F5.tr (g6.any (fun x e => by omega))
  clear g6 e6
  refine w_aload_n d9_60 rfl ?_
  refine w_iconst d9_61 (by decide) ?_
  refine w_anewarray d9_62 ⟨by decide, by decide⟩ ?_
  refine c_dst B6 (Fx.nA h6 52 2) (Bl.nA h6 52 2 (by decide) (fun _ => none)) (iF_40 (by decide)) (iA_no (by decide)) d9_65 ⟨by decide, by decide⟩ (by decide +kernel) (by decide) (fun h7 B7 g7 e7 => ?_)
  have F7 := F6.tr (g7.any (fun x e => by omega))
  clear g7 e7
  refine w_aload_n d9_68 rfl ?_
  refine w_bipush d9_69 (by decide) ?_
  refine w_newarray d9_71 ⟨by decide, by decide⟩ ?_
  refine c_dst B7 (Fx.nA h7 40 14) (Bl.nA h7 40 14 (by decide) (fun _ => none)) (iF_40 (by decide)) (iA_no (by decide)) d9_73 ⟨by decide, by decide⟩ (by decide +kernel) (by decide) (fun h8 B8 g8 e8 => ?_)
  have F8 := F7.tr (g8.any (fun x e => by omega))
  clear g8 e8
  refine w_aload_n d9_76 rfl ?_
  refine w_iconst d9_77 (by decide) ?_
  refine w_newarray d9_78 ⟨by decide, by decide⟩ ?_
  refine c_dst B8 (Fx.nA h8 40 3) (Bl.nA h8 40 3 (by decide) (fun _ => none)) (iF_40 (by decide)) (iA_no (by decide)) d9_80 ⟨by decide, by decide⟩ (by decide +kernel) (by decide) (fun h9 B9 g9 e9 => ?_)
  have F9 := F8.tr (g9.any (fun x e => by omega))
  clear g9 e9
  refine w_aload_n d9_83 rfl ?_
  refine w_iconst d9_84 (by decide) ?_
  refine w_putfield d9_85 ⟨B9.kp.trans (by decide), by decide⟩ ?_
  obtain ⟨B10, g10⟩ := B9.si 782 (-1)
  have F10 := F9.tr (g10.any (fun x e => by omega))
  generalize sFI h9 782 p (-1) = h10 at B10 g10 F10 ⊢
  refine w_aload_n d9_88 rfl ?_
  refine w_new d9_89 (by decide) ?_
  refine w_dupR d9_92 ?_
  refine w_bipush d9_93 (by decide) ?_
  refine w_callv2 d9_95 (by omega) rfl ((KD_nO _ _).trans (by decide)) (by simp) (Nat.le_of_ble_eq_true rfl) ?_
  refine i_Row (c := 24) (by decide) (by omega) _ _ _ _ (Bl.nO h10 5 (by decide) _) (fun hq bq fq xq => ?_)
  refine c_dst B10 (fq.made (fun _ z => z)) bq (fun _ => rfl) (iA_no (by decide)) d9_98 ⟨by decide, by decide⟩ (by decide +kernel) (by decide) (fun h11 B11 g11 e11 => ?_)
  have F11 := F10.tr (g11.any (fun x e => by omega))
  clear g11 e11
  refine w_aload_n d9_101 rfl ?_
  refine w_aload_n d9_102 rfl ?_
  refine w_dstore d9_103 ⟨B11.kp.trans (by decide), by decide⟩ ?_
  obtain ⟨B12, g12⟩ := B11.sr 768 (some w) (by decide +kernel)
  have F12 := F11.tr (g12.any (fun x e => by omega))
  generalize sFR h11 768 p (some w) = h12 at B12 g12 F12 ⊢
  refine w_aload_n d9_106 rfl ?_
  refine w_new d9_107 (by decide) ?_
  refine w_dupR d9_110 ?_
  refine w_iload_n d9_111 rfl ?_
  refine w_callv2 d9_112 (by omega) rfl ((KD_nO _ _).trans (by decide)) (by simp) (Nat.le_of_ble_eq_true rfl) ?_
  refine i_Store hn (by omega) _ _ _ _ (Bl.nO h12 7 (by decide) _) (fun hq bq fq xq => ?_)
  refine c_dst B12 (fq.made (fun _ z => z)) bq (fun _ => rfl) (iA_no (by decide)) d9_115 ⟨by decide, by decide⟩ hS (by decide) (fun h13 B13 g13 e13 => ?_)
  have F13 := F12.tr (g13.any (fun x e => by omega))
  clear g13 e13
  refine w_iconst d9_118 (by decide) ?_
  refine w_istore3 d9_119 rfl ?_
  have FRLP : ∀ j : Fin 2, freE (repE (sSess n) 130 tOut j.val) 130 (4096 + j.val) = true := hT
  have LP : ∀ (m i : Nat) (h14 : Hp), m + i = 2 → Bl 7 0 p s0 (repE (putE (putE (putE (putE (putE (putE (putE (putE (putE (putE (putE (ronE 7 0) 0 770 tPlan) 0 773 (ronE 40 14)) 0 774 (ronE 40 14)) 0 775 (ronE 40 2)) 0 776 (ronE 40 2)) 0 777 (ronE 40 2)) 0 778 (ronE 52 2)) 0 779 (ronE 40 14)) 0 781 (ronE 40 3)) 0 784 (tRow 24)) 0 769 (tStore n)) 130 tOut i) [768] (fun _ => some w) (fun g => if g = 782 then -1 else 0) (fun _ => 0) h14 → Fx (fun x => p ≤ x) h0 h14 → Wp G d 9 120 [some (vR (some p)), some (vR (some w)), some (vI (n : Nat)), some (vI (i : Nat))] [] h14 Q := by
    intro m
    induction m with
    | zero =>
      intro i h14 hm B14 F14
      obtain rfl : 2 = i := by omega
      refine w_iload_n d9_120 rfl ?_
      refine w_iconst d9_121 (by decide) ?_
      refine w_icmpge d9_122 (fun _ => ?_) (fun z => absurd z (by omega))
      refine w_return d9_144 ?_
      exact kk _ ((B14.ri (iF_at (g := 782) (by decide)) (fun _ => rfl)).dz) F14 (B14.2.2.2.2.2 768 (by decide))
    | succ m ih =>
      intro i h14 hm B14 F14
      refine w_iload_n d9_120 rfl ?_
      refine w_iconst d9_121 (by decide) ?_
      refine w_icmpge d9_122 (fun z => absurd z (by omega)) (fun z => ?_)
      refine w_aload_n d9_125 rfl ?_
      refine w_dloadS d9_126 (B14.kp.trans (by decide)) (B14.fr (k := 130) (a := 52) (b := 2) (f := 778) (by decide) (repE_get (by rfl) _) (by decide)) ?_
      refine w_iload_n d9_129 rfl ?_
      refine w_new d9_130 (by decide) ?_
      refine w_dupR d9_133 ?_
      refine w_callv1 d9_134 (by omega) rfl ((KD_nO _ _).trans (by decide)) (by simp) (Nat.le_of_ble_eq_true rfl) ?_
      refine i_Out (by omega) _ _ _ _ (Bl.nO h14 2 (by decide) _) (fun hq bq fq xq => ?_)
      refine c_ast (q := 130) (n := 2) (par := 0) (place := 778) B14 (fq.made (fun _ z => z)) bq (fun _ => rfl) (fun _ => rfl) d9_137 (by decide) (repE_get (by rfl) _) (by decide) (by omega) (FRLP ⟨i, by omega⟩) (fun h15 B15 g15 => ?_)
      have F15 := F14.tr (g15.any (fun x e => by omega))
      refine w_iinc3 d9_138 rfl (by omega) ?_
      refine w_goto d9_141 ?_
      exact ih (i + 1) h15 (by omega) B15 F15
  exact LP 2 0 h13 (by omega) B13 F13
def tHouse : List ObE := (putE (putE (putE (putE (putE (putE (putE (putE (putE (ronE 11 0) 0 1280 (tRow 4000)) 0 1281 (tRow 4096)) 0 1282 tReq) 0 1283 tBook) 0 1284 tPlan) 0 1285 tVers) 0 1288 tWork) 0 1286 (tSess 24)) 0 1287 (tSess 0))
theorem d0_0 : dc 0 0 = some (.aload_n 0, 1) := by decide +kernel
theorem d0_1 : dc 0 1 = some (.invokespecial 0, 4) := by decide +kernel
theorem d0_4 : dc 0 4 = some (.aload_n 0, 5) := by decide +kernel
theorem d0_5 : dc 0 5 = some (.new 5, 8) := by decide +kernel
theorem d0_8 : dc 0 8 = some (.dup, 9) := by decide +kernel
theorem d0_9 : dc 0 9 = some (.sipush 4000, 12) := by decide +kernel
theorem d0_12 : dc 0 12 = some (.invokevirtual 1, 15) := by decide +kernel
theorem d0_15 : dc 0 15 = some (.dstore 1280, 18) := by decide +kernel
theorem d0_18 : dc 0 18 = some (.aload_n 0, 19) := by decide +kernel
theorem d0_19 : dc 0 19 = some (.new 5, 22) := by decide +kernel
theorem d0_22 : dc 0 22 = some (.dup, 23) := by decide +kernel
theorem d0_23 : dc 0 23 = some (.sipush 4096, 26) := by decide +kernel
theorem d0_26 : dc 0 26 = some (.invokevirtual 1, 29) := by decide +kernel
theorem d0_29 : dc 0 29 = some (.dstore 1281, 32) := by decide +kernel
theorem d0_32 : dc 0 32 = some (.aload_n 0, 33) := by decide +kernel
theorem d0_33 : dc 0 33 = some (.new 4, 36) := by decide +kernel
theorem d0_36 : dc 0 36 = some (.dup, 37) := by decide +kernel
theorem d0_37 : dc 0 37 = some (.invokevirtual 2, 40) := by decide +kernel
theorem d0_40 : dc 0 40 = some (.dstore 1282, 43) := by decide +kernel
theorem d0_43 : dc 0 43 = some (.aload_n 0, 44) := by decide +kernel
theorem d0_44 : dc 0 44 = some (.new 0, 47) := by decide +kernel
theorem d0_47 : dc 0 47 = some (.dup, 48) := by decide +kernel
theorem d0_48 : dc 0 48 = some (.invokevirtual 5, 51) := by decide +kernel
theorem d0_51 : dc 0 51 = some (.dstore 1283, 54) := by decide +kernel
theorem d0_54 : dc 0 54 = some (.aload_n 0, 55) := by decide +kernel
theorem d0_55 : dc 0 55 = some (.new 3, 58) := by decide +kernel
theorem d0_58 : dc 0 58 = some (.dup, 59) := by decide +kernel
theorem d0_59 : dc 0 59 = some (.invokevirtual 6, 62) := by decide +kernel
theorem d0_62 : dc 0 62 = some (.dstore 1284, 65) := by decide +kernel
theorem d0_65 : dc 0 65 = some (.aload_n 0, 66) := by decide +kernel
theorem d0_66 : dc 0 66 = some (.new 8, 69) := by decide +kernel
theorem d0_69 : dc 0 69 = some (.dup, 70) := by decide +kernel
theorem d0_70 : dc 0 70 = some (.invokevirtual 7, 73) := by decide +kernel
theorem d0_73 : dc 0 73 = some (.dstore 1285, 76) := by decide +kernel
theorem d0_76 : dc 0 76 = some (.new 9, 79) := by decide +kernel
theorem d0_79 : dc 0 79 = some (.dup, 80) := by decide +kernel
theorem d0_80 : dc 0 80 = some (.invokevirtual 8, 83) := by decide +kernel
theorem d0_83 : dc 0 83 = some (.astore_n 1, 84) := by decide +kernel
theorem d0_84 : dc 0 84 = some (.aload_n 0, 85) := by decide +kernel
theorem d0_85 : dc 0 85 = some (.new 6, 88) := by decide +kernel
theorem d0_88 : dc 0 88 = some (.dup, 89) := by decide +kernel
theorem d0_89 : dc 0 89 = some (.aload_n 1, 90) := by decide +kernel
theorem d0_90 : dc 0 90 = some (.bipush 24, 92) := by decide +kernel
theorem d0_92 : dc 0 92 = some (.invokevirtual 9, 95) := by decide +kernel
theorem d0_95 : dc 0 95 = some (.dstore 1286, 98) := by decide +kernel
theorem d0_98 : dc 0 98 = some (.aload_n 0, 99) := by decide +kernel
theorem d0_99 : dc 0 99 = some (.new 6, 102) := by decide +kernel
theorem d0_102 : dc 0 102 = some (.dup, 103) := by decide +kernel
theorem d0_103 : dc 0 103 = some (.aload_n 1, 104) := by decide +kernel
theorem d0_104 : dc 0 104 = some (.iconst 0, 105) := by decide +kernel
theorem d0_105 : dc 0 105 = some (.invokevirtual 9, 108) := by decide +kernel
theorem d0_108 : dc 0 108 = some (.dstore 1287, 111) := by decide +kernel
theorem d0_111 : dc 0 111 = some (.return_, 112) := by decide +kernel
theorem i_House {G : Nat → Option Nat} {d v : Nat} (hG : G 41 = some v) (h1 : 5 ≤ d) {h0 : Hp} {p s0 : Nat} {Q : Option MV → Hp → Prop} (hv : KD h0 v = 82 ∧ LN h0 v = 35 ∧ v < p) (B0 : Bl 11 0 p s0 (ronE 11 0) [] (fun _ => none) (fun _ => 0) (fun _ => 0) h0) (kk : ∀ h', Bl 11 0 p s0 tHouse [] (fun _ => none) (iF 11) (fun _ => 0) h' → Fx (fun x => p ≤ x) h0 h' → (FR h' 514 (p + 5) = G 0 ∧ ∀ j, AR h' (p + 5 + 3) j = AR h0 v j) → (∀ i, i < 6 → AR h' (p + 155 + 3) i = some (p + 155 + 1)) → FR h' 768 (p + 172) = some (p + 155) → FR h' 768 (p + 759) = some (p + 155) → Q none h') : Cl G d 0 [vR (some p)] h0 Q := by
  have F0 : Fx (fun x => p ≤ x) h0 h0 := Fx.refl
  show Wp G d 0 0 [some (vR (some p)), none] [] h0 Q
  have np : NX h0 = p + 1 := B0.1
  refine w_aload_n d0_0 rfl ?_
  refine w_objinit d0_1 ⟨by rw [B0.kp]; decide, Nat.zero_le _, by omega⟩ ?_
  refine w_aload_n d0_4 rfl ?_
  refine w_new d0_5 (by decide) ?_
  refine w_dupR d0_8 ?_
  refine w_sipush d0_9 (by decide) ?_
  refine w_callv2 d0_12 (by omega) rfl ((KD_nO _ _).trans (by decide)) (by simp) (Nat.le_of_ble_eq_true rfl) ?_
  refine i_Row (c := 4000) (by decide) (by omega) _ _ _ _ (Bl.nO h0 5 (by decide) _) (fun hq bq fq xq => ?_)
  refine c_dst B0 (fq.made (fun _ z => z)) bq (fun _ => rfl) (iA_no (by decide)) d0_15 ⟨by decide, by decide⟩ (by decide +kernel) (by decide) (fun h1 B1 g1 e1 => ?_)
  have F1 := F0.tr (g1.any (fun x e => by omega))
  clear g1 e1
  refine w_aload_n d0_18 rfl ?_
  refine w_new d0_19 (by decide) ?_
  refine w_dupR d0_22 ?_
  refine w_sipush d0_23 (by decide) ?_
  refine w_callv2 d0_26 (by omega) rfl ((KD_nO _ _).trans (by decide)) (by simp) (Nat.le_of_ble_eq_true rfl) ?_
  refine i_Row (c := 4096) (by decide) (by omega) _ _ _ _ (Bl.nO h1 5 (by decide) _) (fun hq bq fq xq => ?_)
  refine c_dst B1 (fq.made (fun _ z => z)) bq (fun _ => rfl) (iA_no (by decide)) d0_29 ⟨by decide, by decide⟩ (by decide +kernel) (by decide) (fun h2 B2 g2 e2 => ?_)
  have F2 := F1.tr (g2.any (fun x e => by omega))
  clear g2 e2
  refine w_aload_n d0_32 rfl ?_
  refine w_new d0_33 (by decide) ?_
  refine w_dupR d0_36 ?_
  refine w_callv1 d0_37 (by omega) rfl ((KD_nO _ _).trans (by decide)) (by simp) (Nat.le_of_ble_eq_true rfl) ?_
  have sv := F2.2 v (by omega) (by omega)
  have n7 : NX h2 = p + 5 := B2.nxl (by decide +kernel)
  have sw := (Fx.nO h2 4).2 v (by omega) (fun z => z)
  refine i_Req hG (by omega) ⟨sw.1.trans (sv.1.trans hv.1), sw.2.1.trans (sv.2.1.trans hv.2.1), by omega⟩ (Bl.nO h2 4 (by decide) _) (fun hq bq fq xq => ?_)
  refine c_dst B2 (fq.made (fun _ z => z)) bq (fun _ => rfl) (iA_no (by decide)) d0_40 ⟨by decide, by decide⟩ (by decide +kernel) (by decide) (fun h3 B3 g3 e3 => ?_)
  have XR : FR h3 514 (p + 5) = G 0 ∧ ∀ j, AR h3 (p + 5 + 3) j = AR h0 v j := by
    have nq : NX hq = NX h2 + tReq.length := bq.1
    have tl : tReq.length = 13 := by decide +kernel
    have a := e3.2 (p + 5) (by omega) (by omega)
    have a3 := e3.2 (p + 5 + 3) (by omega) (by omega)
    rw [(a.2.2.1 514).2.2, a3.2.2.2.2.2]
    rw [n7] at xq
    exact ⟨xq.1, fun j => by rw [xq.2 j, sw.2.2.2.2.2, sv.2.2.2.2.2]⟩
  have nr : NX h3 = p + 18 := B3.nxl (by decide +kernel)
  have F3 := F2.tr (g3.any (fun x e => by omega))
  clear g3 e3
  refine w_aload_n d0_43 rfl ?_
  refine w_new d0_44 (by decide) ?_
  refine w_dupR d0_47 ?_
  refine w_callv1 d0_48 (by omega) rfl ((KD_nO _ _).trans (by decide)) (by simp) (Nat.le_of_ble_eq_true rfl) ?_
  refine i_Book (by omega) _ _ _ _ (Bl.nO h3 0 (by decide) _) (fun hq bq fq xq => ?_)
  refine c_dst B3 (fq.made (fun _ z => z)) bq (fun _ => rfl) (iA_no (by decide)) d0_51 ⟨by decide, by decide⟩ (by decide +kernel) (by decide) (fun h4 B4 g4 e4 => ?_)
  have F4 := F3.tr (g4.any (fun x e => by omega))
  have E4 := g4
  refine w_aload_n d0_54 rfl ?_
  refine w_new d0_55 (by decide) ?_
  refine w_dupR d0_58 ?_
  refine w_callv1 d0_59 (by omega) rfl ((KD_nO _ _).trans (by decide)) (by simp) (Nat.le_of_ble_eq_true rfl) ?_
  refine i_Plan (by omega) _ _ _ _ (Bl.nO h4 3 (by decide) _) (fun hq bq fq xq => ?_)
  refine c_dst B4 (fq.made (fun _ z => z)) bq (fun _ => rfl) (iA_no (by decide)) d0_62 ⟨by decide, by decide⟩ (by decide +kernel) (by decide) (fun h5 B5 g5 e5 => ?_)
  have F5 := F4.tr (g5.any (fun x e => by omega))
  have E5 := E4.tr g5
  refine w_aload_n d0_65 rfl ?_
  refine w_new d0_66 (by decide) ?_
  refine w_dupR d0_69 ?_
  refine w_callv1 d0_70 (by omega) rfl ((KD_nO _ _).trans (by decide)) (by simp) (Nat.le_of_ble_eq_true rfl) ?_
  refine i_Vers (by omega) _ _ _ _ (Bl.nO h5 8 (by decide) _) (fun hq bq fq xq => ?_)
  refine c_dst B5 (fq.made (fun _ z => z)) bq (fun _ => rfl) (iA_no (by decide)) d0_73 ⟨by decide, by decide⟩ (by decide +kernel) (by decide) (fun h6 B6 g6 e6 => ?_)
  have F6 := F5.tr (g6.any (fun x e => by omega))
  have E6 := E5.tr g6
  refine w_new d0_76 (by decide) ?_
  refine w_dupR d0_79 ?_
  refine w_callv1 d0_80 (by omega) rfl ((KD_nO _ _).trans (by decide)) (by simp) (Nat.le_of_ble_eq_true rfl) ?_
  refine i_Work (by omega) _ _ _ _ (Bl.nO h6 9 (by decide) _) (fun h7 bq fq xw => ?_)
  have nw : NX h6 = p + 155 := B6.nxl (by decide +kernel)
  have g7 : Fx (fun x => x = p) h6 h7 := (fq.made (fun _ z => z)).any (fun x z => z.elim)
  have B7 := B6.ad0 (fq.made (fun _ z => z)) bq (fun _ => rfl) (fun _ => rfl) (by decide +kernel) (by decide)
  have F7 := F6.tr (g7.any (fun x e => by omega))
  have E7 := E6.tr g7
  rw [nw] at xw
  have nw1 : NX h7 = p + 172 := B7.nxl (by decide +kernel)
  refine w_astore1 d0_83 rfl ?_
  rw [show NX h6 = p + 155 from nw]
  have W7 : Fx (fun x => x = p) h7 h7 := Fx.refl
  refine w_aload_n d0_84 rfl ?_
  refine w_new d0_85 (by decide) ?_
  refine w_dupR d0_88 ?_
  refine w_aload_n d0_89 rfl ?_
  refine w_bipush d0_90 (by decide) ?_
  refine w_callv3 d0_92 (by omega) rfl ((KD_nO _ _).trans (by decide)) (by simp) (Nat.le_of_ble_eq_true rfl) ?_
  have ns0 : NX h7 = p + 172 := B7.nxl (by decide +kernel)
  refine i_Sess (n := 24) (w := p + 155) (by decide) (by decide +kernel) (by decide +kernel) (by omega) _ _ _ _ (Bl.nO h7 6 (by decide) _) (fun hq bq fq xq => ?_)
  refine c_dst B7 (fq.made (fun _ z => z)) bq (fun _ => rfl) (iA_no (by decide)) d0_95 ⟨by decide, by decide⟩ (by decide +kernel) (by decide) (fun h8 B8 g8 e8 => ?_)
  have XS0 : FR h8 768 (p + 172) = some (p + 155) := by
    have nq : NX hq = NX h7 + (tSess 24).length := bq.1
    have tl : (tSess 24).length = 587 := by decide +kernel
    have a := e8.2 (p + 172) (by omega) (by omega)
    rw [(a.2.2.1 768).2.2]
    rw [ns0] at xq
    exact xq
  have F8 := F7.tr (g8.any (fun x e => by omega))
  have E8 := E7.tr g8
  have W8 := W7.tr g8
  have nt : NX h8 = p + 759 := B8.nxl (by decide +kernel)
  refine w_aload_n d0_98 rfl ?_
  refine w_new d0_99 (by decide) ?_
  refine w_dupR d0_102 ?_
  refine w_aload_n d0_103 rfl ?_
  refine w_iconst d0_104 (by decide) ?_
  refine w_callv3 d0_105 (by omega) rfl ((KD_nO _ _).trans (by decide)) (by simp) (Nat.le_of_ble_eq_true rfl) ?_
  have ns1 : NX h8 = p + 759 := B8.nxl (by decide +kernel)
  refine i_Sess (n := 0) (w := p + 155) (by decide) (by decide +kernel) (by decide +kernel) (by omega) _ _ _ _ (Bl.nO h8 6 (by decide) _) (fun hq bq fq xq => ?_)
  refine c_dst B8 (fq.made (fun _ z => z)) bq (fun _ => rfl) (iA_no (by decide)) d0_108 ⟨by decide, by decide⟩ (by decide +kernel) (by decide) (fun h9 B9 g9 e9 => ?_)
  have XS1 : FR h9 768 (p + 759) = some (p + 155) := by
    have nq : NX hq = NX h8 + (tSess 0).length := bq.1
    have tl : (tSess 0).length = 395 := by decide +kernel
    have a := e9.2 (p + 759) (by omega) (by omega)
    rw [(a.2.2.1 768).2.2]
    rw [ns1] at xq
    exact xq
  have F9 := F8.tr (g9.any (fun x e => by omega))
  have E9 := E8.tr g9
  have W9 := W8.tr g9
  refine w_return d0_111 ?_
  refine kk _ ((B9.ri (iF_no (by decide)) (fun _ => rfl)).dz) F9 ⟨?_, fun j => ?_⟩ (fun i hi => ?_) ?_ XS1
  · rw [((E9.2 (p + 5) (by omega) (by omega)).2.2.1 514).2.2]; exact XR.1
  · rw [(E9.2 (p + 5 + 3) (by omega) (by omega)).2.2.2.2.2]; exact XR.2 j
  · rw [(W9.2 (p + 155 + 3) (by omega) (by omega)).2.2.2.2.2]; exact xw i hi
  · rw [((g9.2 (p + 172) (by omega) (by omega)).2.2.1 768).2.2]; exact XS0
theorem tHouse_len : tHouse.length = 1154 := by decide +kernel
