/-! the reference: a file is put -/
def fsPut (fs : List (List Nat × List Nat)) (n b : List Nat) : List (List Nat × List Nat) := if fix fs n < 0 then fs ++ [(n, b)] else fs.set (fix fs n).toNat (n, b)
theorem fq_snoc (fs : List (List Nat × List Nat)) (x : List Nat × List Nat) (i : Nat) : (fP (fs ++ [x]) i = if i = fs.length then x.1 else fP fs i) ∧ fB (fs ++ [x]) i = if i = fs.length then x.2 else fB fs i := by
  unfold fP fB
  rw [getD_snoc]
  split <;> exact ⟨rfl, rfl⟩
theorem fq_set {fs : List (List Nat × List Nat)} {x : List Nat × List Nat} {i j : Nat} (hj : j < fs.length) : (fP (fs.set j x) i = if i = j then x.1 else fP fs i) ∧ fB (fs.set j x) i = if i = j then x.2 else fB fs i := by
  unfold fP fB
  rw [getD_set]
  by_cases q : i = j
  · subst q
    rw [if_pos ⟨rfl, hj⟩, if_pos rfl, if_pos rfl]; exact ⟨rfl, rfl⟩
  · rw [if_neg (fun z => q z.1), if_neg q, if_neg q]; exact ⟨rfl, rfl⟩
/-- files, but their bytes -/
def DFp (S : Shp) (h : Hp) (d : Nat) (fs : List (List Nat × List Nat)) : Prop := FI h 1408 d = fs.length ∧ fs.length ≤ 16 ∧ ∀ i, i < fs.length → AI h (sT S 1410 d) i = (fP fs i).length ∧ (fP fs i).length ≤ 12 ∧ SgC S h (sT S 1409 d) (12 * i) (fP fs i)
theorem DFp.r {S : Shp} {d : Nat} {F : List Nat} {h h' : Hp} {fs : List (List Nat × List Nat)} (fr : Fr S d F h h') (hd : sK S d = 12) (D : DFp S h d fs) (h1 : 1408 ∉ F ∧ 1409 ∉ F ∧ 1410 ∉ F ∧ ltF4 F := by decide) : DFp S h' d fs := by
  obtain ⟨q1, q2, q3, q5⟩ := h1
  refine ⟨(fr.i 1408 q1).trans D.1, D.2.1, fun i hi => ?_⟩
  obtain ⟨a1, a2, a3⟩ := D.2.2 i hi
  exact ⟨by rw [fr.ai (by have := kT1410 fr.1 hd; omega) (by decide) q3 q5]; exact a1, a2, fr.sg (by decide) q2 q5 a3⟩
theorem DFi.n {S : Shp} {d : Nat} {h : Hp} {fs : List (List Nat × List Nat)} (D : DFi S h d fs) : DFp S h d fs := ⟨D.1, D.2.1, fun i hi => by obtain ⟨a1, a2, a3, a4, a5⟩ := D.2.2 i hi; exact ⟨a1, a2, a3⟩⟩
/-- where the file goes -/
def fsJ (fs fq : List (List Nat × List Nat)) (n : List Nat) (i : Nat) : Prop := i < fq.length ∧ fP fq i = n ∧ (∀ x, fsPut fs n x = fq.set i (n, x)) ∧ ∀ j, j < fq.length → j ≠ i → j < fs.length ∧ fB fq j = fB fs j
theorem fsJ_old {fs : List (List Nat × List Nat)} {n : List Nat} {j : Nat} (h : fix fs n = (j : Int)) : fsJ fs fs n j := by
  have r := fix_rg fs n
  have f := srF_first (p := fun i => fP fs i == n) h
  refine ⟨by omega, eq_of_beq f.2.1, fun x => ?_, fun k h1 _ => ⟨h1, rfl⟩⟩
  unfold fsPut
  rw [if_neg (by omega), h, Int.toNat_natCast]
theorem fsJ_new {fs : List (List Nat × List Nat)} {n : List Nat} (h : fix fs n < 0) : fsJ fs (fs ++ [(n, [])]) n fs.length := by
  have l : (fs ++ [(n, ([] : List Nat))]).length = fs.length + 1 := by rw [List.length_append]; rfl
  refine ⟨by omega, by rw [(fq_snoc _ _ _).1, if_pos rfl], fun x => ?_, fun k h1 h2 => ⟨by omega, by rw [(fq_snoc _ _ _).2, if_neg h2]⟩⟩
  unfold fsPut
  rw [if_pos h]
  simp
theorem DFp.add {S : Shp} {d : Nat} {h h' : Hp} {fs : List (List Nat × List Nat)} {n : List Nat} (ok : Ok S h') (hd : sK S d = 12) (D : DFp S h d fs) (h6 : fs.length < 16) (h8 : n.length ≤ 12) (C : FI h' 1408 d = ((fs.length + 1 : Nat) : Int)) (U15 : ArU S h' d 1410 (fun j => if j = fs.length then ((n.length : Nat) : Int) else AI h (sT S 1410 d) j)) (U14 : ArU S h' d 1409 (cpF (AI h (sT S 1409 d)) (12 * fs.length) n.length n)) : DFp S h' d (fs ++ [(n, [])]) := by
  have l : (fs ++ [(n, ([] : List Nat))]).length = fs.length + 1 := by rw [List.length_append]; rfl
  refine ⟨by rw [l]; exact C, by omega, fun i hi => ?_⟩
  rw [l] at hi
  rw [(fq_snoc _ _ _).1]
  by_cases q : i = fs.length
  · rw [if_pos q, U15 i]
    dsimp only
    rw [if_pos q, q]
    exact ⟨rfl, h8, SgC.cpF U14 (kT1409 ok hd) (by rw [sLD ok hd]; show 12 * fs.length + n.length ≤ 192; omega) (by rw [sLD ok hd]; decide)⟩
  · rw [if_neg q, U15 i]
    dsimp only
    rw [if_neg q]
    obtain ⟨a1, a2, a3⟩ := D.2.2 i (by omega)
    refine ⟨a1, a2, a3.fn (fun j hj => ?_)⟩
    rw [U14 (12 * i + j)]
    exact if_neg (by omega)
theorem fsJ_end {S : Shp} {d i : Nat} {h h' : Hp} {fs fq : List (List Nat × List Nat)} {n x : List Nat} (ok : Ok S h') (hd : sK S d = 12) (J : fsJ fs fq n i) (DP : DFp S h' d fq) (D : DFi S h d fs) (hx : x.length ≤ 160) (U12 : ArU S h' d 1412 (fun j => if j = i then ((x.length : Nat) : Int) else AI h (sT S 1412 d) j)) (U11 : ArU S h' d 1411 (cpF (AI h (sT S 1411 d)) (160 * i) x.length x)) : DFi S h' d (fsPut fs n x) := by
  obtain ⟨j1, j2, j3, j4⟩ := J
  have h16 := DP.2.1
  rw [j3]
  refine ⟨by rw [List.length_set]; exact DP.1, by rw [List.length_set]; exact DP.2.1, fun k hk2 => ?_⟩
  rw [List.length_set] at hk2
  obtain ⟨a1, a2, a3⟩ := DP.2.2 k hk2
  have e : fP (fq.set i (n, x)) k = fP fq k := by
    rw [(fq_set j1).1]
    by_cases q : k = i
    · rw [if_pos q, q, j2]
    · rw [if_neg q]
  rw [e, (fq_set j1).2, U12 k]
  dsimp only
  by_cases q : k = i
  · rw [if_pos q, if_pos q, q]
    refine ⟨by rw [← q]; exact a1, by rw [← q]; exact a2, by rw [← q]; exact a3, rfl, hx, SgC.cpF U11 (kT1411 ok hd) (by rw [sLD ok hd]; show 160 * i + x.length ≤ 2560; omega) (by rw [sLD ok hd]; decide)⟩
  · obtain ⟨z1, z2⟩ := j4 k hk2 q
    obtain ⟨b1, b2, b3, b4, b5, b6⟩ := D.2.2 k z1
    rw [if_neg q, if_neg q, z2]
    refine ⟨a1, a2, a3, b4, b5, b6.fn (fun j hj => ?_)⟩
    rw [U11 (160 * k + j)]
    exact if_neg (by omega)
theorem untold_le {c : Nat} (h : c ≤ 255) : untold c ≤ 255 := by
  unfold untold
  split <;> omega
theorem d238_0 : dc 238 0 = some (.aload_n 0, 1) := by decide +kernel
theorem d238_1 : dc 238 1 = some (.getfield 1743, 4) := by decide +kernel
theorem d238_4 : dc 238 4 = some (.aload_n 0, 5) := by decide +kernel
theorem d238_5 : dc 238 5 = some (.getfield 1742, 8) := by decide +kernel
theorem d238_8 : dc 238 8 = some (.isub, 9) := by decide +kernel
theorem d238_9 : dc 238 9 = some (.istore_n 1, 10) := by decide +kernel
theorem d238_10 : dc 238 10 = some (.aload_n 0, 11) := by decide +kernel
theorem d238_11 : dc 238 11 = some (.dload 1664, 14) := by decide +kernel
theorem d238_14 : dc 238 14 = some (.aload_n 0, 15) := by decide +kernel
theorem d238_15 : dc 238 15 = some (.dload 1730, 18) := by decide +kernel
theorem d238_18 : dc 238 18 = some (.aload_n 0, 19) := by decide +kernel
theorem d238_19 : dc 238 19 = some (.getfield 1742, 22) := by decide +kernel
theorem d238_22 : dc 238 22 = some (.iload_n 1, 23) := by decide +kernel
theorem d238_23 : dc 238 23 = some (.invokevirtual 225, 26) := by decide +kernel
theorem d238_26 : dc 238 26 = some (.istore_n 2, 27) := by decide +kernel
theorem d238_27 : dc 238 27 = some (.iload_n 2, 28) := by decide +kernel
theorem d238_28 : dc 238 28 = some (.ifCond .ge ((100 : Nat) : Int), 31) := by decide +kernel
theorem d238_31 : dc 238 31 = some (.aload_n 0, 32) := by decide +kernel
theorem d238_32 : dc 238 32 = some (.dload 1664, 35) := by decide +kernel
theorem d238_35 : dc 238 35 = some (.getfield 1408, 38) := by decide +kernel
theorem d238_38 : dc 238 38 = some (.istore_n 2, 39) := by decide +kernel
theorem d238_39 : dc 238 39 = some (.aload_n 0, 40) := by decide +kernel
theorem d238_40 : dc 238 40 = some (.dload 1664, 43) := by decide +kernel
theorem d238_43 : dc 238 43 = some (.dup, 44) := by decide +kernel
theorem d238_44 : dc 238 44 = some (.getfield 1408, 47) := by decide +kernel
theorem d238_47 : dc 238 47 = some (.iconst 1, 48) := by decide +kernel
theorem d238_48 : dc 238 48 = some (.iadd, 49) := by decide +kernel
theorem d238_49 : dc 238 49 = some (.putfield 1408, 52) := by decide +kernel
theorem d238_52 : dc 238 52 = some (.aload_n 0, 53) := by decide +kernel
theorem d238_53 : dc 238 53 = some (.dload 1664, 56) := by decide +kernel
theorem d238_56 : dc 238 56 = some (.dload 1410, 59) := by decide +kernel
theorem d238_59 : dc 238 59 = some (.iload_n 2, 60) := by decide +kernel
theorem d238_60 : dc 238 60 = some (.iload_n 1, 61) := by decide +kernel
theorem d238_61 : dc 238 61 = some (.iastore, 62) := by decide +kernel
theorem d238_62 : dc 238 62 = some (.iconst 0, 63) := by decide +kernel
theorem d238_63 : dc 238 63 = some (.istore_n 3, 64) := by decide +kernel
theorem d238_64 : dc 238 64 = some (.iload_n 3, 65) := by decide +kernel
theorem d238_65 : dc 238 65 = some (.iload_n 1, 66) := by decide +kernel
theorem d238_66 : dc 238 66 = some (.if_icmp .ge ((100 : Nat) : Int), 69) := by decide +kernel
theorem d238_69 : dc 238 69 = some (.aload_n 0, 70) := by decide +kernel
theorem d238_70 : dc 238 70 = some (.dload 1664, 73) := by decide +kernel
theorem d238_73 : dc 238 73 = some (.dload 1409, 76) := by decide +kernel
theorem d238_76 : dc 238 76 = some (.bipush 12, 78) := by decide +kernel
theorem d238_78 : dc 238 78 = some (.iload_n 2, 79) := by decide +kernel
theorem d238_79 : dc 238 79 = some (.imul, 80) := by decide +kernel
theorem d238_80 : dc 238 80 = some (.iload_n 3, 81) := by decide +kernel
theorem d238_81 : dc 238 81 = some (.iadd, 82) := by decide +kernel
theorem d238_82 : dc 238 82 = some (.aload_n 0, 83) := by decide +kernel
theorem d238_83 : dc 238 83 = some (.dload 1730, 86) := by decide +kernel
theorem d238_86 : dc 238 86 = some (.aload_n 0, 87) := by decide +kernel
theorem d238_87 : dc 238 87 = some (.getfield 1742, 90) := by decide +kernel
theorem d238_90 : dc 238 90 = some (.iload_n 3, 91) := by decide +kernel
theorem d238_91 : dc 238 91 = some (.iadd, 92) := by decide +kernel
theorem d238_92 : dc 238 92 = some (.iaload, 93) := by decide +kernel
theorem d238_93 : dc 238 93 = some (.iastore, 94) := by decide +kernel
theorem d238_94 : dc 238 94 = some (.iinc 3 1, 97) := by decide +kernel
theorem d238_97 : dc 238 97 = some (.goto ((64 : Nat) : Int), 100) := by decide +kernel
theorem d238_100 : dc 238 100 = some (.aload_n 0, 101) := by decide +kernel
theorem d238_101 : dc 238 101 = some (.dload 1664, 104) := by decide +kernel
theorem d238_104 : dc 238 104 = some (.dload 1412, 107) := by decide +kernel
theorem d238_107 : dc 238 107 = some (.iload_n 2, 108) := by decide +kernel
theorem d238_108 : dc 238 108 = some (.aload_n 0, 109) := by decide +kernel
theorem d238_109 : dc 238 109 = some (.getfield 1747, 112) := by decide +kernel
theorem d238_112 : dc 238 112 = some (.aload_n 0, 113) := by decide +kernel
theorem d238_113 : dc 238 113 = some (.getfield 1746, 116) := by decide +kernel
theorem d238_116 : dc 238 116 = some (.isub, 117) := by decide +kernel
theorem d238_117 : dc 238 117 = some (.iastore, 118) := by decide +kernel
theorem d238_118 : dc 238 118 = some (.iconst 0, 119) := by decide +kernel
theorem d238_119 : dc 238 119 = some (.istore_n 3, 120) := by decide +kernel
theorem d238_120 : dc 238 120 = some (.iload_n 3, 121) := by decide +kernel
theorem d238_121 : dc 238 121 = some (.aload_n 0, 122) := by decide +kernel
theorem d238_122 : dc 238 122 = some (.dload 1664, 125) := by decide +kernel
theorem d238_125 : dc 238 125 = some (.dload 1412, 128) := by decide +kernel
theorem d238_128 : dc 238 128 = some (.iload_n 2, 129) := by decide +kernel
theorem d238_129 : dc 238 129 = some (.iaload, 130) := by decide +kernel
theorem d238_130 : dc 238 130 = some (.if_icmp .ge ((186 : Nat) : Int), 133) := by decide +kernel
theorem d238_133 : dc 238 133 = some (.aload_n 0, 134) := by decide +kernel
theorem d238_134 : dc 238 134 = some (.dload 1664, 137) := by decide +kernel
theorem d238_137 : dc 238 137 = some (.dload 1411, 140) := by decide +kernel
theorem d238_140 : dc 238 140 = some (.sipush 160, 143) := by decide +kernel
theorem d238_143 : dc 238 143 = some (.iload_n 2, 144) := by decide +kernel
theorem d238_144 : dc 238 144 = some (.imul, 145) := by decide +kernel
theorem d238_145 : dc 238 145 = some (.iload_n 3, 146) := by decide +kernel
theorem d238_146 : dc 238 146 = some (.iadd, 147) := by decide +kernel
theorem d238_147 : dc 238 147 = some (.aload_n 0, 148) := by decide +kernel
theorem d238_148 : dc 238 148 = some (.dload 1730, 151) := by decide +kernel
theorem d238_151 : dc 238 151 = some (.aload_n 0, 152) := by decide +kernel
theorem d238_152 : dc 238 152 = some (.getfield 1746, 155) := by decide +kernel
theorem d238_155 : dc 238 155 = some (.iload_n 3, 156) := by decide +kernel
theorem d238_156 : dc 238 156 = some (.iadd, 157) := by decide +kernel
theorem d238_157 : dc 238 157 = some (.iaload, 158) := by decide +kernel
theorem d238_158 : dc 238 158 = some (.bipush 124, 160) := by decide +kernel
theorem d238_160 : dc 238 160 = some (.if_icmp .ne ((168 : Nat) : Int), 163) := by decide +kernel
theorem d238_163 : dc 238 163 = some (.bipush 10, 165) := by decide +kernel
theorem d238_165 : dc 238 165 = some (.goto ((179 : Nat) : Int), 168) := by decide +kernel
theorem d238_168 : dc 238 168 = some (.aload_n 0, 169) := by decide +kernel
theorem d238_169 : dc 238 169 = some (.dload 1730, 172) := by decide +kernel
theorem d238_172 : dc 238 172 = some (.aload_n 0, 173) := by decide +kernel
theorem d238_173 : dc 238 173 = some (.getfield 1746, 176) := by decide +kernel
theorem d238_176 : dc 238 176 = some (.iload_n 3, 177) := by decide +kernel
theorem d238_177 : dc 238 177 = some (.iadd, 178) := by decide +kernel
theorem d238_178 : dc 238 178 = some (.iaload, 179) := by decide +kernel
theorem d238_179 : dc 238 179 = some (.iastore, 180) := by decide +kernel
theorem d238_180 : dc 238 180 = some (.iinc 3 1, 183) := by decide +kernel
theorem d238_183 : dc 238 183 = some (.goto ((120 : Nat) : Int), 186) := by decide +kernel
theorem d238_186 : dc 238 186 = some (.return_, 187) := by decide +kernel
theorem k_M_putFile {S : Shp} {G : Nat → Option Nat} {d : Nat} {h : Hp} {Q : Option MV → Hp → Prop} {m : Nat} {f e tf te : Nat} {n l : List Nat} {fs : List (List Nat × List Nat)} (ok : Ok S h) (h1 : 2 ≤ d) (hm : sK S m = 14) (NM_ : NmR h m f e) (SG_ : SgC S h (sT S 1730 m) f n) (FD : DFi S h (sT S 1664 m) fs) (RQ_ : RqR S h m l) (T1_ : FI h 1746 m = ((tf : Nat) : Int)) (T2_ : FI h 1747 m = ((te : Nat) : Int)) (hn : f + n.length = e) (h8 : n.length ≤ 12) (ht : tf ≤ te ∧ te ≤ l.length ∧ te - tf ≤ 160) (hr : fix fs n < 0 → fs.length < 16)
    (kk : ∀ h', Fr S (sT S 1664 m) [1408, 1409, 1410, 1411, 1412] h h' → DFi S h' (sT S 1664 m) (fsPut fs n ((sl l tf te).map untold)) → Q none h') : Cl G d 238 [vR (some m)] h Q := by
  show Wp G d 238 0 [some (vR (some m)), none, none, none] [] h Q
  have NM__0 := NM_
  have SG__0 := SG_
  have FD_0 := FD
  have RQ__0 := RQ_
  have T1__0 := T1_
  have T2__0 := T2_
  have hd0 := kT1664 ok hm
  have rg_ := fix_rg fs n
  have sb := SG_.2.1
  have sb2 := SG_.2.2.1
  have g6 := FD.2.1
  have xl : ((sl l tf te).map untold).length = te - tf := by rw [List.length_map, sl_len ⟨ht.1, ht.2.1⟩]
  have l9 := RQ_.2.1
  refine w_aload_n d238_0 rfl ?_
  refine w_getI (x := ((e : Nat) : Int)) d238_1 (ok.kd hm) NM_.2 ?_
  refine w_aload_n d238_4 rfl ?_
  refine w_getI (x := ((f : Nat) : Int)) d238_5 (ok.kd hm) NM_.1 ?_
  refine w_isub d238_8 (by constructor <;> omega) ?_
  rw [show ((e : Nat) : Int) - ((f : Nat) : Int) = ((n.length : Nat) : Int) by omega]
  refine w_istore1 d238_9 rfl ?_
  refine w_aload_n d238_10 rfl ?_
  refine w_dloadS d238_11 (ok.kd hm) (fr1664 ok hm) ?_
  refine w_aload_n d238_14 rfl ?_
  refine w_dloadS d238_15 (ok.kd hm) (fr1730 ok hm) ?_
  refine w_aload_n d238_18 rfl ?_
  refine w_getI (x := ((f : Nat) : Int)) d238_19 (ok.kd hm) NM_.1 ?_
  refine w_iload_n d238_22 rfl ?_
  refine w_callv4 d238_23 (by omega) rfl (ok.kd (kT1664 ok hm)) (by simp) (Nat.le_of_ble_eq_true rfl) ?_
  refine k_D_file ok (by omega) (kT1664 ok hm) FD rfl SG_ ?_
  refine w_istore2 d238_26 rfl ?_
  have DP_ := FD.n
  have U12 : ArU S h (sT S 1664 m) 1412 (AI h (sT S 1412 (sT S 1664 m))) := fun _ => rfl
  have U11 : ArU S h (sT S 1664 m) 1411 (AI h (sT S 1411 (sT S 1664 m))) := fun _ => rfl
  refine w_iload_n d238_27 rfl ?_
  have L100 : ∀ (m100 : Nat) (b_ : Hp) (i : Nat) (fq : List (List Nat × List Nat)), 0 = m100 → Fr S (sT S 1664 m) [1408, 1409, 1410, 1411, 1412] h b_ → (fsJ fs fq n i) → (DFp S b_ (sT S 1664 m) fq) → (ArU S b_ (sT S 1664 m) 1412 (AI h (sT S 1412 (sT S 1664 m)))) → (ArU S b_ (sT S 1664 m) 1411 (AI h (sT S 1411 (sT S 1664 m)))) → Wp G d 238 100 [some (vR (some m)), some (vI (n.length : Nat)), some (vI (i : Nat)), none] [] b_ Q := by
    intro m100
    induction m100 using Nat.strongRecOn with | ind m100 IH100 => ?_
    intro b_ i fq hm100 FRb_ gj DP_ U12 U11
    have okb_ := FRb_.ok
    have NM_ := NmR.s FRb_ hm NM__0
    have SG_ := SgC.s FRb_ hm SG__0
    have RQ_ := RqR.s FRb_ hm RQ__0
    have T1_ := (Fr.si FRb_ hm 1746).trans T1__0
    have T2_ := (Fr.si FRb_ hm 1747).trans T2__0
    refine w_aload_n d238_100 rfl ?_
    refine w_dloadS d238_101 (okb_.kd hm) (fr1664 okb_ hm) ?_
    refine w_dloadS d238_104 (okb_.kd (kT1664 okb_ hm)) (fr1412 okb_ (kT1664 okb_ hm)) ?_
    have i16 : i < 16 := by have := gj.1; have := DP_.2.1; omega
    refine w_iload_n d238_107 rfl ?_
    refine w_aload_n d238_108 rfl ?_
    refine w_getI (x := ((te : Nat) : Int)) d238_109 (okb_.kd hm) T2_ ?_
    refine w_aload_n d238_112 rfl ?_
    refine w_getI (x := ((tf : Nat) : Int)) d238_113 (okb_.kd hm) T1_ ?_
    refine w_isub d238_116 (by constructor <;> omega) ?_
    rw [show ((te : Nat) : Int) - ((tf : Nat) : Int) = ((((sl l tf te).map untold).length : Nat) : Int) by omega]
    refine wa1412 d238_117 okb_ (kT1664 okb_ hm) (by omega) (by omega) (fun h117 e117 m117 => ?_)
    have e117 : h117 = sAI b_ (sT S 1412 (sT S 1664 m)) i ((((sl l tf te).map untold).length : Nat) : Int) := e117
    have f117 : Fr S (sT S 1664 m) [1412] _ _ := Fr.wBd okb_ hd0 m117 (fun ζ e => ⟨1412, by decide, by decide, e ▸ U_refl⟩)
    have ok117 := f117.ok
    have FR117 := Fr.tr (F := [1408, 1409, 1410, 1411, 1412]) FRb_ f117 (by decide) (by decide)
    have U11 := ArU.r f117 hd0 U11
    have NM_ := NmR.s f117 hm NM_
    have SG_ := SgC.s f117 hm SG_
    have RQ_ := RqR.s f117 hm RQ_
    have T1_ := (Fr.si f117 hm 1746).trans T1_
    have T2_ := (Fr.si f117 hm 1747).trans T2_
    have DP_ := DFp.r f117 hd0 DP_
    have U12 : ArU S h117 (sT S 1664 m) 1412 (fun j => if j = i then ((((sl l tf te).map untold).length : Nat) : Int) else AI h (sT S 1412 (sT S 1664 m)) j) := U12.w e117 (fun _ => rfl)
    have U11 : ArU S h117 (sT S 1664 m) 1411 (cpF (AI h (sT S 1411 (sT S 1664 m))) (160 * i) 0 ((sl l tf te).map untold)) := by rw [cpF_0]; exact U11
    refine w_iconst d238_118 (by decide) ?_
    refine w_istore3 d238_119 rfl ?_
    have L120 : ∀ (m120 : Nat) (c_ : Hp) (k : Nat), ((sl l tf te).map untold).length - k = m120 → Fr S (sT S 1664 m) [1408, 1409, 1410, 1411, 1412] h c_ → (k ≤ ((sl l tf te).map untold).length) → (ArU S c_ (sT S 1664 m) 1411 (cpF (AI h (sT S 1411 (sT S 1664 m))) (160 * i) k ((sl l tf te).map untold))) → (ArU S c_ (sT S 1664 m) 1412 (fun j => if j = i then ((((sl l tf te).map untold).length : Nat) : Int) else AI h (sT S 1412 (sT S 1664 m)) j)) → (DFp S c_ (sT S 1664 m) fq) → Wp G d 238 120 [some (vR (some m)), some (vI (n.length : Nat)), some (vI (i : Nat)), some (vI (k : Nat))] [] c_ Q := by
      intro m120
      induction m120 using Nat.strongRecOn with | ind m120 IH120 => ?_
      intro c_ k hm120 FRc_ kl U11 U12 DP_
      have okc_ := FRc_.ok
      have NM_ := NmR.s FRc_ hm NM__0
      have SG_ := SgC.s FRc_ hm SG__0
      have RQ_ := RqR.s FRc_ hm RQ__0
      have T1_ := (Fr.si FRc_ hm 1746).trans T1__0
      have T2_ := (Fr.si FRc_ hm 1747).trans T2__0
      refine w_iload_n d238_120 rfl ?_
      refine w_aload_n d238_121 rfl ?_
      refine w_dloadS d238_122 (okc_.kd hm) (fr1664 okc_ hm) ?_
      refine w_dloadS d238_125 (okc_.kd (kT1664 okc_ hm)) (fr1412 okc_ (kT1664 okc_ hm)) ?_
      refine w_iload_n d238_128 rfl ?_
      refine w_ialoadV (x := ((((sl l tf te).map untold).length : Nat) : Int)) d238_129 (gi1412 okc_ (kT1664 okc_ hm) (by omega)) ((U12 i).trans (if_pos rfl)) ?_
      refine w_icmpge d238_130 (fun c130 => ?_) (fun c130 => ?_)
      · have ek : k = ((sl l tf te).map untold).length := by omega
        rw [ek] at U11
        refine w_return d238_186 ?_
        exact kk _ FRc_ (fsJ_end okc_ hd0 gj DP_ FD_0 (by omega) U12 U11)
      · have hk : k < ((sl l tf te).map untold).length := by omega
        have hkl : tf + k < l.length := by omega
        have rc := ra1730 okc_ hm (tf + k)
        rw [RQ_.2.2.at0 hkl] at rc
        have xk : (((sl l tf te).map untold).getD k 0) = untold (l.getD (tf + k) 0) := by
          rw [List.getD_eq_getElem?_getD, List.getElem?_map, ← sl_gd (e := te) (by omega), List.getD_eq_getElem?_getD, List.getElem?_eq_getElem (by rw [sl_len ⟨ht.1, ht.2.1⟩]; omega)]
          rfl
        have xr := untold_le (c := l.getD (tf + k) 0) (by omega)
        rw [← xk] at xr
        refine w_aload_n d238_133 rfl ?_
        refine w_dloadS d238_134 (okc_.kd hm) (fr1664 okc_ hm) ?_
        refine w_dloadS d238_137 (okc_.kd (kT1664 okc_ hm)) (fr1411 okc_ (kT1664 okc_ hm)) ?_
        refine w_sipush d238_140 (by decide) ?_
        refine w_iload_n d238_143 rfl ?_
        refine w_imul d238_144 (by constructor <;> omega) ?_
        rw [show (160 : Int) * ((i : Nat) : Int) = ((160 * i : Nat) : Int) by omega]
        refine w_iload_n d238_145 rfl ?_
        refine w_iadd d238_146 (by constructor <;> omega) ?_
        rw [show ((160 * i : Nat) : Int) + ((k : Nat) : Int) = ((160 * i + k : Nat) : Int) by omega]
        refine w_aload_n d238_147 rfl ?_
        refine w_dloadS d238_148 (okc_.kd hm) (fr1730 okc_ hm) ?_
        refine w_aload_n d238_151 rfl ?_
        refine w_getI (x := ((tf : Nat) : Int)) d238_152 (okc_.kd hm) T1_ ?_
        refine w_iload_n d238_155 rfl ?_
        refine w_iadd d238_156 (by constructor <;> omega) ?_
        rw [show ((tf : Nat) : Int) + ((k : Nat) : Int) = ((tf + k : Nat) : Int) by omega]
        refine w_ialoadV (x := ((l.getD (tf + k) 0 : Nat) : Int)) d238_157 (gi1730 okc_ hm (by omega)) (RQ_.2.2.at0 hkl) ?_
        refine w_bipush d238_158 (by decide) ?_
        refine w_icmpne d238_160 (fun c160 => ?_) (fun c160 => ?_)
        · have xe : (((((sl l tf te).map untold).getD k 0) : Nat) : Int) = ((l.getD (tf + k) 0 : Nat) : Int) := by rw [xk]; unfold untold; rw [if_neg (by omega)]
          refine w_aload_n d238_168 rfl ?_
          refine w_dloadS d238_169 (okc_.kd hm) (fr1730 okc_ hm) ?_
          refine w_aload_n d238_172 rfl ?_
          refine w_getI (x := ((tf : Nat) : Int)) d238_173 (okc_.kd hm) T1_ ?_
          refine w_iload_n d238_176 rfl ?_
          refine w_iadd d238_177 (by constructor <;> omega) ?_
          rw [show ((tf : Nat) : Int) + ((k : Nat) : Int) = ((tf + k : Nat) : Int) by omega]
          refine w_ialoadV (x := ((l.getD (tf + k) 0 : Nat) : Int)) d238_178 (gi1730 okc_ hm (by omega)) (RQ_.2.2.at0 hkl) ?_
          rw [← xe]
          refine wa1411 d238_179 okc_ (kT1664 okc_ hm) (by omega) (by omega) (fun h179 e179 m179 => ?_)
          have e179 : h179 = sAI c_ (sT S 1411 (sT S 1664 m)) (160 * i + k) (((((sl l tf te).map untold).getD k 0) : Nat) : Int) := e179
          have f179 : Fr S (sT S 1664 m) [1411] _ _ := Fr.wBd okc_ hd0 m179 (fun ζ e => ⟨1411, by decide, by decide, e ▸ U_refl⟩)
          have ok179 := f179.ok
          have FR179 := Fr.tr (F := [1408, 1409, 1410, 1411, 1412]) FRc_ f179 (by decide) (by decide)
          have U12 := ArU.r f179 hd0 U12
          have DP_ := DFp.r f179 hd0 DP_
          have NM_ := NmR.s f179 hm NM_
          have SG_ := SgC.s f179 hm SG_
          have RQ_ := RqR.s f179 hm RQ_
          have T1_ := (Fr.si f179 hm 1746).trans T1_
          have T2_ := (Fr.si f179 hm 1747).trans T2_
          have U11 : ArU S h179 (sT S 1664 m) 1411 (cpF (AI h (sT S 1411 (sT S 1664 m))) (160 * i) (k + 1) ((sl l tf te).map untold)) := U11.w e179 (fun _ => cpF_s)
          refine w_iinc3 d238_180 rfl (by constructor <;> omega) ?_
          refine w_goto d238_183 ?_
          rw [show ((k : Nat) : Int) + 1 = ((k + 1 : Nat) : Int) by omega]
          refine w_less ?_ (IH120 _ (by omega) h179 (k + 1) rfl FR179 (by omega) U11 U12 DP_)
          exact ⟨Or.inr rfl, Or.inr rfl, Or.inr rfl, Or.inr rfl, trivial⟩
        · have xe : (((((sl l tf te).map untold).getD k 0) : Nat) : Int) = 10 := by rw [xk]; unfold untold; rw [if_pos (by omega)]; rfl
          refine w_bipush d238_163 (by decide) ?_
          rw [← xe]
          refine w_goto d238_165 ?_
          refine wa1411 d238_179 okc_ (kT1664 okc_ hm) (by omega) (by omega) (fun h179 e179 m179 => ?_)
          have e179 : h179 = sAI c_ (sT S 1411 (sT S 1664 m)) (160 * i + k) (((((sl l tf te).map untold).getD k 0) : Nat) : Int) := e179
          have f179 : Fr S (sT S 1664 m) [1411] _ _ := Fr.wBd okc_ hd0 m179 (fun ζ e => ⟨1411, by decide, by decide, e ▸ U_refl⟩)
          have ok179 := f179.ok
          have FR179 := Fr.tr (F := [1408, 1409, 1410, 1411, 1412]) FRc_ f179 (by decide) (by decide)
          have U12 := ArU.r f179 hd0 U12
          have DP_ := DFp.r f179 hd0 DP_
          have NM_ := NmR.s f179 hm NM_
          have SG_ := SgC.s f179 hm SG_
          have RQ_ := RqR.s f179 hm RQ_
          have T1_ := (Fr.si f179 hm 1746).trans T1_
          have T2_ := (Fr.si f179 hm 1747).trans T2_
          have U11 : ArU S h179 (sT S 1664 m) 1411 (cpF (AI h (sT S 1411 (sT S 1664 m))) (160 * i) (k + 1) ((sl l tf te).map untold)) := U11.w e179 (fun _ => cpF_s)
          refine w_iinc3 d238_180 rfl (by constructor <;> omega) ?_
          refine w_goto d238_183 ?_
          rw [show ((k : Nat) : Int) + 1 = ((k + 1 : Nat) : Int) by omega]
          refine w_less ?_ (IH120 _ (by omega) h179 (k + 1) rfl FR179 (by omega) U11 U12 DP_)
          exact ⟨Or.inr rfl, Or.inr rfl, Or.inr rfl, Or.inr rfl, trivial⟩
    refine w_less ?_ (L120 _ h117 0 rfl FR117 (Nat.zero_le _) U11 U12 DP_)
    exact ⟨Or.inr rfl, Or.inr rfl, Or.inr rfl, Or.inr rfl, trivial⟩
  refine w_ifge d238_28 (fun c28 => ?_) (fun c28 => ?_)
  · obtain ⟨j, hj⟩ : ∃ j : Nat, fix fs n = (j : Int) := ⟨(fix fs n).toNat, by omega⟩
    rw [hj]
    have gj : fsJ fs fs n j := fsJ_old hj
    refine w_less ?_ (L100 _ h _ _ rfl (Fr.refl ok) gj DP_ U12 U11)
    exact ⟨Or.inr rfl, Or.inr rfl, Or.inr rfl, Or.inl rfl, trivial⟩
  · have new : fix fs n < 0 := by omega
    have l6 := hr new
    have gj : fsJ fs (fs ++ [(n, [])]) n fs.length := fsJ_new new
    have DN0 := DP_
    have U10 : ArU S h (sT S 1664 m) 1410 (AI h (sT S 1410 (sT S 1664 m))) := fun _ => rfl
    have U9 : ArU S h (sT S 1664 m) 1409 (cpF (AI h (sT S 1409 (sT S 1664 m))) (12 * fs.length) 0 n) := by rw [cpF_0]; exact fun _ => rfl
    refine w_aload_n d238_31 rfl ?_
    refine w_dloadS d238_32 (ok.kd hm) (fr1664 ok hm) ?_
    refine w_getI (x := ((fs.length : Nat) : Int)) d238_35 (ok.kd (kT1664 ok hm)) FD.1 ?_
    refine w_istore2 d238_38 rfl ?_
    refine w_aload_n d238_39 rfl ?_
    refine w_dloadS d238_40 (ok.kd hm) (fr1664 ok hm) ?_
    refine w_dupR d238_43 ?_
    refine w_getI (x := ((fs.length : Nat) : Int)) d238_44 (ok.kd (kT1664 ok hm)) FD.1 ?_
    refine w_iconst d238_47 (by decide) ?_
    refine w_iadd d238_48 (by constructor <;> omega) ?_
    refine wf1408 d238_49 ok (kT1664 ok hm) (by omega) (fun h49 e49 m49 => ?_)
    have f49 : Fr S (sT S 1664 m) [1408] _ _ := Fr.wF ok m49 (FK.pI e49)
    have ok49 := f49.ok
    have FR49 := Fr.le (F := [1408, 1409, 1410, 1411, 1412]) f49 (by decide)
    have NM_ := NmR.s f49 hm NM_
    have SG_ := SgC.s f49 hm SG_
    have RQ_ := RqR.s f49 hm RQ_
    have T1_ := (Fr.si f49 hm 1746).trans T1_
    have T2_ := (Fr.si f49 hm 1747).trans T2_
    have U12 := ArU.r f49 hd0 U12
    have U11 := ArU.r f49 hd0 U11
    have U10 := ArU.r f49 hd0 U10
    have U9 := ArU.r f49 hd0 U9
    have C8 : FI h49 1408 (sT S 1664 m) = ((fs.length + 1 : Nat) : Int) := by rw [e49, FI_sFI, if_pos ⟨rfl, rfl⟩]; rfl
    refine w_aload_n d238_52 rfl ?_
    refine w_dloadS d238_53 (ok49.kd hm) (fr1664 ok49 hm) ?_
    refine w_dloadS d238_56 (ok49.kd (kT1664 ok49 hm)) (fr1410 ok49 (kT1664 ok49 hm)) ?_
    refine w_iload_n d238_59 rfl ?_
    refine w_iload_n d238_60 rfl ?_
    refine wa1410 d238_61 ok49 (kT1664 ok49 hm) (by omega) (by omega) (fun h61 e61 m61 => ?_)
    have e61 : h61 = sAI h49 (sT S 1410 (sT S 1664 m)) fs.length ((n.length : Nat) : Int) := e61
    have f61 : Fr S (sT S 1664 m) [1410] _ _ := Fr.wBd ok49 hd0 m61 (fun ζ e => ⟨1410, by decide, by decide, e ▸ U_refl⟩)
    have ok61 := f61.ok
    have FR61 := Fr.tr (F := [1408, 1409, 1410, 1411, 1412]) FR49 f61 (by decide) (by decide)
    have NM_ := NmR.s f61 hm NM_
    have SG_ := SgC.s f61 hm SG_
    have RQ_ := RqR.s f61 hm RQ_
    have T1_ := (Fr.si f61 hm 1746).trans T1_
    have T2_ := (Fr.si f61 hm 1747).trans T2_
    have U12 := ArU.r f61 hd0 U12
    have U11 := ArU.r f61 hd0 U11
    have U9 := ArU.r f61 hd0 U9
    have C8 := (Fr.i f61 1408).trans C8
    have U10 : ArU S h61 (sT S 1664 m) 1410 (fun j => if j = fs.length then ((n.length : Nat) : Int) else AI h (sT S 1410 (sT S 1664 m)) j) := U10.w e61 (fun _ => rfl)
    refine w_iconst d238_62 (by decide) ?_
    refine w_istore3 d238_63 rfl ?_
    have L64 : ∀ (m64 : Nat) (g_ : Hp) (k : Nat), n.length - k = m64 → Fr S (sT S 1664 m) [1408, 1409, 1410, 1411, 1412] h g_ → (k ≤ n.length) → (ArU S g_ (sT S 1664 m) 1409 (cpF (AI h (sT S 1409 (sT S 1664 m))) (12 * fs.length) k n)) → (FI g_ 1408 (sT S 1664 m) = ((fs.length + 1 : Nat) : Int)) → (ArU S g_ (sT S 1664 m) 1410 (fun j => if j = fs.length then ((n.length : Nat) : Int) else AI h (sT S 1410 (sT S 1664 m)) j)) → (ArU S g_ (sT S 1664 m) 1412 (AI h (sT S 1412 (sT S 1664 m)))) → (ArU S g_ (sT S 1664 m) 1411 (AI h (sT S 1411 (sT S 1664 m)))) → Wp G d 238 64 [some (vR (some m)), some (vI (n.length : Nat)), some (vI (fs.length : Nat)), some (vI (k : Nat))] [] g_ Q := by
      intro m64
      induction m64 using Nat.strongRecOn with | ind m64 IH64 => ?_
      intro g_ k hm64 FRg_ kl U9 C8 U10 U12 U11
      have okg_ := FRg_.ok
      have NM_ := NmR.s FRg_ hm NM__0
      have SG_ := SgC.s FRg_ hm SG__0
      have RQ_ := RqR.s FRg_ hm RQ__0
      have T1_ := (Fr.si FRg_ hm 1746).trans T1__0
      have T2_ := (Fr.si FRg_ hm 1747).trans T2__0
      refine w_iload_n d238_64 rfl ?_
      refine w_iload_n d238_65 rfl ?_
      refine w_icmpge d238_66 (fun c66 => ?_) (fun c66 => ?_)
      · have ek : k = n.length := by omega
        rw [ek] at U9
        have DP_ := DFp.add okg_ hd0 DN0 l6 h8 C8 U10 U9
        refine w_less ?_ (L100 _ g_ _ _ rfl FRg_ gj DP_ U12 U11)
        exact ⟨Or.inr rfl, Or.inr rfl, Or.inr rfl, Or.inl rfl, trivial⟩
      · have hk : k < n.length := by omega
        have rc := ra1730 okg_ hm (f + k)
        rw [SG_.2.2.2 k hk] at rc
        refine w_aload_n d238_69 rfl ?_
        refine w_dloadS d238_70 (okg_.kd hm) (fr1664 okg_ hm) ?_
        refine w_dloadS d238_73 (okg_.kd (kT1664 okg_ hm)) (fr1409 okg_ (kT1664 okg_ hm)) ?_
        refine w_bipush d238_76 (by decide) ?_
        refine w_iload_n d238_78 rfl ?_
        refine w_imul d238_79 (by constructor <;> omega) ?_
        refine w_iload_n d238_80 rfl ?_
        rw [show (12 : Int) * ((fs.length : Nat) : Int) = ((12 * fs.length : Nat) : Int) by omega]
        refine w_iadd d238_81 (by constructor <;> omega) ?_
        rw [show ((12 * fs.length : Nat) : Int) + ((k : Nat) : Int) = ((12 * fs.length + k : Nat) : Int) by omega]
        refine w_aload_n d238_82 rfl ?_
        refine w_dloadS d238_83 (okg_.kd hm) (fr1730 okg_ hm) ?_
        refine w_aload_n d238_86 rfl ?_
        refine w_getI (x := ((f : Nat) : Int)) d238_87 (okg_.kd hm) NM_.1 ?_
        refine w_iload_n d238_90 rfl ?_
        refine w_iadd d238_91 (by constructor <;> omega) ?_
        refine w_ialoadV (x := ((n.getD k 0 : Nat) : Int)) d238_92 (SG_.g okg_ hk) (SG_.at hk) ?_
        refine wa1409 d238_93 okg_ (kT1664 okg_ hm) (by omega) (by omega) (fun h93 e93 m93 => ?_)
        have e93 : h93 = sAI g_ (sT S 1409 (sT S 1664 m)) (12 * fs.length + k) ((n.getD k 0 : Nat) : Int) := e93
        have f93 : Fr S (sT S 1664 m) [1409] _ _ := Fr.wBd okg_ hd0 m93 (fun ζ e => ⟨1409, by decide, by decide, e ▸ U_refl⟩)
        have ok93 := f93.ok
        have FR93 := Fr.tr (F := [1408, 1409, 1410, 1411, 1412]) FRg_ f93 (by decide) (by decide)
        have C8 := (Fr.i f93 1408).trans C8
        have U10 := ArU.r f93 hd0 U10
        have U12 := ArU.r f93 hd0 U12
        have U11 := ArU.r f93 hd0 U11
        have NM_ := NmR.s f93 hm NM_
        have SG_ := SgC.s f93 hm SG_
        have RQ_ := RqR.s f93 hm RQ_
        have T1_ := (Fr.si f93 hm 1746).trans T1_
        have T2_ := (Fr.si f93 hm 1747).trans T2_
        have U9 : ArU S h93 (sT S 1664 m) 1409 (cpF (AI h (sT S 1409 (sT S 1664 m))) (12 * fs.length) (k + 1) n) := U9.w e93 (fun _ => cpF_s)
        refine w_iinc3 d238_94 rfl (by constructor <;> omega) ?_
        refine w_goto d238_97 ?_
        rw [show ((k : Nat) : Int) + 1 = ((k + 1 : Nat) : Int) by omega]
        refine w_less ?_ (IH64 _ (by omega) h93 (k + 1) rfl FR93 (by omega) U9 C8 U10 U12 U11)
        exact ⟨Or.inr rfl, Or.inr rfl, Or.inr rfl, Or.inr rfl, trivial⟩
    refine w_less ?_ (L64 _ h61 0 rfl FR61 (Nat.zero_le _) U9 C8 U10 U12 U11)
    exact ⟨Or.inr rfl, Or.inr rfl, Or.inr rfl, Or.inr rfl, trivial⟩
