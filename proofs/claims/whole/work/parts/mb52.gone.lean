/-! the reference: a file is gone -/
/-- from a to b moved down by s -/
def shF (g : Nat → Int) (a b s : Nat) : Nat → Int := fun p => if a ≤ p ∧ p < b then g (p + s) else g p
theorem shF_0 {g : Nat → Int} {a s : Nat} : shF g a a s = g := by
  funext p
  unfold shF
  rw [if_neg (by omega)]
theorem shF_s {g : Nat → Int} {a b s i : Nat} (h : a ≤ b) : shF g a (b + 1) s i = if i = b then g (b + s) else shF g a b s i := by
  unfold shF
  by_cases q : i = b
  · rw [if_pos q, if_pos (by omega), q]
  · rw [if_neg q]
    by_cases z : a ≤ i ∧ i < b
    · rw [if_pos z, if_pos (by omega)]
    · rw [if_neg z, if_neg (by omega)]
theorem shF_g {g : Nat → Int} {a b s p : Nat} (h : b ≤ p) : shF g a b s p = g p := by
  unfold shF
  rw [if_neg (by omega)]
theorem fq_erase (fs : List (List Nat × List Nat)) (f i : Nat) : (fP (fs.eraseIdx f) i = if i < f then fP fs i else fP fs (i + 1)) ∧ fB (fs.eraseIdx f) i = if i < f then fB fs i else fB fs (i + 1) := by
  unfold fP fB
  rw [List.getD_eq_getElem?_getD, List.getElem?_eraseIdx]
  split
  · rw [← List.getD_eq_getElem?_getD]; exact ⟨rfl, rfl⟩
  · rw [← List.getD_eq_getElem?_getD]; exact ⟨rfl, rfl⟩
theorem SgC.sh {S : Shp} {d f b a e s : Nat} {h h' : Hp} {g : Nat → Int} {l : List Nat} (U : ArU S h' d f (shF (AI h (sT S f d)) a e s)) (D : SgC S h (sT S f d) (b + s) l) (hb : a ≤ b ∧ b + l.length ≤ e) : SgC S h' (sT S f d) b l := ⟨D.1, by have := D.2.1; omega, D.2.2.1, fun i hi => by
  rw [U (b + i)]
  show (if a ≤ b + i ∧ b + i < e then AI h (sT S f d) (b + i + s) else AI h (sT S f d) (b + i)) = _
  rw [if_pos ⟨by omega, by omega⟩, show b + i + s = b + s + i by omega]
  exact D.2.2.2 i hi⟩
theorem SgC.sh0 {S : Shp} {d f b a e s : Nat} {h h' : Hp} {l : List Nat} (U : ArU S h' d f (shF (AI h (sT S f d)) a e s)) (D : SgC S h (sT S f d) b l) (hb : b + l.length ≤ a) : SgC S h' (sT S f d) b l := D.fn (fun j hj => by
  rw [U (b + j)]
  exact if_neg (by omega))
theorem fq_gone {S : Shp} {d f : Nat} {h h' : Hp} {fs : List (List Nat × List Nat)} (D : DFi S h d fs) (hf : f < fs.length) (C : FI h' 1408 d = ((fs.length - 1 : Nat) : Int)) (U10 : ArU S h' d 1410 (shF (AI h (sT S 1410 d)) f (fs.length - 1) 1)) (U12 : ArU S h' d 1412 (shF (AI h (sT S 1412 d)) f (fs.length - 1) 1)) (U9 : ArU S h' d 1409 (shF (AI h (sT S 1409 d)) (12 * f) (12 * (fs.length - 1)) 12)) (U11 : ArU S h' d 1411 (shF (AI h (sT S 1411 d)) (160 * f) (160 * (fs.length - 1)) 160)) : DFi S h' d (fs.eraseIdx f) := by
  have l : (fs.eraseIdx f).length = fs.length - 1 := by rw [List.length_eraseIdx, if_pos hf]
  refine ⟨by rw [l]; exact C, by have := D.2.1; omega, fun i hi => ?_⟩
  rw [l] at hi
  rw [(fq_erase fs f i).1, (fq_erase fs f i).2, U10 i, U12 i]
  by_cases q : i < f
  · obtain ⟨a1, a2, a3, a4, a5, a6⟩ := D.2.2 i (by omega)
    rw [if_pos q, if_pos q]
    refine ⟨(if_neg (by omega)).trans a1, a2, SgC.sh0 U9 a3 (by omega), (if_neg (by omega)).trans a4, a5, SgC.sh0 U11 a6 (by omega)⟩
  · obtain ⟨a1, a2, a3, a4, a5, a6⟩ := D.2.2 (i + 1) (by omega)
    rw [if_neg q, if_neg q]
    exact ⟨(if_pos ⟨by omega, by omega⟩).trans a1, a2, SgC.sh (g := fun _ => 0) U9 (by rw [show 12 * i + 12 = 12 * (i + 1) by omega]; exact a3) ⟨by omega, by omega⟩, (if_pos ⟨by omega, by omega⟩).trans a4, a5, SgC.sh (g := fun _ => 0) U11 (by rw [show 160 * i + 160 = 160 * (i + 1) by omega]; exact a6) ⟨by omega, by omega⟩⟩
theorem d239_0 : dc 239 0 = some (.iload_n 1, 1) := by decide +kernel
theorem d239_1 : dc 239 1 = some (.istore_n 2, 2) := by decide +kernel
theorem d239_2 : dc 239 2 = some (.iload_n 2, 3) := by decide +kernel
theorem d239_3 : dc 239 3 = some (.iconst 1, 4) := by decide +kernel
theorem d239_4 : dc 239 4 = some (.iadd, 5) := by decide +kernel
theorem d239_5 : dc 239 5 = some (.aload_n 0, 6) := by decide +kernel
theorem d239_6 : dc 239 6 = some (.dload 1664, 9) := by decide +kernel
theorem d239_9 : dc 239 9 = some (.getfield 1408, 12) := by decide +kernel
theorem d239_12 : dc 239 12 = some (.if_icmp .ge ((155 : Nat) : Int), 15) := by decide +kernel
theorem d239_15 : dc 239 15 = some (.aload_n 0, 16) := by decide +kernel
theorem d239_16 : dc 239 16 = some (.dload 1664, 19) := by decide +kernel
theorem d239_19 : dc 239 19 = some (.dload 1410, 22) := by decide +kernel
theorem d239_22 : dc 239 22 = some (.iload_n 2, 23) := by decide +kernel
theorem d239_23 : dc 239 23 = some (.aload_n 0, 24) := by decide +kernel
theorem d239_24 : dc 239 24 = some (.dload 1664, 27) := by decide +kernel
theorem d239_27 : dc 239 27 = some (.dload 1410, 30) := by decide +kernel
theorem d239_30 : dc 239 30 = some (.iload_n 2, 31) := by decide +kernel
theorem d239_31 : dc 239 31 = some (.iconst 1, 32) := by decide +kernel
theorem d239_32 : dc 239 32 = some (.iadd, 33) := by decide +kernel
theorem d239_33 : dc 239 33 = some (.iaload, 34) := by decide +kernel
theorem d239_34 : dc 239 34 = some (.iastore, 35) := by decide +kernel
theorem d239_35 : dc 239 35 = some (.aload_n 0, 36) := by decide +kernel
theorem d239_36 : dc 239 36 = some (.dload 1664, 39) := by decide +kernel
theorem d239_39 : dc 239 39 = some (.dload 1412, 42) := by decide +kernel
theorem d239_42 : dc 239 42 = some (.iload_n 2, 43) := by decide +kernel
theorem d239_43 : dc 239 43 = some (.aload_n 0, 44) := by decide +kernel
theorem d239_44 : dc 239 44 = some (.dload 1664, 47) := by decide +kernel
theorem d239_47 : dc 239 47 = some (.dload 1412, 50) := by decide +kernel
theorem d239_50 : dc 239 50 = some (.iload_n 2, 51) := by decide +kernel
theorem d239_51 : dc 239 51 = some (.iconst 1, 52) := by decide +kernel
theorem d239_52 : dc 239 52 = some (.iadd, 53) := by decide +kernel
theorem d239_53 : dc 239 53 = some (.iaload, 54) := by decide +kernel
theorem d239_54 : dc 239 54 = some (.iastore, 55) := by decide +kernel
theorem d239_55 : dc 239 55 = some (.iconst 0, 56) := by decide +kernel
theorem d239_56 : dc 239 56 = some (.istore_n 3, 57) := by decide +kernel
theorem d239_57 : dc 239 57 = some (.iload_n 3, 58) := by decide +kernel
theorem d239_58 : dc 239 58 = some (.bipush 12, 60) := by decide +kernel
theorem d239_60 : dc 239 60 = some (.if_icmp .ge ((100 : Nat) : Int), 63) := by decide +kernel
theorem d239_63 : dc 239 63 = some (.aload_n 0, 64) := by decide +kernel
theorem d239_64 : dc 239 64 = some (.dload 1664, 67) := by decide +kernel
theorem d239_67 : dc 239 67 = some (.dload 1409, 70) := by decide +kernel
theorem d239_70 : dc 239 70 = some (.bipush 12, 72) := by decide +kernel
theorem d239_72 : dc 239 72 = some (.iload_n 2, 73) := by decide +kernel
theorem d239_73 : dc 239 73 = some (.imul, 74) := by decide +kernel
theorem d239_74 : dc 239 74 = some (.iload_n 3, 75) := by decide +kernel
theorem d239_75 : dc 239 75 = some (.iadd, 76) := by decide +kernel
theorem d239_76 : dc 239 76 = some (.aload_n 0, 77) := by decide +kernel
theorem d239_77 : dc 239 77 = some (.dload 1664, 80) := by decide +kernel
theorem d239_80 : dc 239 80 = some (.dload 1409, 83) := by decide +kernel
theorem d239_83 : dc 239 83 = some (.bipush 12, 85) := by decide +kernel
theorem d239_85 : dc 239 85 = some (.iload_n 2, 86) := by decide +kernel
theorem d239_86 : dc 239 86 = some (.imul, 87) := by decide +kernel
theorem d239_87 : dc 239 87 = some (.bipush 12, 89) := by decide +kernel
theorem d239_89 : dc 239 89 = some (.iadd, 90) := by decide +kernel
theorem d239_90 : dc 239 90 = some (.iload_n 3, 91) := by decide +kernel
theorem d239_91 : dc 239 91 = some (.iadd, 92) := by decide +kernel
theorem d239_92 : dc 239 92 = some (.iaload, 93) := by decide +kernel
theorem d239_93 : dc 239 93 = some (.iastore, 94) := by decide +kernel
theorem d239_94 : dc 239 94 = some (.iinc 3 1, 97) := by decide +kernel
theorem d239_97 : dc 239 97 = some (.goto ((57 : Nat) : Int), 100) := by decide +kernel
theorem d239_100 : dc 239 100 = some (.iconst 0, 101) := by decide +kernel
theorem d239_101 : dc 239 101 = some (.istore_n 3, 102) := by decide +kernel
theorem d239_102 : dc 239 102 = some (.iload_n 3, 103) := by decide +kernel
theorem d239_103 : dc 239 103 = some (.sipush 160, 106) := by decide +kernel
theorem d239_106 : dc 239 106 = some (.if_icmp .ge ((149 : Nat) : Int), 109) := by decide +kernel
theorem d239_109 : dc 239 109 = some (.aload_n 0, 110) := by decide +kernel
theorem d239_110 : dc 239 110 = some (.dload 1664, 113) := by decide +kernel
theorem d239_113 : dc 239 113 = some (.dload 1411, 116) := by decide +kernel
theorem d239_116 : dc 239 116 = some (.sipush 160, 119) := by decide +kernel
theorem d239_119 : dc 239 119 = some (.iload_n 2, 120) := by decide +kernel
theorem d239_120 : dc 239 120 = some (.imul, 121) := by decide +kernel
theorem d239_121 : dc 239 121 = some (.iload_n 3, 122) := by decide +kernel
theorem d239_122 : dc 239 122 = some (.iadd, 123) := by decide +kernel
theorem d239_123 : dc 239 123 = some (.aload_n 0, 124) := by decide +kernel
theorem d239_124 : dc 239 124 = some (.dload 1664, 127) := by decide +kernel
theorem d239_127 : dc 239 127 = some (.dload 1411, 130) := by decide +kernel
theorem d239_130 : dc 239 130 = some (.sipush 160, 133) := by decide +kernel
theorem d239_133 : dc 239 133 = some (.iload_n 2, 134) := by decide +kernel
theorem d239_134 : dc 239 134 = some (.imul, 135) := by decide +kernel
theorem d239_135 : dc 239 135 = some (.sipush 160, 138) := by decide +kernel
theorem d239_138 : dc 239 138 = some (.iadd, 139) := by decide +kernel
theorem d239_139 : dc 239 139 = some (.iload_n 3, 140) := by decide +kernel
theorem d239_140 : dc 239 140 = some (.iadd, 141) := by decide +kernel
theorem d239_141 : dc 239 141 = some (.iaload, 142) := by decide +kernel
theorem d239_142 : dc 239 142 = some (.iastore, 143) := by decide +kernel
theorem d239_143 : dc 239 143 = some (.iinc 3 1, 146) := by decide +kernel
theorem d239_146 : dc 239 146 = some (.goto ((102 : Nat) : Int), 149) := by decide +kernel
theorem d239_149 : dc 239 149 = some (.iinc 2 1, 152) := by decide +kernel
theorem d239_152 : dc 239 152 = some (.goto ((2 : Nat) : Int), 155) := by decide +kernel
theorem d239_155 : dc 239 155 = some (.aload_n 0, 156) := by decide +kernel
theorem d239_156 : dc 239 156 = some (.dload 1664, 159) := by decide +kernel
theorem d239_159 : dc 239 159 = some (.dup, 160) := by decide +kernel
theorem d239_160 : dc 239 160 = some (.getfield 1408, 163) := by decide +kernel
theorem d239_163 : dc 239 163 = some (.iconst 1, 164) := by decide +kernel
theorem d239_164 : dc 239 164 = some (.isub, 165) := by decide +kernel
theorem d239_165 : dc 239 165 = some (.putfield 1408, 168) := by decide +kernel
theorem d239_168 : dc 239 168 = some (.return_, 169) := by decide +kernel
theorem k_M_removeFile {S : Shp} {G : Nat → Option Nat} {d : Nat} {h : Hp} {Q : Option MV → Hp → Prop} {m : Nat} {f : Nat} {fs : List (List Nat × List Nat)} (ok : Ok S h) (h1 : 2 ≤ d) (hm : sK S m = 14) (FD : DFi S h (sT S 1664 m) fs) (hf : f < fs.length)
    (kk : ∀ h', Fr S (sT S 1664 m) [1408, 1409, 1410, 1411, 1412] h h' → DFi S h' (sT S 1664 m) (fs.eraseIdx f) → Q none h') : Cl G d 239 [vR (some m), vI (f : Nat)] h Q := by
  show Wp G d 239 0 [some (vR (some m)), some (vI (f : Nat)), none, none] [] h Q
  have FD_0 := FD
  have hd0 := kT1664 ok hm
  have g6 := FD.2.1
  have U10 : ArU S h (sT S 1664 m) 1410 (shF (AI h (sT S 1410 (sT S 1664 m))) f f 1) := by rw [shF_0]; exact fun _ => rfl
  have U12 : ArU S h (sT S 1664 m) 1412 (shF (AI h (sT S 1412 (sT S 1664 m))) f f 1) := by rw [shF_0]; exact fun _ => rfl
  have U9 : ArU S h (sT S 1664 m) 1409 (shF (AI h (sT S 1409 (sT S 1664 m))) (12 * f) (12 * f) 12) := by rw [shF_0]; exact fun _ => rfl
  have U11 : ArU S h (sT S 1664 m) 1411 (shF (AI h (sT S 1411 (sT S 1664 m))) (160 * f) (160 * f) 160) := by rw [shF_0]; exact fun _ => rfl
  have C8 : FI h 1408 (sT S 1664 m) = ((fs.length : Nat) : Int) := FD.1
  refine w_iload_n d239_0 rfl ?_
  refine w_istore2 d239_1 rfl ?_
  have L2 : ∀ (m2 : Nat) (g_ : Hp) (i : Nat), fs.length - i = m2 → Fr S (sT S 1664 m) [1408, 1409, 1410, 1411, 1412] h g_ → (f ≤ i ∧ i + 1 ≤ fs.length) → (ArU S g_ (sT S 1664 m) 1410 (shF (AI h (sT S 1410 (sT S 1664 m))) f i 1)) → (ArU S g_ (sT S 1664 m) 1412 (shF (AI h (sT S 1412 (sT S 1664 m))) f i 1)) → (ArU S g_ (sT S 1664 m) 1409 (shF (AI h (sT S 1409 (sT S 1664 m))) (12 * f) (12 * i) 12)) → (ArU S g_ (sT S 1664 m) 1411 (shF (AI h (sT S 1411 (sT S 1664 m))) (160 * f) (160 * i) 160)) → (FI g_ 1408 (sT S 1664 m) = ((fs.length : Nat) : Int)) → Wp G d 239 2 [some (vR (some m)), some (vI (f : Nat)), some (vI (i : Nat)), none] [] g_ Q := by
    intro m2
    induction m2 using Nat.strongRecOn with | ind m2 IH2 => ?_
    intro g_ i hm2 FRg_ il U10 U12 U9 U11 C8
    have okg_ := FRg_.ok
    refine w_iload_n d239_2 rfl ?_
    refine w_iconst d239_3 (by decide) ?_
    refine w_iadd d239_4 (by constructor <;> omega) ?_
    rw [show ((i : Nat) : Int) + 1 = ((i + 1 : Nat) : Int) by omega]
    refine w_aload_n d239_5 rfl ?_
    refine w_dloadS d239_6 (okg_.kd hm) (fr1664 okg_ hm) ?_
    refine w_getI (x := ((fs.length : Nat) : Int)) d239_9 (okg_.kd (kT1664 okg_ hm)) C8 ?_
    refine w_icmpge d239_12 (fun c12 => ?_) (fun c12 => ?_)
    · have ei : i = fs.length - 1 := by omega
      rw [ei] at U9 U10 U11 U12
      refine w_aload_n d239_155 rfl ?_
      refine w_dloadS d239_156 (okg_.kd hm) (fr1664 okg_ hm) ?_
      refine w_dupR d239_159 ?_
      refine w_getI (x := ((fs.length : Nat) : Int)) d239_160 (okg_.kd (kT1664 okg_ hm)) C8 ?_
      refine w_iconst d239_163 (by decide) ?_
      refine w_isub d239_164 (by constructor <;> omega) ?_
      refine wf1408 d239_165 okg_ (kT1664 okg_ hm) (by omega) (fun h165 e165 m165 => ?_)
      have f165 : Fr S (sT S 1664 m) [1408] _ _ := Fr.wF okg_ m165 (FK.pI e165)
      have ok165 := f165.ok
      have FR165 := Fr.tr (F := [1408, 1409, 1410, 1411, 1412]) FRg_ f165 (by decide) (by decide)
      have U10 := ArU.r f165 hd0 U10
      have U12 := ArU.r f165 hd0 U12
      have U9 := ArU.r f165 hd0 U9
      have U11 := ArU.r f165 hd0 U11
      have C8 : FI h165 1408 (sT S 1664 m) = ((fs.length - 1 : Nat) : Int) := by rw [e165, FI_sFI, if_pos ⟨rfl, rfl⟩]; omega
      refine w_return d239_168 ?_
      exact kk _ FR165 (fq_gone FD_0 hf C8 U10 U12 U9 U11)
    · have hi : i + 1 < fs.length := by omega
      refine w_aload_n d239_15 rfl ?_
      refine w_dloadS d239_16 (okg_.kd hm) (fr1664 okg_ hm) ?_
      refine w_dloadS d239_19 (okg_.kd (kT1664 okg_ hm)) (fr1410 okg_ (kT1664 okg_ hm)) ?_
      refine w_iload_n d239_22 rfl ?_
      refine w_aload_n d239_23 rfl ?_
      refine w_dloadS d239_24 (okg_.kd hm) (fr1664 okg_ hm) ?_
      refine w_dloadS d239_27 (okg_.kd (kT1664 okg_ hm)) (fr1410 okg_ (kT1664 okg_ hm)) ?_
      refine w_iload_n d239_30 rfl ?_
      refine w_iconst d239_31 (by decide) ?_
      refine w_iadd d239_32 (by constructor <;> omega) ?_
      rw [show ((i : Nat) : Int) + 1 = ((i + 1 : Nat) : Int) by omega]
      refine w_ialoadV (x := ((AI h (sT S 1410 (sT S 1664 m))) (i + 1))) d239_33 (gi1410 okg_ (kT1664 okg_ hm) (by omega)) ((U10 (i + 1)).trans (shF_g (by omega))) ?_
      have rr := ra1410 ok hd0 (i + 1)
      refine wa1410 d239_34 okg_ (kT1664 okg_ hm) (by omega) (by omega) (fun h34 e34 m34 => ?_)
      have e34 : h34 = sAI g_ (sT S 1410 (sT S 1664 m)) i ((AI h (sT S 1410 (sT S 1664 m))) (i + 1)) := e34
      have f34 : Fr S (sT S 1664 m) [1410] _ _ := Fr.wBd okg_ hd0 m34 (fun ζ e => ⟨1410, by decide, by decide, e ▸ U_refl⟩)
      have ok34 := f34.ok
      have FR34 := Fr.tr (F := [1408, 1409, 1410, 1411, 1412]) FRg_ f34 (by decide) (by decide)
      have C8 := (Fr.i f34 1408).trans C8
      have U12 := ArU.r f34 hd0 U12
      have U9 := ArU.r f34 hd0 U9
      have U11 := ArU.r f34 hd0 U11
      have U10 : ArU S h34 (sT S 1664 m) 1410 (shF (AI h (sT S 1410 (sT S 1664 m))) f (i + 1) 1) := U10.w (x := (AI h (sT S 1410 (sT S 1664 m))) (i + 1)) e34 (fun _ => shF_s (by omega))
      refine w_aload_n d239_35 rfl ?_
      refine w_dloadS d239_36 (ok34.kd hm) (fr1664 ok34 hm) ?_
      refine w_dloadS d239_39 (ok34.kd (kT1664 ok34 hm)) (fr1412 ok34 (kT1664 ok34 hm)) ?_
      refine w_iload_n d239_42 rfl ?_
      refine w_aload_n d239_43 rfl ?_
      refine w_dloadS d239_44 (ok34.kd hm) (fr1664 ok34 hm) ?_
      refine w_dloadS d239_47 (ok34.kd (kT1664 ok34 hm)) (fr1412 ok34 (kT1664 ok34 hm)) ?_
      refine w_iload_n d239_50 rfl ?_
      refine w_iconst d239_51 (by decide) ?_
      refine w_iadd d239_52 (by constructor <;> omega) ?_
      rw [show ((i : Nat) : Int) + 1 = ((i + 1 : Nat) : Int) by omega]
      refine w_ialoadV (x := ((AI h (sT S 1412 (sT S 1664 m))) (i + 1))) d239_53 (gi1412 ok34 (kT1664 ok34 hm) (by omega)) ((U12 (i + 1)).trans (shF_g (by omega))) ?_
      have rr2 := ra1412 ok hd0 (i + 1)
      refine wa1412 d239_54 ok34 (kT1664 ok34 hm) (by omega) (by omega) (fun h54 e54 m54 => ?_)
      have e54 : h54 = sAI h34 (sT S 1412 (sT S 1664 m)) i ((AI h (sT S 1412 (sT S 1664 m))) (i + 1)) := e54
      have f54 : Fr S (sT S 1664 m) [1412] _ _ := Fr.wBd ok34 hd0 m54 (fun ζ e => ⟨1412, by decide, by decide, e ▸ U_refl⟩)
      have ok54 := f54.ok
      have FR54 := Fr.tr (F := [1408, 1409, 1410, 1411, 1412]) FR34 f54 (by decide) (by decide)
      have C8 := (Fr.i f54 1408).trans C8
      have U9 := ArU.r f54 hd0 U9
      have U11 := ArU.r f54 hd0 U11
      have U10 := ArU.r f54 hd0 U10
      have U12 : ArU S h54 (sT S 1664 m) 1412 (shF (AI h (sT S 1412 (sT S 1664 m))) f (i + 1) 1) := U12.w (x := (AI h (sT S 1412 (sT S 1664 m))) (i + 1)) e54 (fun _ => shF_s (by omega))
      have U9 : ArU S h54 (sT S 1664 m) 1409 (shF (AI h (sT S 1409 (sT S 1664 m))) (12 * f) (12 * i + 0) 12) := U9
      have U11 : ArU S h54 (sT S 1664 m) 1411 (shF (AI h (sT S 1411 (sT S 1664 m))) (160 * f) (160 * i + 0) 160) := U11
      refine w_iconst d239_55 (by decide) ?_
      refine w_istore3 d239_56 rfl ?_
      have L57 : ∀ (m57 : Nat) (c_ : Hp) (k : Nat), 12 - k = m57 → Fr S (sT S 1664 m) [1408, 1409, 1410, 1411, 1412] h c_ → (k ≤ 12) → (ArU S c_ (sT S 1664 m) 1409 (shF (AI h (sT S 1409 (sT S 1664 m))) (12 * f) (12 * i + k) 12)) → (FI c_ 1408 (sT S 1664 m) = ((fs.length : Nat) : Int)) → (ArU S c_ (sT S 1664 m) 1410 (shF (AI h (sT S 1410 (sT S 1664 m))) f (i + 1) 1)) → (ArU S c_ (sT S 1664 m) 1412 (shF (AI h (sT S 1412 (sT S 1664 m))) f (i + 1) 1)) → (ArU S c_ (sT S 1664 m) 1411 (shF (AI h (sT S 1411 (sT S 1664 m))) (160 * f) (160 * i) 160)) → Wp G d 239 57 [some (vR (some m)), some (vI (f : Nat)), some (vI (i : Nat)), some (vI (k : Nat))] [] c_ Q := by
        intro m57
        induction m57 using Nat.strongRecOn with | ind m57 IH57 => ?_
        intro c_ k hm57 FRc_ kl U9 C8 U10 U12 U11
        have okc_ := FRc_.ok
        refine w_iload_n d239_57 rfl ?_
        refine w_bipush d239_58 (by decide) ?_
        refine w_icmpge d239_60 (fun c60 => ?_) (fun c60 => ?_)
        · have ek : k = 12 := by omega
          rw [ek, show 12 * i + 12 = 12 * (i + 1) by omega] at U9
          refine w_iconst d239_100 (by decide) ?_
          refine w_istore3 d239_101 rfl ?_
          have L102 : ∀ (m102 : Nat) (e_ : Hp) (k : Nat), 160 - k = m102 → Fr S (sT S 1664 m) [1408, 1409, 1410, 1411, 1412] h e_ → (k ≤ 160) → (ArU S e_ (sT S 1664 m) 1411 (shF (AI h (sT S 1411 (sT S 1664 m))) (160 * f) (160 * i + k) 160)) → (FI e_ 1408 (sT S 1664 m) = ((fs.length : Nat) : Int)) → (ArU S e_ (sT S 1664 m) 1410 (shF (AI h (sT S 1410 (sT S 1664 m))) f (i + 1) 1)) → (ArU S e_ (sT S 1664 m) 1412 (shF (AI h (sT S 1412 (sT S 1664 m))) f (i + 1) 1)) → (ArU S e_ (sT S 1664 m) 1409 (shF (AI h (sT S 1409 (sT S 1664 m))) (12 * f) (12 * (i + 1)) 12)) → Wp G d 239 102 [some (vR (some m)), some (vI (f : Nat)), some (vI (i : Nat)), some (vI (k : Nat))] [] e_ Q := by
            intro m102
            induction m102 using Nat.strongRecOn with | ind m102 IH102 => ?_
            intro e_ k hm102 FRe_ kl U11 C8 U10 U12 U9
            have oke_ := FRe_.ok
            refine w_iload_n d239_102 rfl ?_
            refine w_sipush d239_103 (by decide) ?_
            refine w_icmpge d239_106 (fun c106 => ?_) (fun c106 => ?_)
            · have ek : k = 160 := by omega
              rw [ek, show 160 * i + 160 = 160 * (i + 1) by omega] at U11
              refine w_iinc2 d239_149 rfl (by constructor <;> omega) ?_
              refine w_goto d239_152 ?_
              rw [show ((i : Nat) : Int) + 1 = ((i + 1 : Nat) : Int) by omega]
              refine w_less ?_ (IH2 _ (by omega) e_ (i + 1) rfl FRe_ ⟨by omega, by omega⟩ U10 U12 U9 U11 C8)
              exact ⟨Or.inr rfl, Or.inr rfl, Or.inr rfl, Or.inl rfl, trivial⟩
            · have hk : k < 160 := by omega
              refine w_aload_n d239_109 rfl ?_
              refine w_dloadS d239_110 (oke_.kd hm) (fr1664 oke_ hm) ?_
              refine w_dloadS d239_113 (oke_.kd (kT1664 oke_ hm)) (fr1411 oke_ (kT1664 oke_ hm)) ?_
              refine w_sipush d239_116 (by decide) ?_
              refine w_iload_n d239_119 rfl ?_
              refine w_imul d239_120 (by constructor <;> omega) ?_
              rw [show (160 : Int) * ((i : Nat) : Int) = ((160 * i : Nat) : Int) by omega]
              refine w_iload_n d239_121 rfl ?_
              refine w_iadd d239_122 (by constructor <;> omega) ?_
              rw [show ((160 * i : Nat) : Int) + ((k : Nat) : Int) = ((160 * i + k : Nat) : Int) by omega]
              refine w_aload_n d239_123 rfl ?_
              refine w_dloadS d239_124 (oke_.kd hm) (fr1664 oke_ hm) ?_
              refine w_dloadS d239_127 (oke_.kd (kT1664 oke_ hm)) (fr1411 oke_ (kT1664 oke_ hm)) ?_
              refine w_sipush d239_130 (by decide) ?_
              refine w_iload_n d239_133 rfl ?_
              refine w_imul d239_134 (by constructor <;> omega) ?_
              rw [show (160 : Int) * ((i : Nat) : Int) = ((160 * i : Nat) : Int) by omega]
              refine w_sipush d239_135 (by decide) ?_
              refine w_iadd d239_138 (by constructor <;> omega) ?_
              rw [show ((160 * i : Nat) : Int) + 160 = ((160 * i + 160 : Nat) : Int) by omega]
              refine w_iload_n d239_139 rfl ?_
              refine w_iadd d239_140 (by constructor <;> omega) ?_
              rw [show ((160 * i + 160 : Nat) : Int) + ((k : Nat) : Int) = ((160 * i + 160 + k : Nat) : Int) by omega]
              refine w_ialoadV (x := ((AI h (sT S 1411 (sT S 1664 m))) (160 * i + 160 + k))) d239_141 (gi1411 oke_ (kT1664 oke_ hm) (by omega)) ((U11 (160 * i + 160 + k)).trans (shF_g (by omega))) ?_
              have rr := ra1411 ok hd0 (160 * i + 160 + k)
              refine wa1411 d239_142 oke_ (kT1664 oke_ hm) (by omega) (by omega) (fun h142 e142 m142 => ?_)
              have e142 : h142 = sAI e_ (sT S 1411 (sT S 1664 m)) (160 * i + k) ((AI h (sT S 1411 (sT S 1664 m))) (160 * i + 160 + k)) := e142
              have f142 : Fr S (sT S 1664 m) [1411] _ _ := Fr.wBd oke_ hd0 m142 (fun ζ e => ⟨1411, by decide, by decide, e ▸ U_refl⟩)
              have ok142 := f142.ok
              have FR142 := Fr.tr (F := [1408, 1409, 1410, 1411, 1412]) FRe_ f142 (by decide) (by decide)
              have C8 := (Fr.i f142 1408).trans C8
              have U10 := ArU.r f142 hd0 U10
              have U12 := ArU.r f142 hd0 U12
              have U9 := ArU.r f142 hd0 U9
              have U11 : ArU S h142 (sT S 1664 m) 1411 (shF (AI h (sT S 1411 (sT S 1664 m))) (160 * f) (160 * i + (k + 1)) 160) := U11.w (x := (AI h (sT S 1411 (sT S 1664 m))) (160 * i + 160 + k)) e142 (fun _ => by rw [show 160 * i + (k + 1) = 160 * i + k + 1 by omega, shF_s (by omega), show 160 * i + k + 160 = 160 * i + 160 + k by omega])
              refine w_iinc3 d239_143 rfl (by constructor <;> omega) ?_
              refine w_goto d239_146 ?_
              rw [show ((k : Nat) : Int) + 1 = ((k + 1 : Nat) : Int) by omega]
              refine w_less ?_ (IH102 _ (by omega) h142 (k + 1) rfl FR142 (by omega) U11 C8 U10 U12 U9)
              exact ⟨Or.inr rfl, Or.inr rfl, Or.inr rfl, Or.inr rfl, trivial⟩
          refine w_less ?_ (L102 _ c_ 0 rfl FRc_ (Nat.zero_le _) U11 C8 U10 U12 U9)
          exact ⟨Or.inr rfl, Or.inr rfl, Or.inr rfl, Or.inr rfl, trivial⟩
        · have hk : k < 12 := by omega
          refine w_aload_n d239_63 rfl ?_
          refine w_dloadS d239_64 (okc_.kd hm) (fr1664 okc_ hm) ?_
          refine w_dloadS d239_67 (okc_.kd (kT1664 okc_ hm)) (fr1409 okc_ (kT1664 okc_ hm)) ?_
          refine w_bipush d239_70 (by decide) ?_
          refine w_iload_n d239_72 rfl ?_
          refine w_imul d239_73 (by constructor <;> omega) ?_
          rw [show (12 : Int) * ((i : Nat) : Int) = ((12 * i : Nat) : Int) by omega]
          refine w_iload_n d239_74 rfl ?_
          refine w_iadd d239_75 (by constructor <;> omega) ?_
          rw [show ((12 * i : Nat) : Int) + ((k : Nat) : Int) = ((12 * i + k : Nat) : Int) by omega]
          refine w_aload_n d239_76 rfl ?_
          refine w_dloadS d239_77 (okc_.kd hm) (fr1664 okc_ hm) ?_
          refine w_dloadS d239_80 (okc_.kd (kT1664 okc_ hm)) (fr1409 okc_ (kT1664 okc_ hm)) ?_
          refine w_bipush d239_83 (by decide) ?_
          refine w_iload_n d239_85 rfl ?_
          refine w_imul d239_86 (by constructor <;> omega) ?_
          rw [show (12 : Int) * ((i : Nat) : Int) = ((12 * i : Nat) : Int) by omega]
          refine w_bipush d239_87 (by decide) ?_
          refine w_iadd d239_89 (by constructor <;> omega) ?_
          rw [show ((12 * i : Nat) : Int) + 12 = ((12 * i + 12 : Nat) : Int) by omega]
          refine w_iload_n d239_90 rfl ?_
          refine w_iadd d239_91 (by constructor <;> omega) ?_
          rw [show ((12 * i + 12 : Nat) : Int) + ((k : Nat) : Int) = ((12 * i + 12 + k : Nat) : Int) by omega]
          refine w_ialoadV (x := ((AI h (sT S 1409 (sT S 1664 m))) (12 * i + 12 + k))) d239_92 (gi1409 okc_ (kT1664 okc_ hm) (by omega)) ((U9 (12 * i + 12 + k)).trans (shF_g (by omega))) ?_
          have rr := ra1409 ok hd0 (12 * i + 12 + k)
          refine wa1409 d239_93 okc_ (kT1664 okc_ hm) (by omega) (by omega) (fun h93 e93 m93 => ?_)
          have e93 : h93 = sAI c_ (sT S 1409 (sT S 1664 m)) (12 * i + k) ((AI h (sT S 1409 (sT S 1664 m))) (12 * i + 12 + k)) := e93
          have f93 : Fr S (sT S 1664 m) [1409] _ _ := Fr.wBd okc_ hd0 m93 (fun ζ e => ⟨1409, by decide, by decide, e ▸ U_refl⟩)
          have ok93 := f93.ok
          have FR93 := Fr.tr (F := [1408, 1409, 1410, 1411, 1412]) FRc_ f93 (by decide) (by decide)
          have C8 := (Fr.i f93 1408).trans C8
          have U10 := ArU.r f93 hd0 U10
          have U12 := ArU.r f93 hd0 U12
          have U11 := ArU.r f93 hd0 U11
          have U9 : ArU S h93 (sT S 1664 m) 1409 (shF (AI h (sT S 1409 (sT S 1664 m))) (12 * f) (12 * i + (k + 1)) 12) := U9.w (x := (AI h (sT S 1409 (sT S 1664 m))) (12 * i + 12 + k)) e93 (fun _ => by rw [show 12 * i + (k + 1) = 12 * i + k + 1 by omega, shF_s (by omega), show 12 * i + k + 12 = 12 * i + 12 + k by omega])
          refine w_iinc3 d239_94 rfl (by constructor <;> omega) ?_
          refine w_goto d239_97 ?_
          rw [show ((k : Nat) : Int) + 1 = ((k + 1 : Nat) : Int) by omega]
          refine w_less ?_ (IH57 _ (by omega) h93 (k + 1) rfl FR93 (by omega) U9 C8 U10 U12 U11)
          exact ⟨Or.inr rfl, Or.inr rfl, Or.inr rfl, Or.inr rfl, trivial⟩
      refine w_less ?_ (L57 _ h54 0 rfl FR54 (Nat.zero_le _) U9 C8 U10 U12 U11)
      exact ⟨Or.inr rfl, Or.inr rfl, Or.inr rfl, Or.inr rfl, trivial⟩
  refine w_less ?_ (L2 _ h f rfl (Fr.refl ok) ⟨Nat.le_refl _, by omega⟩ U10 U12 U9 U11 C8)
  exact ⟨Or.inr rfl, Or.inr rfl, Or.inr rfl, Or.inl rfl, trivial⟩
