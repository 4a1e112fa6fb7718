/-! the reference: users, needs and files told -/
/-- the request -/
def RqR (S : Shp) (h : Hp) (m : Nat) (l : List Nat) : Prop := FI h 1731 m = l.length ∧ l.length ≤ 20009 ∧ SgC S h (sT S 1730 m) 0 l
theorem RqR.r {S : Shp} {m : Nat} {F : List Nat} {h h' : Hp} {l : List Nat} (D : RqR S h m l) (fr : Fr S m F h h') (_ : sK S m = 14) (h1 : 1730 ∉ F ∧ 1731 ∉ F ∧ ltF4 F := by decide) : RqR S h' m l := ⟨(fr.i 1731 h1.2.1).trans D.1, D.2.1, fr.sg (by decide) h1.1 h1.2.2 D.2.2⟩
/-- where the name stands -/
def NmR (h : Hp) (m f e : Nat) : Prop := FI h 1742 m = (f : Nat) ∧ FI h 1743 m = (e : Nat)
theorem NmR.r {S : Shp} {m f e : Nat} {F : List Nat} {h h' : Hp} (D : NmR h m f e) (fr : Fr S m F h h') (_ : sK S m = 14) (h1 : 1742 ∉ F ∧ 1743 ∉ F := by decide) : NmR h' m f e := ⟨(fr.i 1742 h1.1).trans D.1, (fr.i 1743 h1.2).trans D.2⟩
theorem SgC.sub {S : Shp} {h : Hp} {b f e : Nat} {l : List Nat} (D : SgC S h b 0 l) (he : f ≤ e ∧ e ≤ l.length) : SgC S h b f (sl l f e) := by
  have sn := sl_len he
  refine ⟨D.1, by have := D.2.1; omega, D.2.2.1, fun i hi => ?_⟩
  rw [sl_gd (by omega)]
  exact D.at0 (by omega)
/-- users found so far -/
def UsI (ts : List (Bool × TgV)) (n : List Nat) (s u : Nat) (us : Bool) : Prop := us = true ↔ ∃ z, z < u ∧ bt s z ∧ namesF (tgI (tD ts z)) n = true
def UsK (ts : List (Bool × TgV)) (n : List Nat) (s u k : Nat) (us : Bool) : Prop := us = true ↔ (∃ z, z < u ∧ bt s z ∧ namesF (tgI (tD ts z)) n = true) ∨ ∃ i, i < k ∧ isFl (tgI (tD ts u)) n i = true
theorem UsI.k {ts : List (Bool × TgV)} {n : List Nat} {s u : Nat} {us : Bool} (h : UsI ts n s u us) : UsK ts n s u 0 us := h.trans ⟨Or.inl, fun z => z.elim id (fun ⟨i, hi, _⟩ => absurd hi (Nat.not_lt_zero _))⟩
theorem UsI.no {ts : List (Bool × TgV)} {n : List Nat} {s u : Nat} {us : Bool} (h : UsI ts n s u us) (b : ¬ bt s u) : UsI ts n s (u + 1) us := h.trans ⟨fun ⟨z, z1, z2⟩ => ⟨z, by omega, z2⟩, fun ⟨z, z1, z2, z3⟩ => ⟨z, by
  rcases Nat.lt_or_ge z u with y | y
  · exact y
  · rw [show z = u by omega] at z2; exact absurd z2 b, z2, z3⟩⟩
theorem UsK.i {ts : List (Bool × TgV)} {n : List Nat} {s u k : Nat} {us : Bool} (h : UsK ts n s u k us) (b : bt s u) (hk : (tgI (tD ts u)).length = k) : UsI ts n s (u + 1) us := h.trans ⟨fun z => z.elim (fun ⟨z, z1, z2⟩ => ⟨z, by omega, z2⟩) (fun ⟨i, hi, e⟩ => ⟨u, by omega, b, anyF_iff.mpr ⟨i, Nat.zero_le _, by
    omega, e⟩⟩), fun ⟨z, z1, z2, z3⟩ => by
  rcases Nat.lt_or_ge z u with y | y
  · exact Or.inl ⟨z, y, z2, z3⟩
  · rw [show z = u by omega] at z3
    obtain ⟨j, -, j2, j3⟩ := anyF_iff.mp z3
    exact Or.inr ⟨j, by omega, j3⟩⟩
theorem UsK.s {ts : List (Bool × TgV)} {n : List Nat} {s u k : Nat} {us us' : Bool} (h : UsK ts n s u k us) (e : us' = true ↔ us = true ∨ isFl (tgI (tD ts u)) n k = true) : UsK ts n s u (k + 1) us' := e.trans ⟨fun z => z.elim (fun z => (h.mp z).elim Or.inl (fun ⟨i, hi, y⟩ => Or.inr ⟨i, by omega, y⟩)) (fun z => Or.inr ⟨k, by omega, z⟩), fun z => z.elim (fun z => Or.inl (h.mpr (Or.inl z))) (fun ⟨i, hi, y⟩ => by
  rcases Nat.lt_or_ge i k with x | x
  · exact Or.inl (h.mpr (Or.inr ⟨i, x, y⟩))
  · rw [show i = k by omega] at y; exact Or.inr y)⟩
theorem d314_0 : dc 314 0 = some (.iconst 0, 1) := by decide +kernel
theorem d314_1 : dc 314 1 = some (.istore_n 1, 2) := by decide +kernel
theorem d314_2 : dc 314 2 = some (.iload_n 1, 3) := by decide +kernel
theorem d314_3 : dc 314 3 = some (.aload_n 0, 4) := by decide +kernel
theorem d314_4 : dc 314 4 = some (.dload 1664, 7) := by decide +kernel
theorem d314_7 : dc 314 7 = some (.getfield 1417, 10) := by decide +kernel
theorem d314_10 : dc 314 10 = some (.if_icmp .ge ((202 : Nat) : Int), 13) := by decide +kernel
theorem d314_13 : dc 314 13 = some (.aload_n 0, 14) := by decide +kernel
theorem d314_14 : dc 314 14 = some (.dload 1664, 17) := by decide +kernel
theorem d314_17 : dc 314 17 = some (.dload 1420, 20) := by decide +kernel
theorem d314_20 : dc 314 20 = some (.iload_n 1, 21) := by decide +kernel
theorem d314_21 : dc 314 21 = some (.baload, 22) := by decide +kernel
theorem d314_22 : dc 314 22 = some (.ifCond .ne ((28 : Nat) : Int), 25) := by decide +kernel
theorem d314_25 : dc 314 25 = some (.goto ((196 : Nat) : Int), 28) := by decide +kernel
theorem d314_28 : dc 314 28 = some (.aload_n 0, 29) := by decide +kernel
theorem d314_29 : dc 314 29 = some (.dload 1664, 32) := by decide +kernel
theorem d314_32 : dc 314 32 = some (.iload_n 1, 33) := by decide +kernel
theorem d314_33 : dc 314 33 = some (.invokevirtual 230, 36) := by decide +kernel
theorem d314_36 : dc 314 36 = some (.istore_n 2, 37) := by decide +kernel
theorem d314_37 : dc 314 37 = some (.iconst 0, 38) := by decide +kernel
theorem d314_38 : dc 314 38 = some (.istore_n 3, 39) := by decide +kernel
theorem d314_39 : dc 314 39 = some (.iconst 0, 40) := by decide +kernel
theorem d314_40 : dc 314 40 = some (.istore 4, 42) := by decide +kernel
theorem d314_42 : dc 314 42 = some (.iload 4, 44) := by decide +kernel
theorem d314_44 : dc 314 44 = some (.aload_n 0, 45) := by decide +kernel
theorem d314_45 : dc 314 45 = some (.dload 1664, 48) := by decide +kernel
theorem d314_48 : dc 314 48 = some (.getfield 1417, 51) := by decide +kernel
theorem d314_51 : dc 314 51 = some (.if_icmp .ge ((174 : Nat) : Int), 54) := by decide +kernel
theorem d314_54 : dc 314 54 = some (.iload_n 2, 55) := by decide +kernel
theorem d314_55 : dc 314 55 = some (.iload 4, 57) := by decide +kernel
theorem d314_57 : dc 314 57 = some (.ishr, 58) := by decide +kernel
theorem d314_58 : dc 314 58 = some (.iconst 1, 59) := by decide +kernel
theorem d314_59 : dc 314 59 = some (.iand, 60) := by decide +kernel
theorem d314_60 : dc 314 60 = some (.ifCond .ne ((66 : Nat) : Int), 63) := by decide +kernel
theorem d314_63 : dc 314 63 = some (.goto ((168 : Nat) : Int), 66) := by decide +kernel
theorem d314_66 : dc 314 66 = some (.iconst 0, 67) := by decide +kernel
theorem d314_67 : dc 314 67 = some (.istore 5, 69) := by decide +kernel
theorem d314_69 : dc 314 69 = some (.iload 5, 71) := by decide +kernel
theorem d314_71 : dc 314 71 = some (.aload_n 0, 72) := by decide +kernel
theorem d314_72 : dc 314 72 = some (.dload 1664, 75) := by decide +kernel
theorem d314_75 : dc 314 75 = some (.dload 1424, 78) := by decide +kernel
theorem d314_78 : dc 314 78 = some (.iload 4, 80) := by decide +kernel
theorem d314_80 : dc 314 80 = some (.iaload, 81) := by decide +kernel
theorem d314_81 : dc 314 81 = some (.if_icmp .ge ((168 : Nat) : Int), 84) := by decide +kernel
theorem d314_84 : dc 314 84 = some (.bipush 6, 86) := by decide +kernel
theorem d314_86 : dc 314 86 = some (.iload 4, 88) := by decide +kernel
theorem d314_88 : dc 314 88 = some (.imul, 89) := by decide +kernel
theorem d314_89 : dc 314 89 = some (.iload 5, 91) := by decide +kernel
theorem d314_91 : dc 314 91 = some (.iadd, 92) := by decide +kernel
theorem d314_92 : dc 314 92 = some (.istore 6, 94) := by decide +kernel
theorem d314_94 : dc 314 94 = some (.iload_n 3, 95) := by decide +kernel
theorem d314_95 : dc 314 95 = some (.ifCond .ne ((156 : Nat) : Int), 98) := by decide +kernel
theorem d314_98 : dc 314 98 = some (.aload_n 0, 99) := by decide +kernel
theorem d314_99 : dc 314 99 = some (.dload 1664, 102) := by decide +kernel
theorem d314_102 : dc 314 102 = some (.dload 1425, 105) := by decide +kernel
theorem d314_105 : dc 314 105 = some (.iload 6, 107) := by decide +kernel
theorem d314_107 : dc 314 107 = some (.baload, 108) := by decide +kernel
theorem d314_108 : dc 314 108 = some (.ifCond .ne ((160 : Nat) : Int), 111) := by decide +kernel
theorem d314_111 : dc 314 111 = some (.aload_n 0, 112) := by decide +kernel
theorem d314_112 : dc 314 112 = some (.dload 1664, 115) := by decide +kernel
theorem d314_115 : dc 314 115 = some (.dload 1426, 118) := by decide +kernel
theorem d314_118 : dc 314 118 = some (.bipush 12, 120) := by decide +kernel
theorem d314_120 : dc 314 120 = some (.iload 6, 122) := by decide +kernel
theorem d314_122 : dc 314 122 = some (.imul, 123) := by decide +kernel
theorem d314_123 : dc 314 123 = some (.aload_n 0, 124) := by decide +kernel
theorem d314_124 : dc 314 124 = some (.dload 1664, 127) := by decide +kernel
theorem d314_127 : dc 314 127 = some (.dload 1427, 130) := by decide +kernel
theorem d314_130 : dc 314 130 = some (.iload 6, 132) := by decide +kernel
theorem d314_132 : dc 314 132 = some (.iaload, 133) := by decide +kernel
theorem d314_133 : dc 314 133 = some (.aload_n 0, 134) := by decide +kernel
theorem d314_134 : dc 314 134 = some (.dload 1730, 137) := by decide +kernel
theorem d314_137 : dc 314 137 = some (.aload_n 0, 138) := by decide +kernel
theorem d314_138 : dc 314 138 = some (.getfield 1742, 141) := by decide +kernel
theorem d314_141 : dc 314 141 = some (.aload_n 0, 142) := by decide +kernel
theorem d314_142 : dc 314 142 = some (.getfield 1743, 145) := by decide +kernel
theorem d314_145 : dc 314 145 = some (.aload_n 0, 146) := by decide +kernel
theorem d314_146 : dc 314 146 = some (.getfield 1742, 149) := by decide +kernel
theorem d314_149 : dc 314 149 = some (.isub, 150) := by decide +kernel
theorem d314_150 : dc 314 150 = some (.invokevirtual 224, 153) := by decide +kernel
theorem d314_153 : dc 314 153 = some (.ifCond .eq ((160 : Nat) : Int), 156) := by decide +kernel
theorem d314_156 : dc 314 156 = some (.iconst 1, 157) := by decide +kernel
theorem d314_157 : dc 314 157 = some (.goto ((161 : Nat) : Int), 160) := by decide +kernel
theorem d314_160 : dc 314 160 = some (.iconst 0, 161) := by decide +kernel
theorem d314_161 : dc 314 161 = some (.istore_n 3, 162) := by decide +kernel
theorem d314_162 : dc 314 162 = some (.iinc 5 1, 165) := by decide +kernel
theorem d314_165 : dc 314 165 = some (.goto ((69 : Nat) : Int), 168) := by decide +kernel
theorem d314_168 : dc 314 168 = some (.iinc 4 1, 171) := by decide +kernel
theorem d314_171 : dc 314 171 = some (.goto ((42 : Nat) : Int), 174) := by decide +kernel
theorem d314_174 : dc 314 174 = some (.iload_n 3, 175) := by decide +kernel
theorem d314_175 : dc 314 175 = some (.ifCond .ne ((181 : Nat) : Int), 178) := by decide +kernel
theorem d314_178 : dc 314 178 = some (.goto ((196 : Nat) : Int), 181) := by decide +kernel
theorem d314_181 : dc 314 181 = some (.aload_n 0, 182) := by decide +kernel
theorem d314_182 : dc 314 182 = some (.aload_n 0, 183) := by decide +kernel
theorem d314_183 : dc 314 183 = some (.dload 1664, 186) := by decide +kernel
theorem d314_186 : dc 314 186 = some (.iload_n 1, 187) := by decide +kernel
theorem d314_187 : dc 314 187 = some (.invokevirtual 293, 190) := by decide +kernel
theorem d314_190 : dc 314 190 = some (.aload_n 0, 191) := by decide +kernel
theorem d314_191 : dc 314 191 = some (.bipush 59, 193) := by decide +kernel
theorem d314_193 : dc 314 193 = some (.invokevirtual 218, 196) := by decide +kernel
theorem d314_196 : dc 314 196 = some (.iinc 1 1, 199) := by decide +kernel
theorem d314_199 : dc 314 199 = some (.goto ((2 : Nat) : Int), 202) := by decide +kernel
theorem d314_202 : dc 314 202 = some (.return_, 203) := by decide +kernel
theorem k_M_tellUsers {S : Shp} {G : Nat → Option Nat} {d : Nat} {h : Hp} {Q : Option MV → Hp → Prop} {m : Nat} {P0 : PlV} {la l : List Nat} {f e : Nat} {sel : Nat → Bool} (ok : Ok S h) (h1 : 5 ≤ d) (hm : sK S m = 14) (TE : TeR S h m la) (NF : DfC S h (sT S 1664 m) P0) (RQ : RqR S h m l) (NM : NmR h m f e) (he : f ≤ e ∧ e ≤ l.length) (US : usP P0.2.2 (sl l f e) sel) (hcl : ∀ u, cln (tgN (tD P0.2.2 u)))
    (kk : ∀ h', Fr S m [1732, 1733] h h' → TeR S h' m (addBs 20000 la (mkTxt P0.2.2 sel P0.2.2.length)) → Q none h') : Cl G d 314 [vR (some m)] h Q := by
  show Wp G d 314 0 [some (vR (some m)), none, none, none, none, none, none] [] h Q
  have TE_0 := TE
  have NF_0 := NF
  have RQ_0 := RQ
  have NM_0 := NM
  have htl := NF.2.2.2.1
  have hd0 := kT1664 ok hm
  have sne := sl_len he
  have lq := RQ.2.1
  refine w_iconst d314_0 (by decide) ?_
  refine w_istore1 d314_1 rfl ?_
  have L2 : ∀ (m2 : Nat) (g2 : Hp) (t : Nat), P0.2.2.length - t = m2 → Fr S m [1732, 1733] h g2 → (t ≤ P0.2.2.length) → (TeR S g2 m (addBs 20000 la (mkTxt P0.2.2 sel t))) → Wp G d 314 2 [some (vR (some m)), some (vI (t : Nat)), none, none, none, none, none] [] g2 Q := by
    intro m2
    induction m2 using Nat.strongRecOn with | ind m2 IH2 => ?_
    intro g2 t hm2 FRg2 tl_ TE
    have okg2 := FRg2.ok
    have NF := DfC.r (f := 1664) FRg2 hm (by decide) NF_0
    have RQ := RQ_0.r FRg2 hm
    have NM := NM_0.r FRg2 hm
    refine w_iload_n d314_2 rfl ?_
    refine w_aload_n d314_3 rfl ?_
    refine w_dloadS d314_4 (okg2.kd hm) (fr1664 okg2 hm) ?_
    refine w_getI (x := ((P0.2.2.length : Nat) : Int)) d314_7 (okg2.kd (kT1664 okg2 hm)) NF.2.2.1 ?_
    refine w_icmpge d314_10 (fun c10 => ?_) (fun c10 => ?_)
    · rw [show t = P0.2.2.length by omega] at TE
      refine w_return d314_202 ?_
      exact kk g2 FRg2 TE
    · have ht : t < P0.2.2.length := by omega
      refine w_aload_n d314_13 rfl ?_
      refine w_dloadS d314_14 (okg2.kd hm) (fr1664 okg2 hm) ?_
      refine w_dloadS d314_17 (okg2.kd (kT1664 okg2 hm)) (fr1420 okg2 (kT1664 okg2 hm)) ?_
      refine w_iload_n d314_20 rfl ?_
      refine w_baloadV (x := (b2i (tH P0.2.2 t))) d314_21 (gi1420 okg2 (kT1664 okg2 hm) (by omega)) (NF.2.2.2.2 t ht).2.2.2.1 ?_
      refine w_ifne d314_22 (fun c22 => ?_) (fun c22 => ?_)
      · have tt : (tH P0.2.2 t) = true := by
          cases hz : (tH P0.2.2 t) with
          | true => rfl
          | false => rw [hz] at c22; exact absurd rfl c22
        refine w_aload_n d314_28 rfl ?_
        refine w_dloadS d314_29 (okg2.kd hm) (fr1664 okg2 hm) ?_
        refine w_iload_n d314_32 rfl ?_
        refine w_callv2 d314_33 (by omega) rfl (okg2.kd (kT1664 okg2 hm)) (by simp) (Nat.le_of_ble_eq_true rfl) ?_
        refine k_D_needs okg2 (by omega) (kT1664 okg2 hm) NF.2.2 ht tt (fun n33 nl33 nb33 => ?_)
        refine w_istore2 d314_36 rfl ?_
        refine w_iconst d314_37 (by decide) ?_
        refine w_istore3 d314_38 rfl ?_
        refine w_iconst d314_39 (by decide) ?_
        refine w_istore4 d314_40 rfl ?_
        have L42 : ∀ (m42 : Nat) (u : Nat) (us : Bool), P0.2.2.length - u = m42 → (u ≤ P0.2.2.length) → (UsI P0.2.2 (sl l f e) n33 u us) → Wp G d 314 42 [some (vR (some m)), some (vI (t : Nat)), some (vI (n33 : Nat)), some (vI (b2i us)), some (vI (u : Nat)), none, none] [] g2 Q := by
          intro m42
          induction m42 using Nat.strongRecOn with | ind m42 IH42 => ?_
          intro u us hm42 ul iu
          refine w_iload d314_42 rfl ?_
          refine w_aload_n d314_44 rfl ?_
          refine w_dloadS d314_45 (okg2.kd hm) (fr1664 okg2 hm) ?_
          refine w_getI (x := ((P0.2.2.length : Nat) : Int)) d314_48 (okg2.kd (kT1664 okg2 hm)) NF.2.2.1 ?_
          refine w_icmpge d314_51 (fun c51 => ?_) (fun c51 => ?_)
          · rw [show u = P0.2.2.length by omega] at iu
            have su : us = true ↔ sel t = true := iu.trans ⟨fun ⟨z, z1, z2, z3⟩ => (US t ht).mpr ⟨z, z1, ⟨Rc_H tt ((nb33 z).mp z2), z3⟩, (nb33 z).mp z2⟩, fun z => by obtain ⟨w, w1, w2, w3⟩ := (US t ht).mp z; exact ⟨w, w1, (nb33 w).mpr w3, w2.2⟩⟩
            refine w_iload_n d314_174 rfl ?_
            refine w_ifne d314_175 (fun c175 => ?_) (fun c175 => ?_)
            · have ub : us = true := by
                cases hz : us with
                | true => rfl
                | false => rw [hz] at c175; exact absurd rfl c175
              have sf : sel t = true := su.mp ub
              refine w_aload_n d314_181 rfl ?_
              refine w_aload_n d314_182 rfl ?_
              refine w_dloadS d314_183 (okg2.kd hm) (fr1664 okg2 hm) ?_
              refine w_iload_n d314_186 rfl ?_
              refine w_callv3 d314_187 (by omega) rfl (okg2.kd hm) (by simp) (Nat.le_of_ble_eq_true rfl) ?_
              refine k_M_sayName (fd := 1664) okg2 (by omega) hm TE NF (Or.inl rfl) ht (hcl t) (fun h187 f187 TE => ?_)
              have ok187 := f187.ok
              have FR187 := Fr.tr (F := [1732, 1733]) FRg2 f187 (by decide) (by decide)
              have NF := DfC.r (f := 1664) f187 hm (by decide) NF
              have RQ := RQ.r f187 hm
              have NM := NM.r f187 hm
              refine w_aload_n d314_190 rfl ?_
              refine w_bipush d314_191 (by decide) ?_
              refine w_callv2 d314_193 (by omega) rfl (ok187.kd hm) (by simp) (Nat.le_of_ble_eq_true rfl) ?_
              refine k_M_put (c := 59) ok187 (by omega) hm TE (by omega) (fun h193 m193 q193 TE => ?_)
              have f193 : Fr S m [1732, 1733] _ _ := Fr.mk ok187 m193 (fun ζ q => q.elim ((fun ζ e => Or.inl e) ζ) ((fun ζ e => Or.inr ⟨1732, by decide, e ▸ U_refl⟩) ζ)) q193 (by decide)
              have ok193 := f193.ok
              have FR193 := Fr.tr (F := [1732, 1733]) FR187 f193 (by decide) (by decide)
              have NF := DfC.r (f := 1664) f193 hm (by decide) NF
              have RQ := RQ.r f193 hm
              have NM := NM.r f193 hm
              rw [← addBs_app, ← addBs_app] at TE
              refine w_iinc1 d314_196 rfl (by constructor <;> omega) ?_
              refine w_goto d314_199 ?_
              rw [show ((t : Nat) : Int) + 1 = ((t + 1 : Nat) : Int) by omega]
              refine w_less ?_ (IH2 _ (by omega) h193 (t + 1) rfl FR193 (by omega) (by first | (rw [show mkTxt P0.2.2 sel (t + 1) = mkTxt P0.2.2 sel t by rw [mkTxt, if_neg sf, List.append_nil]]; exact TE) | (rw [show mkTxt P0.2.2 sel (t + 1) = mkTxt P0.2.2 sel t ++ (tgN (tD P0.2.2 t) ++ [59]) by rw [mkTxt, if_pos sf]]; exact TE)))
              exact ⟨Or.inr rfl, Or.inr rfl, Or.inl rfl, Or.inl rfl, Or.inl rfl, Or.inl rfl, Or.inl rfl, trivial⟩
            · have ub : us = false := by
                cases hz : us with
                | true => rw [hz] at c175; exact absurd c175 (by decide)
                | false => rfl
              have sf : ¬ sel t = true := fun z => by rw [su.mpr z] at ub; exact absurd ub (by decide)
              refine w_goto d314_178 ?_
              refine w_iinc1 d314_196 rfl (by constructor <;> omega) ?_
              refine w_goto d314_199 ?_
              rw [show ((t : Nat) : Int) + 1 = ((t + 1 : Nat) : Int) by omega]
              refine w_less ?_ (IH2 _ (by omega) g2 (t + 1) rfl FRg2 (by omega) (by first | (rw [show mkTxt P0.2.2 sel (t + 1) = mkTxt P0.2.2 sel t by rw [mkTxt, if_neg sf, List.append_nil]]; exact TE) | (rw [show mkTxt P0.2.2 sel (t + 1) = mkTxt P0.2.2 sel t ++ (tgN (tD P0.2.2 t) ++ [59]) by rw [mkTxt, if_pos sf]]; exact TE)))
              exact ⟨Or.inr rfl, Or.inr rfl, Or.inl rfl, Or.inl rfl, Or.inl rfl, Or.inl rfl, Or.inl rfl, trivial⟩
          · have hu : u < P0.2.2.length := by omega
            refine w_iload_n d314_54 rfl ?_
            refine w_iload d314_55 rfl ?_
            refine w_ishr d314_57 ?_
            rw [shr_n (n := n33) (u := u) (by omega) (by omega)]
            refine w_iconst d314_58 (by decide) ?_
            refine w_iand d314_59 ?_
            rw [and_1 (a := n33 / 2 ^ u) (div_lt (by omega))]
            refine w_ifne d314_60 (fun c60 => ?_) (fun c60 => ?_)
            · have bu : bt n33 u := by unfold bt; have := bt_v n33 u; omega
              refine w_iconst d314_66 (by decide) ?_
              refine w_istore5 d314_67 rfl ?_
              have L69 : ∀ (m69 : Nat) (k : Nat) (us : Bool), (tgI (tD P0.2.2 u)).length - k = m69 → (k ≤ (tgI (tD P0.2.2 u)).length) → (UsK P0.2.2 (sl l f e) n33 u k us) → Wp G d 314 69 [some (vR (some m)), some (vI (t : Nat)), some (vI (n33 : Nat)), some (vI (b2i us)), some (vI (u : Nat)), some (vI (k : Nat)), none] [] g2 Q := by
                intro m69
                induction m69 using Nat.strongRecOn with | ind m69 IH69 => ?_
                intro k us hm69 kl ik
                refine w_iload d314_69 rfl ?_
                refine w_aload_n d314_71 rfl ?_
                refine w_dloadS d314_72 (okg2.kd hm) (fr1664 okg2 hm) ?_
                refine w_dloadS d314_75 (okg2.kd (kT1664 okg2 hm)) (fr1424 okg2 (kT1664 okg2 hm)) ?_
                refine w_iload d314_78 rfl ?_
                refine w_ialoadV (x := (((tgI (tD P0.2.2 u)).length : Nat) : Int)) d314_80 (gi1424 okg2 (kT1664 okg2 hm) (by omega)) (NF.2.2.2.2 u hu).2.2.2.2.2.2.2.2.2.1 ?_
                refine w_icmpge d314_81 (fun c81 => ?_) (fun c81 => ?_)
                · have ek : (tgI (tD P0.2.2 u)).length = k := by omega
                  refine w_iinc4 d314_168 rfl (by constructor <;> omega) ?_
                  refine w_goto d314_171 ?_
                  rw [show ((u : Nat) : Int) + 1 = ((u + 1 : Nat) : Int) by omega]
                  refine w_less ?_ (IH42 _ (by omega) (u + 1) us rfl (by omega) (by first | exact iu.no bu | exact ik.i bu ek))
                  exact ⟨Or.inr rfl, Or.inr rfl, Or.inr rfl, Or.inr rfl, Or.inr rfl, Or.inl rfl, Or.inl rfl, trivial⟩
                · have hk : k < (tgI (tD P0.2.2 u)).length := by omega
                  have hk6 : k < 6 := by have := (NF.2.2.2.2 u hu).2.2.2.2.2.2.2.2.2.2.1; omega
                  refine w_bipush d314_84 (by decide) ?_
                  refine w_iload d314_86 rfl ?_
                  refine w_imul d314_88 (by constructor <;> omega) ?_
                  rw [show (6 : Int) * ((u : Nat) : Int) = ((6 * u : Nat) : Int) by omega]
                  refine w_iload d314_89 rfl ?_
                  refine w_iadd d314_91 (by constructor <;> omega) ?_
                  rw [show ((6 * u : Nat) : Int) + ((k : Nat) : Int) = ((6 * u + k : Nat) : Int) by omega]
                  refine w_istore6 d314_92 rfl ?_
                  refine w_iload_n d314_94 rfl ?_
                  refine w_ifne d314_95 (fun c95 => ?_) (fun c95 => ?_)
                  · have ub : us = true := by
                      cases hz : us with
                      | true => rfl
                      | false => rw [hz] at c95; exact absurd rfl c95
                    refine w_iconst d314_156 (by decide) ?_
                    refine w_goto d314_157 ?_
                    refine w_istore3 d314_161 rfl ?_
                    refine w_iinc5 d314_162 rfl (by constructor <;> omega) ?_
                    refine w_goto d314_165 ?_
                    rw [show ((k : Nat) : Int) + 1 = ((k + 1 : Nat) : Int) by omega]
                    refine w_less ?_ (IH69 _ (by omega) (k + 1) true rfl (by omega) (ik.s (by first | exact ⟨fun _ => Or.inr fl1, fun _ => rfl⟩ | (rw [ub]; simp))))
                    exact ⟨Or.inr rfl, Or.inr rfl, Or.inr rfl, Or.inr rfl, Or.inr rfl, Or.inr rfl, Or.inl rfl, trivial⟩
                  · have ub : us = false := by
                      cases hz : us with
                      | true => rw [hz] at c95; exact absurd c95 (by decide)
                      | false => rfl
                    refine w_aload_n d314_98 rfl ?_
                    refine w_dloadS d314_99 (okg2.kd hm) (fr1664 okg2 hm) ?_
                    refine w_dloadS d314_102 (okg2.kd (kT1664 okg2 hm)) (fr1425 okg2 (kT1664 okg2 hm)) ?_
                    refine w_iload d314_105 rfl ?_
                    refine w_baloadV (x := (b2i (inB (tgI (tD P0.2.2 u)) k))) d314_107 (gi1425 okg2 (kT1664 okg2 hm) (by omega)) (((NF.2.2.2.2 u hu).2.2.2.2.2.2.2.2.2.2.2.1 k hk).1) ?_
                    refine w_ifne d314_108 (fun c108 => ?_) (fun c108 => ?_)
                    · have ib : (inB (tgI (tD P0.2.2 u)) k) = true := by
                        cases hz : (inB (tgI (tD P0.2.2 u)) k) with
                        | true => rfl
                        | false => rw [hz] at c108; exact absurd rfl c108
                      have fl0 : ¬ (isFl (tgI (tD P0.2.2 u)) (sl l f e) k) = true := by unfold isFl; rw [ib]; simp
                      refine w_iconst d314_160 (by decide) ?_
                      refine w_istore3 d314_161 rfl ?_
                      refine w_iinc5 d314_162 rfl (by constructor <;> omega) ?_
                      refine w_goto d314_165 ?_
                      rw [show ((k : Nat) : Int) + 1 = ((k + 1 : Nat) : Int) by omega]
                      refine w_less ?_ (IH69 _ (by omega) (k + 1) false rfl (by omega) (ik.s (by rw [ub]; exact ⟨fun z => Or.inl z, fun z => z.elim id (fun z => absurd z fl0)⟩)))
                      exact ⟨Or.inr rfl, Or.inr rfl, Or.inr rfl, Or.inr rfl, Or.inr rfl, Or.inr rfl, Or.inl rfl, trivial⟩
                    · have ib : (inB (tgI (tD P0.2.2 u)) k) = false := by
                        cases hz : (inB (tgI (tD P0.2.2 u)) k) with
                        | true => rw [hz] at c108; exact absurd c108 (by decide)
                        | false => rfl
                      refine w_aload_n d314_111 rfl ?_
                      refine w_dloadS d314_112 (okg2.kd hm) (fr1664 okg2 hm) ?_
                      refine w_dloadS d314_115 (okg2.kd (kT1664 okg2 hm)) (fr1426 okg2 (kT1664 okg2 hm)) ?_
                      refine w_bipush d314_118 (by decide) ?_
                      refine w_iload d314_120 rfl ?_
                      refine w_imul d314_122 (by constructor <;> omega) ?_
                      rw [show (12 : Int) * (((6 * u + k) : Nat) : Int) = ((12 * (6 * u + k) : Nat) : Int) by omega]
                      refine w_aload_n d314_123 rfl ?_
                      refine w_dloadS d314_124 (okg2.kd hm) (fr1664 okg2 hm) ?_
                      refine w_dloadS d314_127 (okg2.kd (kT1664 okg2 hm)) (fr1427 okg2 (kT1664 okg2 hm)) ?_
                      refine w_iload d314_130 rfl ?_
                      refine w_ialoadV (x := ((inN (tgI (tD P0.2.2 u)) k).length : Int)) d314_132 (gi1427 okg2 (kT1664 okg2 hm) (by omega)) (((NF.2.2.2.2 u hu).2.2.2.2.2.2.2.2.2.2.2.1 k hk).2.1) ?_
                      refine w_aload_n d314_133 rfl ?_
                      refine w_dloadS d314_134 (okg2.kd hm) (fr1730 okg2 hm) ?_
                      refine w_aload_n d314_137 rfl ?_
                      refine w_getI (x := ((f : Nat) : Int)) d314_138 (okg2.kd hm) NM.1 ?_
                      refine w_aload_n d314_141 rfl ?_
                      refine w_getI (x := ((e : Nat) : Int)) d314_142 (okg2.kd hm) NM.2 ?_
                      refine w_aload_n d314_145 rfl ?_
                      refine w_getI (x := ((f : Nat) : Int)) d314_146 (okg2.kd hm) NM.1 ?_
                      refine w_isub d314_149 (by constructor <;> omega) ?_
                      rw [show ((e : Nat) : Int) - ((f : Nat) : Int) = ((e - f : Nat) : Int) by omega]
                      refine w_calls6 d314_150 (by omega) rfl rfl (by simp) (Nat.le_of_ble_eq_true rfl) ?_
                      refine k_D_isSame okg2 (by omega) rfl sne.symm (((NF.2.2.2.2 u hu).2.2.2.2.2.2.2.2.2.2.2.1 k hk).2.2.2) (RQ.2.2.sub he) ?_
                      refine w_ifeq d314_153 (fun c153 => ?_) (fun c153 => ?_)
                      · have fl0 : ¬ (isFl (tgI (tD P0.2.2 u)) (sl l f e) k) = true := fun z => by
                          unfold isFl at z
                          simp only [Bool.and_eq_true, beq_iff_eq] at z
                          rw [decide_eq_true z.2] at c153
                          exact absurd c153 (by decide)
                        refine w_iconst d314_160 (by decide) ?_
                        refine w_istore3 d314_161 rfl ?_
                        refine w_iinc5 d314_162 rfl (by constructor <;> omega) ?_
                        refine w_goto d314_165 ?_
                        rw [show ((k : Nat) : Int) + 1 = ((k + 1 : Nat) : Int) by omega]
                        refine w_less ?_ (IH69 _ (by omega) (k + 1) false rfl (by omega) (ik.s (by rw [ub]; exact ⟨fun z => Or.inl z, fun z => z.elim id (fun z => absurd z fl0)⟩)))
                        exact ⟨Or.inr rfl, Or.inr rfl, Or.inr rfl, Or.inr rfl, Or.inr rfl, Or.inr rfl, Or.inl rfl, trivial⟩
                      · have fl1 : (isFl (tgI (tD P0.2.2 u)) (sl l f e) k) = true := by
                          unfold isFl
                          rw [ib]
                          simp only [Bool.not_false, Bool.true_and, beq_iff_eq]
                          by_cases z : inN (tgI (tD P0.2.2 u)) k = sl l f e
                          · exact z
                          · rw [decide_eq_false z] at c153; exact absurd rfl c153
                        refine w_iconst d314_156 (by decide) ?_
                        refine w_goto d314_157 ?_
                        refine w_istore3 d314_161 rfl ?_
                        refine w_iinc5 d314_162 rfl (by constructor <;> omega) ?_
                        refine w_goto d314_165 ?_
                        rw [show ((k : Nat) : Int) + 1 = ((k + 1 : Nat) : Int) by omega]
                        refine w_less ?_ (IH69 _ (by omega) (k + 1) true rfl (by omega) (ik.s (by first | exact ⟨fun _ => Or.inr fl1, fun _ => rfl⟩ | (rw [ub]; simp))))
                        exact ⟨Or.inr rfl, Or.inr rfl, Or.inr rfl, Or.inr rfl, Or.inr rfl, Or.inr rfl, Or.inl rfl, trivial⟩
              refine w_less ?_ (L69 _ 0 us rfl (Nat.zero_le _) iu.k)
              exact ⟨Or.inr rfl, Or.inr rfl, Or.inr rfl, Or.inr rfl, Or.inr rfl, Or.inr rfl, Or.inl rfl, trivial⟩
            · have bu : ¬ bt n33 u := by unfold bt; omega
              refine w_goto d314_63 ?_
              refine w_iinc4 d314_168 rfl (by constructor <;> omega) ?_
              refine w_goto d314_171 ?_
              rw [show ((u : Nat) : Int) + 1 = ((u + 1 : Nat) : Int) by omega]
              refine w_less ?_ (IH42 _ (by omega) (u + 1) us rfl (by omega) (by first | exact iu.no bu | exact ik.i bu ek))
              exact ⟨Or.inr rfl, Or.inr rfl, Or.inr rfl, Or.inr rfl, Or.inr rfl, Or.inl rfl, Or.inl rfl, trivial⟩
        refine w_less ?_ (L42 _ 0 false rfl (Nat.zero_le _) ⟨fun z => absurd z (by decide), fun ⟨z, hz, _⟩ => absurd hz (Nat.not_lt_zero _)⟩)
        exact ⟨Or.inr rfl, Or.inr rfl, Or.inr rfl, Or.inr rfl, Or.inr rfl, Or.inl rfl, Or.inl rfl, trivial⟩
      · have tt : (tH P0.2.2 t) = false := by
          cases hz : (tH P0.2.2 t) with
          | true => rw [hz] at c22; exact absurd c22 (by decide)
          | false => rfl
        have sf : ¬ sel t = true := fun z => by
          obtain ⟨w, w1, w2, w3⟩ := (US t ht).mp z
          have H : tH P0.2.2 t = true := w3.back (P := fun z => tH P0.2.2 z = true) w2.1 (fun a b _ e => by
            obtain ⟨i, hi⟩ := e
            unfold inT at hi
            split at hi
            · rename_i q; exact q.2.2.1
            · omega)
          rw [H] at tt; exact absurd tt (by decide)
        refine w_goto d314_25 ?_
        refine w_iinc1 d314_196 rfl (by constructor <;> omega) ?_
        refine w_goto d314_199 ?_
        rw [show ((t : Nat) : Int) + 1 = ((t + 1 : Nat) : Int) by omega]
        refine w_less ?_ (IH2 _ (by omega) g2 (t + 1) rfl FRg2 (by omega) (by first | (rw [show mkTxt P0.2.2 sel (t + 1) = mkTxt P0.2.2 sel t by rw [mkTxt, if_neg sf, List.append_nil]]; exact TE) | (rw [show mkTxt P0.2.2 sel (t + 1) = mkTxt P0.2.2 sel t ++ (tgN (tD P0.2.2 t) ++ [59]) by rw [mkTxt, if_pos sf]]; exact TE)))
        exact ⟨Or.inr rfl, Or.inr rfl, Or.inl rfl, Or.inl rfl, Or.inl rfl, Or.inl rfl, Or.inl rfl, trivial⟩
  refine w_less ?_ (L2 _ h 0 rfl (Fr.refl ok) (Nat.zero_le _) TE)
  exact ⟨Or.inr rfl, Or.inr rfl, Or.inl rfl, Or.inl rfl, Or.inl rfl, Or.inl rfl, Or.inl rfl, trivial⟩
