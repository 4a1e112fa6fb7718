/-! the reference: rules -/
theorem ArI.s2 {S : Shp} {m f n : Nat} {g : Nat → Int} {F : List Nat} {h h' : Hp} (fr : Fr S m F h h') (hm : sK S m = 14) (D : ArI S h m f g n) (h1 : f ∉ F ∧ ltF4 F ∧ (fk f = 40 ∨ fk f = 42) ∧ kFld f = 14 ∧ f < 4096 := by decide) : ArI S h' m f g n := D.r fr hm h1
/-- the rules -/
def RsR (S : Shp) (h : Hp) (m : Nat) (rs : List RuV) : Prop := FI h 1720 m = rs.length ∧ rs.length ≤ 20 ∧ ∀ k, k < rs.length → AI h (sT S 1721 m) k = rOf rs k ∧ AI h (sT S 1722 m) k = (rWh rs k : Nat) ∧ AI h (sT S 1723 m) k = (rPa rs k : Nat) ∧ AI h (sT S 1724 m) k = (rLo rs k : Nat) ∧ AI h (sT S 1725 m) k = (rHi rs k : Nat) ∧ (-1 ≤ rOf rs k ∧ rOf rs k ≤ 4) ∧ rWh rs k ≤ 3 ∧ rPa rs k ≤ 4 ∧ rLo rs k ≤ 3 ∧ rHi rs k ≤ 3
theorem RsR.s {S : Shp} {m : Nat} {rs : List RuV} {F : List Nat} {h h' : Hp} (fr : Fr S m F h h') (hm : sK S m = 14) (D : RsR S h m rs) (h1 : (∀ f ∈ [1720, 1721, 1722, 1723, 1724, 1725], f ∉ F) ∧ ltF4 F := by decide) : RsR S h' m rs := by
  have e : ∀ f, f ∈ [1721, 1722, 1723, 1724, 1725] → AI h' (sT S f m) = AI h (sT S f m) := fun f hf => by
    have hf2 : fk f = 40 ∧ kFld f = 14 ∧ f < 4096 ∧ f ∈ [1720, 1721, 1722, 1723, 1724, 1725] := by revert f; decide
    have k := (fr.1.so.2.2.1 f m (by omega) (by omega)).1
    exact fr.ai (by omega) hf2.2.2.1 (h1.1 _ hf2.2.2.2) h1.2
  refine ⟨(fr.i 1720 (h1.1 _ (by decide))).trans D.1, D.2.1, fun k hk => ?_⟩
  rw [e 1721 (by decide), e 1722 (by decide), e 1723 (by decide), e 1724 (by decide), e 1725 (by decide)]
  exact D.2.2 k hk
/-- what is decided: -1 nothing, else a version -/
def ChR (S : Shp) (h : Hp) (m : Nat) (vl : Nat → Int) : Prop := ∀ p, p < 5 → (vl p = -1 ∧ AI h (sT S 1727 m) p = 0) ∨ (0 ≤ vl p ∧ vl p ≤ 3 ∧ AI h (sT S 1727 m) p = 1 ∧ AI h (sT S 1726 m) p = vl p)
theorem ChR.s {S : Shp} {m : Nat} {vl : Nat → Int} {F : List Nat} {h h' : Hp} (fr : Fr S m F h h') (hm : sK S m = 14) (D : ChR S h m vl) (h1 : 1726 ∉ F ∧ 1727 ∉ F ∧ ltF4 F := by decide) : ChR S h' m vl := fun p hp => by
  rw [fr.ai (by have := kT1726 fr.1 hm; omega) (by decide) h1.1 h1.2.2, fr.ai (by have := kT1727 fr.1 hm; omega) (by decide) h1.2.1 h1.2.2]
  exact D p hp
theorem rus_add {S : Shp} {m f : Nat} {h h' : Hp} {rs : List RuV} {nu : Nat → Int} (D : RsR S h m rs) (hlt : rs.length < 20) (hnu : (0 < f → 0 ≤ nu 0 ∧ nu 0 ≤ 4 ∧ 1 ≤ nu 1 ∧ nu 1 ≤ 3) ∧ 0 ≤ nu f ∧ nu f ≤ 4 ∧ 1 ≤ nu (f + 1) ∧ nu (f + 1) ≤ 3 ∧ 1 ≤ nu (f + 2) ∧ nu (f + 2) ≤ 3) (hl : FI h' 1720 m = ((rs.length + 1 : Nat) : Int))
    (h1 : ArI S h' m 1721 (upO (AI h (sT S 1721 m)) rs.length (if 0 < f then nu 0 else -1)) 20) (h2 : ArI S h' m 1722 (upO (AI h (sT S 1722 m)) rs.length (if 0 < f then nu 1 else 0)) 20) (h3 : ArI S h' m 1723 (upO (AI h (sT S 1723 m)) rs.length (nu f)) 20) (h4 : ArI S h' m 1724 (upO (AI h (sT S 1724 m)) rs.length (nu (f + 1))) 20) (h5 : ArI S h' m 1725 (upO (AI h (sT S 1725 m)) rs.length (nu (f + 2))) 20) : RsR S h' m (rs ++ [nuR nu f]) := by
  obtain ⟨n1, n2, n3, n4, n5, n6, n7⟩ := hnu
  refine ⟨by rw [List.length_append]; exact hl, by rw [List.length_append]; show rs.length + 1 ≤ 20; omega, fun k hk => ?_⟩
  rw [List.length_append] at hk
  have hk : k < rs.length + 1 := hk
  have k20 : k < 20 := by omega
  rw [h1 k k20, h2 k k20, h3 k k20, h4 k k20, h5 k k20]
  unfold upO rOf rWh rPa rLo rHi
  rw [ru_snoc]
  by_cases q : k = rs.length
  · simp only [if_pos q]
    unfold nuR
    dsimp only
    by_cases z : 0 < f
    · obtain ⟨m1, m2, m3, m4⟩ := n1 z
      simp only [if_pos z]
      refine ⟨?_, ?_, ?_, ?_, ?_, ⟨?_, ?_⟩, ?_, ?_, ?_, ?_⟩ <;> first | trivial | rfl | omega
    · simp only [if_neg z]
      refine ⟨?_, ?_, ?_, ?_, ?_, ⟨?_, ?_⟩, ?_, ?_, ?_, ?_⟩ <;> first | trivial | rfl | omega
  · simp only [if_neg q]
    exact D.2.2 k (by omega)
theorem rfs_in {nu : Nat → Int} {f n : Nat} (hf : f = 0 ∨ f = 2) (h0 : ∀ i, i < 5 → 0 ≤ nu i) (h : rfs nu f n = 19) : ((0 < f → 0 ≤ nu 0 ∧ nu 0 ≤ 4 ∧ 1 ≤ nu 1 ∧ nu 1 ≤ 3) ∧ 0 ≤ nu f ∧ nu f ≤ 4 ∧ 1 ≤ nu (f + 1) ∧ nu (f + 1) ≤ 3 ∧ 1 ≤ nu (f + 2) ∧ nu (f + 2) ≤ 3) ∧ n < 20 := by
  unfold rfs at h
  have a0 := h0 0 (by decide)
  have a1 := h0 1 (by decide)
  have af := h0 f (by omega)
  by_cases c1 : 5 ≤ nu f ∨ 0 < f ∧ 5 ≤ nu 0
  · rw [if_pos c1] at h; exact absurd h (by decide)
  rw [if_neg c1] at h
  by_cases c2 : nu (f + 1) < 1 ∨ 3 < nu (f + 2) ∨ nu (f + 2) < nu (f + 1) ∨ 0 < f ∧ (nu 1 < 1 ∨ 3 < nu 1)
  · rw [if_pos c2] at h; exact absurd h (by decide)
  rw [if_neg c2] at h
  by_cases c3 : 20 ≤ n
  · rw [if_pos c3] at h; exact absurd h (by decide)
  refine ⟨⟨fun z => ⟨?_, ?_, ?_, ?_⟩, ?_, ?_, ?_, ?_, ?_, ?_⟩, ?_⟩ <;> omega
theorem d299_0 : dc 299 0 = some (.aload_n 0, 1) := by decide +kernel
theorem d299_1 : dc 299 1 = some (.getfield 1739, 4) := by decide +kernel
theorem d299_4 : dc 299 4 = some (.bipush 11, 6) := by decide +kernel
theorem d299_6 : dc 299 6 = some (.if_icmp .ne ((13 : Nat) : Int), 9) := by decide +kernel
theorem d299_13 : dc 299 13 = some (.iconst 0, 14) := by decide +kernel
theorem d299_14 : dc 299 14 = some (.istore_n 1, 15) := by decide +kernel
theorem d299_15 : dc 299 15 = some (.aload_n 0, 16) := by decide +kernel
theorem d299_16 : dc 299 16 = some (.dload 1721, 19) := by decide +kernel
theorem d299_19 : dc 299 19 = some (.aload_n 0, 20) := by decide +kernel
theorem d299_20 : dc 299 20 = some (.getfield 1720, 23) := by decide +kernel
theorem d299_23 : dc 299 23 = some (.iload_n 1, 24) := by decide +kernel
theorem d299_24 : dc 299 24 = some (.ifCond .eq ((36 : Nat) : Int), 27) := by decide +kernel
theorem d299_36 : dc 299 36 = some (.iconst (-1), 37) := by decide +kernel
theorem d299_37 : dc 299 37 = some (.iastore, 38) := by decide +kernel
theorem d299_38 : dc 299 38 = some (.aload_n 0, 39) := by decide +kernel
theorem d299_39 : dc 299 39 = some (.dload 1722, 42) := by decide +kernel
theorem d299_42 : dc 299 42 = some (.aload_n 0, 43) := by decide +kernel
theorem d299_43 : dc 299 43 = some (.getfield 1720, 46) := by decide +kernel
theorem d299_46 : dc 299 46 = some (.iload_n 1, 47) := by decide +kernel
theorem d299_47 : dc 299 47 = some (.ifCond .eq ((59 : Nat) : Int), 50) := by decide +kernel
theorem d299_59 : dc 299 59 = some (.iconst 0, 60) := by decide +kernel
theorem d299_60 : dc 299 60 = some (.iastore, 61) := by decide +kernel
theorem d299_61 : dc 299 61 = some (.aload_n 0, 62) := by decide +kernel
theorem d299_62 : dc 299 62 = some (.dload 1723, 65) := by decide +kernel
theorem d299_65 : dc 299 65 = some (.aload_n 0, 66) := by decide +kernel
theorem d299_66 : dc 299 66 = some (.getfield 1720, 69) := by decide +kernel
theorem d299_69 : dc 299 69 = some (.iload_n 1, 70) := by decide +kernel
theorem d299_70 : dc 299 70 = some (.ifCond .eq ((82 : Nat) : Int), 73) := by decide +kernel
theorem d299_82 : dc 299 82 = some (.aload_n 0, 83) := by decide +kernel
theorem d299_83 : dc 299 83 = some (.dload 1741, 86) := by decide +kernel
theorem d299_86 : dc 299 86 = some (.iconst 0, 87) := by decide +kernel
theorem d299_87 : dc 299 87 = some (.iaload, 88) := by decide +kernel
theorem d299_88 : dc 299 88 = some (.iastore, 89) := by decide +kernel
theorem d299_89 : dc 299 89 = some (.aload_n 0, 90) := by decide +kernel
theorem d299_90 : dc 299 90 = some (.dload 1724, 93) := by decide +kernel
theorem d299_93 : dc 299 93 = some (.aload_n 0, 94) := by decide +kernel
theorem d299_94 : dc 299 94 = some (.getfield 1720, 97) := by decide +kernel
theorem d299_97 : dc 299 97 = some (.iload_n 1, 98) := by decide +kernel
theorem d299_98 : dc 299 98 = some (.ifCond .eq ((110 : Nat) : Int), 101) := by decide +kernel
theorem d299_110 : dc 299 110 = some (.aload_n 0, 111) := by decide +kernel
theorem d299_111 : dc 299 111 = some (.dload 1741, 114) := by decide +kernel
theorem d299_114 : dc 299 114 = some (.iconst 1, 115) := by decide +kernel
theorem d299_115 : dc 299 115 = some (.iaload, 116) := by decide +kernel
theorem d299_116 : dc 299 116 = some (.iastore, 117) := by decide +kernel
theorem d299_117 : dc 299 117 = some (.aload_n 0, 118) := by decide +kernel
theorem d299_118 : dc 299 118 = some (.dload 1725, 121) := by decide +kernel
theorem d299_121 : dc 299 121 = some (.aload_n 0, 122) := by decide +kernel
theorem d299_122 : dc 299 122 = some (.getfield 1720, 125) := by decide +kernel
theorem d299_125 : dc 299 125 = some (.iload_n 1, 126) := by decide +kernel
theorem d299_126 : dc 299 126 = some (.ifCond .eq ((138 : Nat) : Int), 129) := by decide +kernel
theorem d299_138 : dc 299 138 = some (.aload_n 0, 139) := by decide +kernel
theorem d299_139 : dc 299 139 = some (.dload 1741, 142) := by decide +kernel
theorem d299_142 : dc 299 142 = some (.iconst 2, 143) := by decide +kernel
theorem d299_143 : dc 299 143 = some (.iaload, 144) := by decide +kernel
theorem d299_144 : dc 299 144 = some (.iastore, 145) := by decide +kernel
theorem d299_145 : dc 299 145 = some (.aload_n 0, 146) := by decide +kernel
theorem d299_146 : dc 299 146 = some (.getstatic 70, 149) := by decide +kernel
theorem d299_149 : dc 299 149 = some (.invokevirtual 217, 152) := by decide +kernel
theorem d299_152 : dc 299 152 = some (.aload_n 0, 153) := by decide +kernel
theorem d299_153 : dc 299 153 = some (.aload_n 0, 154) := by decide +kernel
theorem d299_154 : dc 299 154 = some (.getfield 1720, 157) := by decide +kernel
theorem d299_157 : dc 299 157 = some (.invokevirtual 219, 160) := by decide +kernel
theorem d299_160 : dc 299 160 = some (.aload_n 0, 161) := by decide +kernel
theorem d299_161 : dc 299 161 = some (.dup, 162) := by decide +kernel
theorem d299_162 : dc 299 162 = some (.getfield 1720, 165) := by decide +kernel
theorem d299_165 : dc 299 165 = some (.iconst 1, 166) := by decide +kernel
theorem d299_166 : dc 299 166 = some (.iadd, 167) := by decide +kernel
theorem d299_167 : dc 299 167 = some (.putfield 1720, 170) := by decide +kernel
theorem d299_170 : dc 299 170 = some (.return_, 171) := by decide +kernel
theorem k_M_addRule0 {S : Shp} {G : Nat → Option Nat} {d : Nat} {h : Hp} {Q : Option MV → Hp → Prop} {m : Nat} {rs : List RuV} {nu : Nat → Int} {la : List Nat} (ok : Ok S h) (h1 : 12 ≤ d) (hm : sK S m = 14) (RS : RsR S h m rs) (NK : FI h 1739 m = 10) (AG : ArI S h m 1741 nu 3) (TE : TeR S h m la) (tg : Tg S G) (hnu : (0 < 0 → 0 ≤ nu 0 ∧ nu 0 ≤ 4 ∧ 1 ≤ nu 1 ∧ nu 1 ≤ 3) ∧ 0 ≤ nu 0 ∧ nu 0 ≤ 4 ∧ 1 ≤ nu (0 + 1) ∧ nu (0 + 1) ≤ 3 ∧ 1 ≤ nu (0 + 2) ∧ nu (0 + 2) ≤ 3) (hlt : rs.length < 20)
    (kk : ∀ h', Fr S m [1720, 1721, 1722, 1723, 1724, 1725, 1732, 1733] h h' → TeR S h' m (addBs 20000 la (txt 20 ++ dec rs.length)) → RsR S h' m (rs ++ [nuR nu 0]) → Q none h') : Cl G d 299 [vR (some m)] h Q := by
  show Wp G d 299 0 [some (vR (some m)), none] [] h Q
  have RS_0 := RS
  have NK_0 := NK
  have AG_0 := AG
  have TE_0 := TE
  have V21 : ArI S h m 1721 (AI h (sT S 1721 m)) 20 := fun _ _ => rfl
  have V22 : ArI S h m 1722 (AI h (sT S 1722 m)) 20 := fun _ _ => rfl
  have V23 : ArI S h m 1723 (AI h (sT S 1723 m)) 20 := fun _ _ => rfl
  have V24 : ArI S h m 1724 (AI h (sT S 1724 m)) 20 := fun _ _ => rfl
  have V25 : ArI S h m 1725 (AI h (sT S 1725 m)) 20 := fun _ _ => rfl
  have C20 := RS.1
  obtain ⟨u1, u2, u3, u4, u5, u6, u7⟩ := hnu
  have hnu := (⟨u1, u2, u3, u4, u5, u6, u7⟩ : (0 < 0 → 0 ≤ nu 0 ∧ nu 0 ≤ 4 ∧ 1 ≤ nu 1 ∧ nu 1 ≤ 3) ∧ 0 ≤ nu 0 ∧ nu 0 ≤ 4 ∧ 1 ≤ nu (0 + 1) ∧ nu (0 + 1) ≤ 3 ∧ 1 ≤ nu (0 + 2) ∧ nu (0 + 2) ≤ 3)
  have y4 : 1 ≤ nu 1 := u4
  have y5 : nu 1 ≤ 3 := u5
  have y6 : 1 ≤ nu 2 := u6
  have y7 : nu 2 ≤ 3 := u7
  refine w_aload_n d299_0 rfl ?_
  refine w_getI (x := 10) d299_1 (ok.kd hm) NK ?_
  refine w_bipush d299_4 (by decide) ?_
  refine w_icmpne d299_6 (fun c6 => ?_) (fun c6 => ?_)
  · refine w_iconst d299_13 (by decide) ?_
    refine w_istore1 d299_14 rfl ?_
    refine w_aload_n d299_15 rfl ?_
    refine w_dloadS d299_16 (ok.kd hm) (fr1721 ok hm) ?_
    refine w_aload_n d299_19 rfl ?_
    refine w_getI (x := ((rs.length : Nat) : Int)) d299_20 (ok.kd hm) C20 ?_
    refine w_iload_n d299_23 rfl ?_
    refine w_ifeq d299_24 (fun c24 => ?_) (fun c24 => ?_)
    · refine w_iconst d299_36 (by decide) ?_
      refine wa1721 d299_37 ok hm (by omega) (by omega) (fun h37 e37 m37 => ?_)
      have e37 : h37 = sAI h (sT S 1721 m) rs.length (-1) := e37
      have f37 : Fr S m [1721] _ _ := Fr.wB ok hm m37 (fun ζ e => ⟨1721, by decide, by decide, e ▸ U_refl⟩)
      have ok37 := f37.ok
      have FR37 := Fr.le (F := [1720, 1721, 1722, 1723, 1724, 1725, 1732, 1733]) f37 (by decide)
      have NK := (f37.i 1739).trans NK
      have AG := ArI.s2 f37 hm AG
      have TE := TE.r f37 hm
      have C20 := (f37.i 1720).trans C20
      have V22 := ArI.s2 f37 hm V22
      have V23 := ArI.s2 f37 hm V23
      have V24 := ArI.s2 f37 hm V24
      have V25 := ArI.s2 f37 hm V25
      have V21 : ArI S h37 m 1721 (upO (AI h (sT S 1721 m)) rs.length (if 0 < 0 then nu 0 else -1)) 20 := ArI.w V21 e37
      refine w_aload_n d299_38 rfl ?_
      refine w_dloadS d299_39 (ok37.kd hm) (fr1722 ok37 hm) ?_
      refine w_aload_n d299_42 rfl ?_
      refine w_getI (x := ((rs.length : Nat) : Int)) d299_43 (ok37.kd hm) C20 ?_
      refine w_iload_n d299_46 rfl ?_
      refine w_ifeq d299_47 (fun c47 => ?_) (fun c47 => ?_)
      · refine w_iconst d299_59 (by decide) ?_
        refine wa1722 d299_60 ok37 hm (by omega) (by omega) (fun h60 e60 m60 => ?_)
        have e60 : h60 = sAI h37 (sT S 1722 m) rs.length 0 := e60
        have f60 : Fr S m [1722] _ _ := Fr.wB ok37 hm m60 (fun ζ e => ⟨1722, by decide, by decide, e ▸ U_refl⟩)
        have ok60 := f60.ok
        have FR60 := Fr.tr (F := [1720, 1721, 1722, 1723, 1724, 1725, 1732, 1733]) FR37 f60 (by decide) (by decide)
        have NK := (f60.i 1739).trans NK
        have AG := ArI.s2 f60 hm AG
        have TE := TE.r f60 hm
        have C20 := (f60.i 1720).trans C20
        have V23 := ArI.s2 f60 hm V23
        have V24 := ArI.s2 f60 hm V24
        have V25 := ArI.s2 f60 hm V25
        have V21 := ArI.s2 f60 hm V21
        have V22 : ArI S h60 m 1722 (upO (AI h (sT S 1722 m)) rs.length (if 0 < 0 then nu 1 else 0)) 20 := ArI.w V22 e60
        refine w_aload_n d299_61 rfl ?_
        refine w_dloadS d299_62 (ok60.kd hm) (fr1723 ok60 hm) ?_
        refine w_aload_n d299_65 rfl ?_
        refine w_getI (x := ((rs.length : Nat) : Int)) d299_66 (ok60.kd hm) C20 ?_
        refine w_iload_n d299_69 rfl ?_
        refine w_ifeq d299_70 (fun c70 => ?_) (fun c70 => ?_)
        · refine w_aload_n d299_82 rfl ?_
          refine w_dloadS d299_83 (ok60.kd hm) (fr1741 ok60 hm) ?_
          refine w_iconst d299_86 (by decide) ?_
          refine w_ialoadV (x := (nu 0)) d299_87 (gi1741 ok60 hm (by omega)) (AG 0 (by decide)) ?_
          refine wa1723 d299_88 ok60 hm (by omega) (by omega) (fun h88 e88 m88 => ?_)
          have e88 : h88 = sAI h60 (sT S 1723 m) rs.length (nu 0) := e88
          have f88 : Fr S m [1723] _ _ := Fr.wB ok60 hm m88 (fun ζ e => ⟨1723, by decide, by decide, e ▸ U_refl⟩)
          have ok88 := f88.ok
          have FR88 := Fr.tr (F := [1720, 1721, 1722, 1723, 1724, 1725, 1732, 1733]) FR60 f88 (by decide) (by decide)
          have NK := (f88.i 1739).trans NK
          have AG := ArI.s2 f88 hm AG
          have TE := TE.r f88 hm
          have C20 := (f88.i 1720).trans C20
          have V24 := ArI.s2 f88 hm V24
          have V25 := ArI.s2 f88 hm V25
          have V21 := ArI.s2 f88 hm V21
          have V22 := ArI.s2 f88 hm V22
          have V23 : ArI S h88 m 1723 (upO (AI h (sT S 1723 m)) rs.length (nu 0)) 20 := ArI.w V23 e88
          refine w_aload_n d299_89 rfl ?_
          refine w_dloadS d299_90 (ok88.kd hm) (fr1724 ok88 hm) ?_
          refine w_aload_n d299_93 rfl ?_
          refine w_getI (x := ((rs.length : Nat) : Int)) d299_94 (ok88.kd hm) C20 ?_
          refine w_iload_n d299_97 rfl ?_
          refine w_ifeq d299_98 (fun c98 => ?_) (fun c98 => ?_)
          · refine w_aload_n d299_110 rfl ?_
            refine w_dloadS d299_111 (ok88.kd hm) (fr1741 ok88 hm) ?_
            refine w_iconst d299_114 (by decide) ?_
            refine w_ialoadV (x := (nu 1)) d299_115 (gi1741 ok88 hm (by omega)) (AG 1 (by decide)) ?_
            refine wa1724 d299_116 ok88 hm (by omega) (by omega) (fun h116 e116 m116 => ?_)
            have e116 : h116 = sAI h88 (sT S 1724 m) rs.length (nu 1) := e116
            have f116 : Fr S m [1724] _ _ := Fr.wB ok88 hm m116 (fun ζ e => ⟨1724, by decide, by decide, e ▸ U_refl⟩)
            have ok116 := f116.ok
            have FR116 := Fr.tr (F := [1720, 1721, 1722, 1723, 1724, 1725, 1732, 1733]) FR88 f116 (by decide) (by decide)
            have NK := (f116.i 1739).trans NK
            have AG := ArI.s2 f116 hm AG
            have TE := TE.r f116 hm
            have C20 := (f116.i 1720).trans C20
            have V25 := ArI.s2 f116 hm V25
            have V21 := ArI.s2 f116 hm V21
            have V22 := ArI.s2 f116 hm V22
            have V23 := ArI.s2 f116 hm V23
            have V24 : ArI S h116 m 1724 (upO (AI h (sT S 1724 m)) rs.length (nu (0 + 1))) 20 := ArI.w V24 e116
            refine w_aload_n d299_117 rfl ?_
            refine w_dloadS d299_118 (ok116.kd hm) (fr1725 ok116 hm) ?_
            refine w_aload_n d299_121 rfl ?_
            refine w_getI (x := ((rs.length : Nat) : Int)) d299_122 (ok116.kd hm) C20 ?_
            refine w_iload_n d299_125 rfl ?_
            refine w_ifeq d299_126 (fun c126 => ?_) (fun c126 => ?_)
            · refine w_aload_n d299_138 rfl ?_
              refine w_dloadS d299_139 (ok116.kd hm) (fr1741 ok116 hm) ?_
              refine w_iconst d299_142 (by decide) ?_
              refine w_ialoadV (x := (nu 2)) d299_143 (gi1741 ok116 hm (by omega)) (AG 2 (by decide)) ?_
              refine wa1725 d299_144 ok116 hm (by omega) (by omega) (fun h144 e144 m144 => ?_)
              have e144 : h144 = sAI h116 (sT S 1725 m) rs.length (nu 2) := e144
              have f144 : Fr S m [1725] _ _ := Fr.wB ok116 hm m144 (fun ζ e => ⟨1725, by decide, by decide, e ▸ U_refl⟩)
              have ok144 := f144.ok
              have FR144 := Fr.tr (F := [1720, 1721, 1722, 1723, 1724, 1725, 1732, 1733]) FR116 f144 (by decide) (by decide)
              have NK := (f144.i 1739).trans NK
              have AG := ArI.s2 f144 hm AG
              have TE := TE.r f144 hm
              have C20 := (f144.i 1720).trans C20
              have V21 := ArI.s2 f144 hm V21
              have V22 := ArI.s2 f144 hm V22
              have V23 := ArI.s2 f144 hm V23
              have V24 := ArI.s2 f144 hm V24
              have V25 : ArI S h144 m 1725 (upO (AI h (sT S 1725 m)) rs.length (nu (0 + 2))) 20 := ArI.w V25 e144
              refine w_aload_n d299_145 rfl ?_
              obtain ⟨g146, v146, s146⟩ := tg.al ok144 20 (by decide)
              refine w_getstaticS d299_146 v146 ?_
              refine w_callv2 d299_149 (by omega) rfl (ok144.kd hm) (by simp) (Nat.le_of_ble_eq_true rfl) ?_
              refine k_M_say ok144 (by omega) hm TE s146 (fun h149 m149 q149 TE => ?_)
              have f149 : Fr S m [1732, 1733] _ _ := Fr.mk ok144 m149 (fun ζ q => q.elim ((fun ζ e => Or.inl e) ζ) ((fun ζ e => Or.inr ⟨1732, by decide, e ▸ U_refl⟩) ζ)) q149 (by decide)
              have ok149 := f149.ok
              have FR149 := Fr.tr (F := [1720, 1721, 1722, 1723, 1724, 1725, 1732, 1733]) FR144 f149 (by decide) (by decide)
              have NK := (f149.i 1739).trans NK
              have AG := ArI.s2 f149 hm AG
              have C20 := (f149.i 1720).trans C20
              have V21 := ArI.s2 f149 hm V21
              have V22 := ArI.s2 f149 hm V22
              have V23 := ArI.s2 f149 hm V23
              have V24 := ArI.s2 f149 hm V24
              have V25 := ArI.s2 f149 hm V25
              refine w_aload_n d299_152 rfl ?_
              refine w_aload_n d299_153 rfl ?_
              refine w_getI (x := ((rs.length : Nat) : Int)) d299_154 (ok149.kd hm) C20 ?_
              refine w_callv2 d299_157 (by omega) rfl (ok149.kd hm) (by simp) (Nat.le_of_ble_eq_true rfl) ?_
              refine k_M_number (n := 9) ok149 (by omega) hm (by omega) TE (by omega) (by decide) (fun h157 m157 q157 TE => ?_)
              have f157 : Fr S m [1732, 1733] _ _ := Fr.mk ok149 m157 (fun ζ q => q.elim ((fun ζ e => Or.inl e) ζ) ((fun ζ e => Or.inr ⟨1732, by decide, e ▸ U_refl⟩) ζ)) q157 (by decide)
              have ok157 := f157.ok
              have FR157 := Fr.tr (F := [1720, 1721, 1722, 1723, 1724, 1725, 1732, 1733]) FR149 f157 (by decide) (by decide)
              have NK := (f157.i 1739).trans NK
              have AG := ArI.s2 f157 hm AG
              have C20 := (f157.i 1720).trans C20
              have V21 := ArI.s2 f157 hm V21
              have V22 := ArI.s2 f157 hm V22
              have V23 := ArI.s2 f157 hm V23
              have V24 := ArI.s2 f157 hm V24
              have V25 := ArI.s2 f157 hm V25
              rw [← addBs_app] at TE
              refine w_aload_n d299_160 rfl ?_
              refine w_dupR d299_161 ?_
              refine w_getI (x := ((rs.length : Nat) : Int)) d299_162 (ok157.kd hm) C20 ?_
              refine w_iconst d299_165 (by decide) ?_
              refine w_iadd d299_166 (by constructor <;> omega) ?_
              refine wf1720 d299_167 ok157 hm (by omega) (fun h167 e167 m167 => ?_)
              have f167 : Fr S m [1720] _ _ := Fr.wF ok157 m167 (FK.pI e167)
              have ok167 := f167.ok
              have FR167 := Fr.tr (F := [1720, 1721, 1722, 1723, 1724, 1725, 1732, 1733]) FR157 f167 (by decide) (by decide)
              have NK := (f167.i 1739).trans NK
              have AG := ArI.s2 f167 hm AG
              have TE := TE.r f167 hm
              have V21 := ArI.s2 f167 hm V21
              have V22 := ArI.s2 f167 hm V22
              have V23 := ArI.s2 f167 hm V23
              have V24 := ArI.s2 f167 hm V24
              have V25 := ArI.s2 f167 hm V25
              have C20 : FI h167 1720 m = ((rs.length + 1 : Nat) : Int) := by rw [e167, FI_sFI, if_pos ⟨rfl, rfl⟩]; rfl
              refine w_return d299_170 ?_
              exact kk _ FR167 TE (rus_add (f := 0) RS_0 hlt hnu C20 V21 V22 V23 V24 V25)
            · exact absurd rfl c126
          · exact absurd rfl c98
        · exact absurd rfl c70
      · exact absurd rfl c47
    · exact absurd rfl c24
  · omega
theorem d299_9 : dc 299 9 = some (.iconst 1, 10) := by decide +kernel
theorem d299_10 : dc 299 10 = some (.goto ((14 : Nat) : Int), 13) := by decide +kernel
theorem d299_27 : dc 299 27 = some (.aload_n 0, 28) := by decide +kernel
theorem d299_28 : dc 299 28 = some (.dload 1741, 31) := by decide +kernel
theorem d299_31 : dc 299 31 = some (.iconst 0, 32) := by decide +kernel
theorem d299_32 : dc 299 32 = some (.iaload, 33) := by decide +kernel
theorem d299_33 : dc 299 33 = some (.goto ((37 : Nat) : Int), 36) := by decide +kernel
theorem d299_50 : dc 299 50 = some (.aload_n 0, 51) := by decide +kernel
theorem d299_51 : dc 299 51 = some (.dload 1741, 54) := by decide +kernel
theorem d299_54 : dc 299 54 = some (.iconst 1, 55) := by decide +kernel
theorem d299_55 : dc 299 55 = some (.iaload, 56) := by decide +kernel
theorem d299_56 : dc 299 56 = some (.goto ((60 : Nat) : Int), 59) := by decide +kernel
theorem d299_73 : dc 299 73 = some (.aload_n 0, 74) := by decide +kernel
theorem d299_74 : dc 299 74 = some (.dload 1741, 77) := by decide +kernel
theorem d299_77 : dc 299 77 = some (.iconst 2, 78) := by decide +kernel
theorem d299_78 : dc 299 78 = some (.iaload, 79) := by decide +kernel
theorem d299_79 : dc 299 79 = some (.goto ((88 : Nat) : Int), 82) := by decide +kernel
theorem d299_101 : dc 299 101 = some (.aload_n 0, 102) := by decide +kernel
theorem d299_102 : dc 299 102 = some (.dload 1741, 105) := by decide +kernel
theorem d299_105 : dc 299 105 = some (.iconst 3, 106) := by decide +kernel
theorem d299_106 : dc 299 106 = some (.iaload, 107) := by decide +kernel
theorem d299_107 : dc 299 107 = some (.goto ((116 : Nat) : Int), 110) := by decide +kernel
theorem d299_129 : dc 299 129 = some (.aload_n 0, 130) := by decide +kernel
theorem d299_130 : dc 299 130 = some (.dload 1741, 133) := by decide +kernel
theorem d299_133 : dc 299 133 = some (.iconst 4, 134) := by decide +kernel
theorem d299_134 : dc 299 134 = some (.iaload, 135) := by decide +kernel
theorem d299_135 : dc 299 135 = some (.goto ((144 : Nat) : Int), 138) := by decide +kernel
theorem k_M_addRule2 {S : Shp} {G : Nat → Option Nat} {d : Nat} {h : Hp} {Q : Option MV → Hp → Prop} {m : Nat} {rs : List RuV} {nu : Nat → Int} {la : List Nat} (ok : Ok S h) (h1 : 12 ≤ d) (hm : sK S m = 14) (RS : RsR S h m rs) (NK : FI h 1739 m = 11) (AG : ArI S h m 1741 nu 5) (TE : TeR S h m la) (tg : Tg S G) (hnu : (0 < 2 → 0 ≤ nu 0 ∧ nu 0 ≤ 4 ∧ 1 ≤ nu 1 ∧ nu 1 ≤ 3) ∧ 0 ≤ nu 2 ∧ nu 2 ≤ 4 ∧ 1 ≤ nu (2 + 1) ∧ nu (2 + 1) ≤ 3 ∧ 1 ≤ nu (2 + 2) ∧ nu (2 + 2) ≤ 3) (hlt : rs.length < 20)
    (kk : ∀ h', Fr S m [1720, 1721, 1722, 1723, 1724, 1725, 1732, 1733] h h' → TeR S h' m (addBs 20000 la (txt 20 ++ dec rs.length)) → RsR S h' m (rs ++ [nuR nu 2]) → Q none h') : Cl G d 299 [vR (some m)] h Q := by
  show Wp G d 299 0 [some (vR (some m)), none] [] h Q
  have RS_0 := RS
  have NK_0 := NK
  have AG_0 := AG
  have TE_0 := TE
  have V21 : ArI S h m 1721 (AI h (sT S 1721 m)) 20 := fun _ _ => rfl
  have V22 : ArI S h m 1722 (AI h (sT S 1722 m)) 20 := fun _ _ => rfl
  have V23 : ArI S h m 1723 (AI h (sT S 1723 m)) 20 := fun _ _ => rfl
  have V24 : ArI S h m 1724 (AI h (sT S 1724 m)) 20 := fun _ _ => rfl
  have V25 : ArI S h m 1725 (AI h (sT S 1725 m)) 20 := fun _ _ => rfl
  have C20 := RS.1
  obtain ⟨u1, u2, u3, u4, u5, u6, u7⟩ := hnu
  obtain ⟨u8, u9, u10, u11⟩ := u1 (by decide)
  have hnu := (⟨u1, u2, u3, u4, u5, u6, u7⟩ : (0 < 2 → 0 ≤ nu 0 ∧ nu 0 ≤ 4 ∧ 1 ≤ nu 1 ∧ nu 1 ≤ 3) ∧ 0 ≤ nu 2 ∧ nu 2 ≤ 4 ∧ 1 ≤ nu (2 + 1) ∧ nu (2 + 1) ≤ 3 ∧ 1 ≤ nu (2 + 2) ∧ nu (2 + 2) ≤ 3)
  have y4 : 1 ≤ nu 3 := u4
  have y5 : nu 3 ≤ 3 := u5
  have y6 : 1 ≤ nu 4 := u6
  have y7 : nu 4 ≤ 3 := u7
  refine w_aload_n d299_0 rfl ?_
  refine w_getI (x := 11) d299_1 (ok.kd hm) NK ?_
  refine w_bipush d299_4 (by decide) ?_
  refine w_icmpne d299_6 (fun c6 => ?_) (fun c6 => ?_)
  · omega
  · refine w_iconst d299_9 (by decide) ?_
    refine w_goto d299_10 ?_
    refine w_istore1 d299_14 rfl ?_
    refine w_aload_n d299_15 rfl ?_
    refine w_dloadS d299_16 (ok.kd hm) (fr1721 ok hm) ?_
    refine w_aload_n d299_19 rfl ?_
    refine w_getI (x := ((rs.length : Nat) : Int)) d299_20 (ok.kd hm) C20 ?_
    refine w_iload_n d299_23 rfl ?_
    refine w_ifeq d299_24 (fun c24 => ?_) (fun c24 => ?_)
    · exact absurd c24 (by decide)
    · refine w_aload_n d299_27 rfl ?_
      refine w_dloadS d299_28 (ok.kd hm) (fr1741 ok hm) ?_
      refine w_iconst d299_31 (by decide) ?_
      refine w_ialoadV (x := (nu 0)) d299_32 (gi1741 ok hm (by omega)) (AG 0 (by decide)) ?_
      refine w_goto d299_33 ?_
      refine wa1721 d299_37 ok hm (by omega) (by omega) (fun h37 e37 m37 => ?_)
      have e37 : h37 = sAI h (sT S 1721 m) rs.length (nu 0) := e37
      have f37 : Fr S m [1721] _ _ := Fr.wB ok hm m37 (fun ζ e => ⟨1721, by decide, by decide, e ▸ U_refl⟩)
      have ok37 := f37.ok
      have FR37 := Fr.le (F := [1720, 1721, 1722, 1723, 1724, 1725, 1732, 1733]) f37 (by decide)
      have NK := (f37.i 1739).trans NK
      have AG := ArI.s2 f37 hm AG
      have TE := TE.r f37 hm
      have C20 := (f37.i 1720).trans C20
      have V22 := ArI.s2 f37 hm V22
      have V23 := ArI.s2 f37 hm V23
      have V24 := ArI.s2 f37 hm V24
      have V25 := ArI.s2 f37 hm V25
      have V21 : ArI S h37 m 1721 (upO (AI h (sT S 1721 m)) rs.length (if 0 < 2 then nu 0 else -1)) 20 := ArI.w V21 e37
      refine w_aload_n d299_38 rfl ?_
      refine w_dloadS d299_39 (ok37.kd hm) (fr1722 ok37 hm) ?_
      refine w_aload_n d299_42 rfl ?_
      refine w_getI (x := ((rs.length : Nat) : Int)) d299_43 (ok37.kd hm) C20 ?_
      refine w_iload_n d299_46 rfl ?_
      refine w_ifeq d299_47 (fun c47 => ?_) (fun c47 => ?_)
      · exact absurd c47 (by decide)
      · refine w_aload_n d299_50 rfl ?_
        refine w_dloadS d299_51 (ok37.kd hm) (fr1741 ok37 hm) ?_
        refine w_iconst d299_54 (by decide) ?_
        refine w_ialoadV (x := (nu 1)) d299_55 (gi1741 ok37 hm (by omega)) (AG 1 (by decide)) ?_
        refine w_goto d299_56 ?_
        refine wa1722 d299_60 ok37 hm (by omega) (by omega) (fun h60 e60 m60 => ?_)
        have e60 : h60 = sAI h37 (sT S 1722 m) rs.length (nu 1) := e60
        have f60 : Fr S m [1722] _ _ := Fr.wB ok37 hm m60 (fun ζ e => ⟨1722, by decide, by decide, e ▸ U_refl⟩)
        have ok60 := f60.ok
        have FR60 := Fr.tr (F := [1720, 1721, 1722, 1723, 1724, 1725, 1732, 1733]) FR37 f60 (by decide) (by decide)
        have NK := (f60.i 1739).trans NK
        have AG := ArI.s2 f60 hm AG
        have TE := TE.r f60 hm
        have C20 := (f60.i 1720).trans C20
        have V23 := ArI.s2 f60 hm V23
        have V24 := ArI.s2 f60 hm V24
        have V25 := ArI.s2 f60 hm V25
        have V21 := ArI.s2 f60 hm V21
        have V22 : ArI S h60 m 1722 (upO (AI h (sT S 1722 m)) rs.length (if 0 < 2 then nu 1 else 0)) 20 := ArI.w V22 e60
        refine w_aload_n d299_61 rfl ?_
        refine w_dloadS d299_62 (ok60.kd hm) (fr1723 ok60 hm) ?_
        refine w_aload_n d299_65 rfl ?_
        refine w_getI (x := ((rs.length : Nat) : Int)) d299_66 (ok60.kd hm) C20 ?_
        refine w_iload_n d299_69 rfl ?_
        refine w_ifeq d299_70 (fun c70 => ?_) (fun c70 => ?_)
        · exact absurd c70 (by decide)
        · refine w_aload_n d299_73 rfl ?_
          refine w_dloadS d299_74 (ok60.kd hm) (fr1741 ok60 hm) ?_
          refine w_iconst d299_77 (by decide) ?_
          refine w_ialoadV (x := (nu 2)) d299_78 (gi1741 ok60 hm (by omega)) (AG 2 (by decide)) ?_
          refine w_goto d299_79 ?_
          refine wa1723 d299_88 ok60 hm (by omega) (by omega) (fun h88 e88 m88 => ?_)
          have e88 : h88 = sAI h60 (sT S 1723 m) rs.length (nu 2) := e88
          have f88 : Fr S m [1723] _ _ := Fr.wB ok60 hm m88 (fun ζ e => ⟨1723, by decide, by decide, e ▸ U_refl⟩)
          have ok88 := f88.ok
          have FR88 := Fr.tr (F := [1720, 1721, 1722, 1723, 1724, 1725, 1732, 1733]) FR60 f88 (by decide) (by decide)
          have NK := (f88.i 1739).trans NK
          have AG := ArI.s2 f88 hm AG
          have TE := TE.r f88 hm
          have C20 := (f88.i 1720).trans C20
          have V24 := ArI.s2 f88 hm V24
          have V25 := ArI.s2 f88 hm V25
          have V21 := ArI.s2 f88 hm V21
          have V22 := ArI.s2 f88 hm V22
          have V23 : ArI S h88 m 1723 (upO (AI h (sT S 1723 m)) rs.length (nu 2)) 20 := ArI.w V23 e88
          refine w_aload_n d299_89 rfl ?_
          refine w_dloadS d299_90 (ok88.kd hm) (fr1724 ok88 hm) ?_
          refine w_aload_n d299_93 rfl ?_
          refine w_getI (x := ((rs.length : Nat) : Int)) d299_94 (ok88.kd hm) C20 ?_
          refine w_iload_n d299_97 rfl ?_
          refine w_ifeq d299_98 (fun c98 => ?_) (fun c98 => ?_)
          · exact absurd c98 (by decide)
          · refine w_aload_n d299_101 rfl ?_
            refine w_dloadS d299_102 (ok88.kd hm) (fr1741 ok88 hm) ?_
            refine w_iconst d299_105 (by decide) ?_
            refine w_ialoadV (x := (nu 3)) d299_106 (gi1741 ok88 hm (by omega)) (AG 3 (by decide)) ?_
            refine w_goto d299_107 ?_
            refine wa1724 d299_116 ok88 hm (by omega) (by omega) (fun h116 e116 m116 => ?_)
            have e116 : h116 = sAI h88 (sT S 1724 m) rs.length (nu 3) := e116
            have f116 : Fr S m [1724] _ _ := Fr.wB ok88 hm m116 (fun ζ e => ⟨1724, by decide, by decide, e ▸ U_refl⟩)
            have ok116 := f116.ok
            have FR116 := Fr.tr (F := [1720, 1721, 1722, 1723, 1724, 1725, 1732, 1733]) FR88 f116 (by decide) (by decide)
            have NK := (f116.i 1739).trans NK
            have AG := ArI.s2 f116 hm AG
            have TE := TE.r f116 hm
            have C20 := (f116.i 1720).trans C20
            have V25 := ArI.s2 f116 hm V25
            have V21 := ArI.s2 f116 hm V21
            have V22 := ArI.s2 f116 hm V22
            have V23 := ArI.s2 f116 hm V23
            have V24 : ArI S h116 m 1724 (upO (AI h (sT S 1724 m)) rs.length (nu (2 + 1))) 20 := ArI.w V24 e116
            refine w_aload_n d299_117 rfl ?_
            refine w_dloadS d299_118 (ok116.kd hm) (fr1725 ok116 hm) ?_
            refine w_aload_n d299_121 rfl ?_
            refine w_getI (x := ((rs.length : Nat) : Int)) d299_122 (ok116.kd hm) C20 ?_
            refine w_iload_n d299_125 rfl ?_
            refine w_ifeq d299_126 (fun c126 => ?_) (fun c126 => ?_)
            · exact absurd c126 (by decide)
            · refine w_aload_n d299_129 rfl ?_
              refine w_dloadS d299_130 (ok116.kd hm) (fr1741 ok116 hm) ?_
              refine w_iconst d299_133 (by decide) ?_
              refine w_ialoadV (x := (nu 4)) d299_134 (gi1741 ok116 hm (by omega)) (AG 4 (by decide)) ?_
              refine w_goto d299_135 ?_
              refine wa1725 d299_144 ok116 hm (by omega) (by omega) (fun h144 e144 m144 => ?_)
              have e144 : h144 = sAI h116 (sT S 1725 m) rs.length (nu 4) := e144
              have f144 : Fr S m [1725] _ _ := Fr.wB ok116 hm m144 (fun ζ e => ⟨1725, by decide, by decide, e ▸ U_refl⟩)
              have ok144 := f144.ok
              have FR144 := Fr.tr (F := [1720, 1721, 1722, 1723, 1724, 1725, 1732, 1733]) FR116 f144 (by decide) (by decide)
              have NK := (f144.i 1739).trans NK
              have AG := ArI.s2 f144 hm AG
              have TE := TE.r f144 hm
              have C20 := (f144.i 1720).trans C20
              have V21 := ArI.s2 f144 hm V21
              have V22 := ArI.s2 f144 hm V22
              have V23 := ArI.s2 f144 hm V23
              have V24 := ArI.s2 f144 hm V24
              have V25 : ArI S h144 m 1725 (upO (AI h (sT S 1725 m)) rs.length (nu (2 + 2))) 20 := ArI.w V25 e144
              refine w_aload_n d299_145 rfl ?_
              obtain ⟨g146, v146, s146⟩ := tg.al ok144 20 (by decide)
              refine w_getstaticS d299_146 v146 ?_
              refine w_callv2 d299_149 (by omega) rfl (ok144.kd hm) (by simp) (Nat.le_of_ble_eq_true rfl) ?_
              refine k_M_say ok144 (by omega) hm TE s146 (fun h149 m149 q149 TE => ?_)
              have f149 : Fr S m [1732, 1733] _ _ := Fr.mk ok144 m149 (fun ζ q => q.elim ((fun ζ e => Or.inl e) ζ) ((fun ζ e => Or.inr ⟨1732, by decide, e ▸ U_refl⟩) ζ)) q149 (by decide)
              have ok149 := f149.ok
              have FR149 := Fr.tr (F := [1720, 1721, 1722, 1723, 1724, 1725, 1732, 1733]) FR144 f149 (by decide) (by decide)
              have NK := (f149.i 1739).trans NK
              have AG := ArI.s2 f149 hm AG
              have C20 := (f149.i 1720).trans C20
              have V21 := ArI.s2 f149 hm V21
              have V22 := ArI.s2 f149 hm V22
              have V23 := ArI.s2 f149 hm V23
              have V24 := ArI.s2 f149 hm V24
              have V25 := ArI.s2 f149 hm V25
              refine w_aload_n d299_152 rfl ?_
              refine w_aload_n d299_153 rfl ?_
              refine w_getI (x := ((rs.length : Nat) : Int)) d299_154 (ok149.kd hm) C20 ?_
              refine w_callv2 d299_157 (by omega) rfl (ok149.kd hm) (by simp) (Nat.le_of_ble_eq_true rfl) ?_
              refine k_M_number (n := 9) ok149 (by omega) hm (by omega) TE (by omega) (by decide) (fun h157 m157 q157 TE => ?_)
              have f157 : Fr S m [1732, 1733] _ _ := Fr.mk ok149 m157 (fun ζ q => q.elim ((fun ζ e => Or.inl e) ζ) ((fun ζ e => Or.inr ⟨1732, by decide, e ▸ U_refl⟩) ζ)) q157 (by decide)
              have ok157 := f157.ok
              have FR157 := Fr.tr (F := [1720, 1721, 1722, 1723, 1724, 1725, 1732, 1733]) FR149 f157 (by decide) (by decide)
              have NK := (f157.i 1739).trans NK
              have AG := ArI.s2 f157 hm AG
              have C20 := (f157.i 1720).trans C20
              have V21 := ArI.s2 f157 hm V21
              have V22 := ArI.s2 f157 hm V22
              have V23 := ArI.s2 f157 hm V23
              have V24 := ArI.s2 f157 hm V24
              have V25 := ArI.s2 f157 hm V25
              rw [← addBs_app] at TE
              refine w_aload_n d299_160 rfl ?_
              refine w_dupR d299_161 ?_
              refine w_getI (x := ((rs.length : Nat) : Int)) d299_162 (ok157.kd hm) C20 ?_
              refine w_iconst d299_165 (by decide) ?_
              refine w_iadd d299_166 (by constructor <;> omega) ?_
              refine wf1720 d299_167 ok157 hm (by omega) (fun h167 e167 m167 => ?_)
              have f167 : Fr S m [1720] _ _ := Fr.wF ok157 m167 (FK.pI e167)
              have ok167 := f167.ok
              have FR167 := Fr.tr (F := [1720, 1721, 1722, 1723, 1724, 1725, 1732, 1733]) FR157 f167 (by decide) (by decide)
              have NK := (f167.i 1739).trans NK
              have AG := ArI.s2 f167 hm AG
              have TE := TE.r f167 hm
              have V21 := ArI.s2 f167 hm V21
              have V22 := ArI.s2 f167 hm V22
              have V23 := ArI.s2 f167 hm V23
              have V24 := ArI.s2 f167 hm V24
              have V25 := ArI.s2 f167 hm V25
              have C20 : FI h167 1720 m = ((rs.length + 1 : Nat) : Int) := by rw [e167, FI_sFI, if_pos ⟨rfl, rfl⟩]; rfl
              refine w_return d299_170 ?_
              exact kk _ FR167 TE (rus_add (f := 2) RS_0 hlt hnu C20 V21 V22 V23 V24 V25)
theorem d324_0 : dc 324 0 = some (.aload_n 0, 1) := by decide +kernel
theorem d324_1 : dc 324 1 = some (.dload 1726, 4) := by decide +kernel
theorem d324_4 : dc 324 4 = some (.aload_n 0, 5) := by decide +kernel
theorem d324_5 : dc 324 5 = some (.dload 1723, 8) := by decide +kernel
theorem d324_8 : dc 324 8 = some (.iload_n 1, 9) := by decide +kernel
theorem d324_9 : dc 324 9 = some (.iaload, 10) := by decide +kernel
theorem d324_10 : dc 324 10 = some (.iaload, 11) := by decide +kernel
theorem d324_11 : dc 324 11 = some (.istore_n 2, 12) := by decide +kernel
theorem d324_12 : dc 324 12 = some (.iload_n 2, 13) := by decide +kernel
theorem d324_13 : dc 324 13 = some (.aload_n 0, 14) := by decide +kernel
theorem d324_14 : dc 324 14 = some (.dload 1724, 17) := by decide +kernel
theorem d324_17 : dc 324 17 = some (.iload_n 1, 18) := by decide +kernel
theorem d324_18 : dc 324 18 = some (.iaload, 19) := by decide +kernel
theorem d324_19 : dc 324 19 = some (.if_icmp .lt ((36 : Nat) : Int), 22) := by decide +kernel
theorem d324_22 : dc 324 22 = some (.iload_n 2, 23) := by decide +kernel
theorem d324_23 : dc 324 23 = some (.aload_n 0, 24) := by decide +kernel
theorem d324_24 : dc 324 24 = some (.dload 1725, 27) := by decide +kernel
theorem d324_27 : dc 324 27 = some (.iload_n 1, 28) := by decide +kernel
theorem d324_28 : dc 324 28 = some (.iaload, 29) := by decide +kernel
theorem d324_29 : dc 324 29 = some (.if_icmp .gt ((36 : Nat) : Int), 32) := by decide +kernel
theorem d324_32 : dc 324 32 = some (.iconst 1, 33) := by decide +kernel
theorem d324_33 : dc 324 33 = some (.goto ((37 : Nat) : Int), 36) := by decide +kernel
theorem d324_36 : dc 324 36 = some (.iconst 0, 37) := by decide +kernel
theorem d324_37 : dc 324 37 = some (.freturn, 38) := by decide +kernel
theorem k_M_isIn {S : Shp} {G : Nat → Option Nat} {d : Nat} {h : Hp} {Q : Option MV → Hp → Prop} {m : Nat} {k : Nat} {rs : List RuV} {vl : Nat → Int} (ok : Ok S h) (h1 : 0 ≤ d) (hm : sK S m = 14) (RS : RsR S h m rs) (CH : ChR S h m vl) (hk : k < rs.length) (hd : 0 ≤ vl (rPa rs k))
    (kk : Q (some (vI (b2i (decide (((rLo rs k : Nat) : Int) ≤ vl (rPa rs k) ∧ vl (rPa rs k) ≤ ((rHi rs k : Nat) : Int)))))) h) : Cl G d 324 [vR (some m), vI (k : Nat)] h Q := by
  show Wp G d 324 0 [some (vR (some m)), some (vI (k : Nat)), none] [] h Q
  have RS_0 := RS
  have CH_0 := CH
  have r20 := RS.2.1
  have p4 := (RS.2.2 k hk).2.2.2.2.2.2.2.1
  have cv := ((CH (rPa rs k) (by omega)).resolve_left (fun z => by omega)).2.2.2
  refine w_aload_n d324_0 rfl ?_
  refine w_dloadS d324_1 (ok.kd hm) (fr1726 ok hm) ?_
  refine w_aload_n d324_4 rfl ?_
  refine w_dloadS d324_5 (ok.kd hm) (fr1723 ok hm) ?_
  refine w_iload_n d324_8 rfl ?_
  refine w_ialoadV (x := ((rPa rs k : Nat) : Int)) d324_9 (gi1723 ok hm (by omega)) (RS.2.2 k hk).2.2.1 ?_
  refine w_ialoadV (x := (vl (rPa rs k))) d324_10 (gi1726 ok hm (by omega)) cv ?_
  refine w_istore2 d324_11 rfl ?_
  refine w_iload_n d324_12 rfl ?_
  refine w_aload_n d324_13 rfl ?_
  refine w_dloadS d324_14 (ok.kd hm) (fr1724 ok hm) ?_
  refine w_iload_n d324_17 rfl ?_
  refine w_ialoadV (x := ((rLo rs k : Nat) : Int)) d324_18 (gi1724 ok hm (by omega)) (RS.2.2 k hk).2.2.2.1 ?_
  refine w_icmplt d324_19 (fun c19 => ?_) (fun c19 => ?_)
  · rw [decide_eq_false (fun z => by omega)] at kk
    refine w_iconst d324_36 (by decide) ?_
    refine w_zreturn d324_37 (by decide) ?_
    exact kk
  · refine w_iload_n d324_22 rfl ?_
    refine w_aload_n d324_23 rfl ?_
    refine w_dloadS d324_24 (ok.kd hm) (fr1725 ok hm) ?_
    refine w_iload_n d324_27 rfl ?_
    refine w_ialoadV (x := ((rHi rs k : Nat) : Int)) d324_28 (gi1725 ok hm (by omega)) (RS.2.2 k hk).2.2.2.2.1 ?_
    refine w_icmpgt d324_29 (fun c29 => ?_) (fun c29 => ?_)
    · rw [decide_eq_false (fun z => by omega)] at kk
      refine w_iconst d324_36 (by decide) ?_
      refine w_zreturn d324_37 (by decide) ?_
      exact kk
    · rw [decide_eq_true (by omega)] at kk
      refine w_iconst d324_32 (by decide) ?_
      refine w_goto d324_33 ?_
      refine w_zreturn d324_37 (by decide) ?_
      exact kk
theorem d323_0 : dc 323 0 = some (.aload_n 0, 1) := by decide +kernel
theorem d323_1 : dc 323 1 = some (.dload 1727, 4) := by decide +kernel
theorem d323_4 : dc 323 4 = some (.aload_n 0, 5) := by decide +kernel
theorem d323_5 : dc 323 5 = some (.dload 1723, 8) := by decide +kernel
theorem d323_8 : dc 323 8 = some (.iload_n 1, 9) := by decide +kernel
theorem d323_9 : dc 323 9 = some (.iaload, 10) := by decide +kernel
theorem d323_10 : dc 323 10 = some (.baload, 11) := by decide +kernel
theorem d323_11 : dc 323 11 = some (.ifCond .eq ((22 : Nat) : Int), 14) := by decide +kernel
theorem d323_14 : dc 323 14 = some (.aload_n 0, 15) := by decide +kernel
theorem d323_15 : dc 323 15 = some (.iload_n 1, 16) := by decide +kernel
theorem d323_16 : dc 323 16 = some (.invokevirtual 324, 19) := by decide +kernel
theorem d323_19 : dc 323 19 = some (.ifCond .eq ((24 : Nat) : Int), 22) := by decide +kernel
theorem d323_22 : dc 323 22 = some (.iconst 0, 23) := by decide +kernel
theorem d323_23 : dc 323 23 = some (.freturn, 24) := by decide +kernel
theorem d323_24 : dc 323 24 = some (.aload_n 0, 25) := by decide +kernel
theorem d323_25 : dc 323 25 = some (.dload 1721, 28) := by decide +kernel
theorem d323_28 : dc 323 28 = some (.iload_n 1, 29) := by decide +kernel
theorem d323_29 : dc 323 29 = some (.iaload, 30) := by decide +kernel
theorem d323_30 : dc 323 30 = some (.istore_n 2, 31) := by decide +kernel
theorem d323_31 : dc 323 31 = some (.iload_n 2, 32) := by decide +kernel
theorem d323_32 : dc 323 32 = some (.ifCond .lt ((59 : Nat) : Int), 35) := by decide +kernel
theorem d323_35 : dc 323 35 = some (.aload_n 0, 36) := by decide +kernel
theorem d323_36 : dc 323 36 = some (.dload 1727, 39) := by decide +kernel
theorem d323_39 : dc 323 39 = some (.iload_n 2, 40) := by decide +kernel
theorem d323_40 : dc 323 40 = some (.baload, 41) := by decide +kernel
theorem d323_41 : dc 323 41 = some (.ifCond .eq ((63 : Nat) : Int), 44) := by decide +kernel
theorem d323_44 : dc 323 44 = some (.aload_n 0, 45) := by decide +kernel
theorem d323_45 : dc 323 45 = some (.dload 1726, 48) := by decide +kernel
theorem d323_48 : dc 323 48 = some (.iload_n 2, 49) := by decide +kernel
theorem d323_49 : dc 323 49 = some (.iaload, 50) := by decide +kernel
theorem d323_50 : dc 323 50 = some (.aload_n 0, 51) := by decide +kernel
theorem d323_51 : dc 323 51 = some (.dload 1722, 54) := by decide +kernel
theorem d323_54 : dc 323 54 = some (.iload_n 1, 55) := by decide +kernel
theorem d323_55 : dc 323 55 = some (.iaload, 56) := by decide +kernel
theorem d323_56 : dc 323 56 = some (.if_icmp .ne ((63 : Nat) : Int), 59) := by decide +kernel
theorem d323_59 : dc 323 59 = some (.iconst 1, 60) := by decide +kernel
theorem d323_60 : dc 323 60 = some (.goto ((64 : Nat) : Int), 63) := by decide +kernel
theorem d323_63 : dc 323 63 = some (.iconst 0, 64) := by decide +kernel
theorem d323_64 : dc 323 64 = some (.freturn, 65) := by decide +kernel
theorem k_M_isBroken {S : Shp} {G : Nat → Option Nat} {d : Nat} {h : Hp} {Q : Option MV → Hp → Prop} {m : Nat} {k : Nat} {rs : List RuV} {vl : Nat → Int} (ok : Ok S h) (h1 : 1 ≤ d) (hm : sK S m = 14) (RS : RsR S h m rs) (CH : ChR S h m vl) (hk : k < rs.length)
    (kk : Q (some (vI (b2i (brk rs vl k)))) h) : Cl G d 323 [vR (some m), vI (k : Nat)] h Q := by
  show Wp G d 323 0 [some (vR (some m)), some (vI (k : Nat)), none] [] h Q
  have RS_0 := RS
  have CH_0 := CH
  have r20 := RS.2.1
  have p4 := (RS.2.2 k hk).2.2.2.2.2.2.2.1
  have cp := CH (rPa rs k) (by omega)
  have ro := (RS.2.2 k hk).2.2.2.2.2.1
  refine w_aload_n d323_0 rfl ?_
  refine w_dloadS d323_1 (ok.kd hm) (fr1727 ok hm) ?_
  refine w_aload_n d323_4 rfl ?_
  refine w_dloadS d323_5 (ok.kd hm) (fr1723 ok hm) ?_
  refine w_iload_n d323_8 rfl ?_
  refine w_ialoadV (x := ((rPa rs k : Nat) : Int)) d323_9 (gi1723 ok hm (by omega)) (RS.2.2 k hk).2.2.1 ?_
  refine w_baloadV (x := (AI h (sT S 1727 m) (rPa rs k))) d323_10 (gi1727 ok hm (by omega)) rfl ?_
  refine w_ifeq d323_11 (fun c11 => ?_) (fun c11 => ?_)
  · have un : vl (rPa rs k) = -1 := by omega
    have bf : brk rs vl k = false := decide_eq_false (fun z => by exact z.2.2.1 un)
    rw [bf] at kk
    refine w_iconst d323_22 (by decide) ?_
    refine w_zreturn d323_23 (by decide) ?_
    exact kk
  · have de : 0 ≤ vl (rPa rs k) := by omega
    refine w_aload_n d323_14 rfl ?_
    refine w_iload_n d323_15 rfl ?_
    refine w_callv2 d323_16 (by omega) rfl (ok.kd hm) (by simp) (Nat.le_of_ble_eq_true rfl) ?_
    refine k_M_isIn ok (by omega) hm RS CH hk de ?_
    refine w_ifeq d323_19 (fun c19 => ?_) (fun c19 => ?_)
    · have ou : vl (rPa rs k) < ((rLo rs k : Nat) : Int) ∨ ((rHi rs k : Nat) : Int) < vl (rPa rs k) := by
        by_cases z : ((rLo rs k : Nat) : Int) ≤ vl (rPa rs k) ∧ vl (rPa rs k) ≤ ((rHi rs k : Nat) : Int)
        · rw [decide_eq_true z] at c19; exact absurd c19 (by decide)
        · omega
      have nu1 : vl (rPa rs k) ≠ -1 := by omega
      refine w_aload_n d323_24 rfl ?_
      refine w_dloadS d323_25 (ok.kd hm) (fr1721 ok hm) ?_
      refine w_iload_n d323_28 rfl ?_
      refine w_ialoadV (x := (rOf rs k)) d323_29 (gi1721 ok hm (by omega)) (RS.2.2 k hk).1 ?_
      refine w_istore2 d323_30 rfl ?_
      refine w_iload_n d323_31 rfl ?_
      refine w_iflt d323_32 (fun c32 => ?_) (fun c32 => ?_)
      · have bt : brk rs vl k = true := decide_eq_true ⟨hk, Or.inl (by omega), nu1, ou⟩
        rw [bt] at kk
        refine w_iconst d323_59 (by decide) ?_
        refine w_goto d323_60 ?_
        refine w_zreturn d323_64 (by decide) ?_
        exact kk
      · obtain ⟨q, hq⟩ : ∃ q : Nat, rOf rs k = (q : Int) := ⟨(rOf rs k).toNat, by omega⟩
        have cq := CH q (by omega)
        rw [hq]
        refine w_aload_n d323_35 rfl ?_
        refine w_dloadS d323_36 (ok.kd hm) (fr1727 ok hm) ?_
        refine w_iload_n d323_39 rfl ?_
        refine w_baloadV (x := (AI h (sT S 1727 m) q)) d323_40 (gi1727 ok hm (by omega)) rfl ?_
        refine w_ifeq d323_41 (fun c41 => ?_) (fun c41 => ?_)
        · have bf : brk rs vl k = false := decide_eq_false (fun z => by obtain ⟨-, z1, -, -⟩ := z; rw [hq] at z1; rw [show ((q : Nat) : Int).toNat = q by omega] at z1; omega)
          rw [bf] at kk
          refine w_iconst d323_63 (by decide) ?_
          refine w_zreturn d323_64 (by decide) ?_
          exact kk
        · have cv : AI h (sT S 1726 m) q = vl q := by omega
          refine w_aload_n d323_44 rfl ?_
          refine w_dloadS d323_45 (ok.kd hm) (fr1726 ok hm) ?_
          refine w_iload_n d323_48 rfl ?_
          refine w_ialoadV (x := (vl q)) d323_49 (gi1726 ok hm (by omega)) cv ?_
          refine w_aload_n d323_50 rfl ?_
          refine w_dloadS d323_51 (ok.kd hm) (fr1722 ok hm) ?_
          refine w_iload_n d323_54 rfl ?_
          refine w_ialoadV (x := ((rWh rs k : Nat) : Int)) d323_55 (gi1722 ok hm (by omega)) (RS.2.2 k hk).2.1 ?_
          refine w_icmpne d323_56 (fun c56 => ?_) (fun c56 => ?_)
          · have bf : brk rs vl k = false := decide_eq_false (fun z => by obtain ⟨-, z1, -, -⟩ := z; rw [hq] at z1; rw [show ((q : Nat) : Int).toNat = q by omega] at z1; omega)
            rw [bf] at kk
            refine w_iconst d323_63 (by decide) ?_
            refine w_zreturn d323_64 (by decide) ?_
            exact kk
          · have bt : brk rs vl k = true := decide_eq_true ⟨hk, Or.inr (by rw [hq, show ((q : Nat) : Int).toNat = q by omega]; omega), nu1, ou⟩
            rw [bt] at kk
            refine w_iconst d323_59 (by decide) ?_
            refine w_goto d323_60 ?_
            refine w_zreturn d323_64 (by decide) ?_
            exact kk
    · have inn : ((rLo rs k : Nat) : Int) ≤ vl (rPa rs k) ∧ vl (rPa rs k) ≤ ((rHi rs k : Nat) : Int) := by
        by_cases z : ((rLo rs k : Nat) : Int) ≤ vl (rPa rs k) ∧ vl (rPa rs k) ≤ ((rHi rs k : Nat) : Int)
        · exact z
        · rw [decide_eq_false z] at c19; exact absurd rfl c19
      have bf : brk rs vl k = false := decide_eq_false (fun z => by omega)
      rw [bf] at kk
      refine w_iconst d323_22 (by decide) ?_
      refine w_zreturn d323_23 (by decide) ?_
      exact kk
theorem d322_0 : dc 322 0 = some (.iconst 0, 1) := by decide +kernel
theorem d322_1 : dc 322 1 = some (.istore_n 1, 2) := by decide +kernel
theorem d322_2 : dc 322 2 = some (.iload_n 1, 3) := by decide +kernel
theorem d322_3 : dc 322 3 = some (.aload_n 0, 4) := by decide +kernel
theorem d322_4 : dc 322 4 = some (.getfield 1720, 7) := by decide +kernel
theorem d322_7 : dc 322 7 = some (.if_icmp .ge ((26 : Nat) : Int), 10) := by decide +kernel
theorem d322_10 : dc 322 10 = some (.aload_n 0, 11) := by decide +kernel
theorem d322_11 : dc 322 11 = some (.iload_n 1, 12) := by decide +kernel
theorem d322_12 : dc 322 12 = some (.invokevirtual 323, 15) := by decide +kernel
theorem d322_15 : dc 322 15 = some (.ifCond .eq ((20 : Nat) : Int), 18) := by decide +kernel
theorem d322_18 : dc 322 18 = some (.iload_n 1, 19) := by decide +kernel
theorem d322_19 : dc 322 19 = some (.ireturn, 20) := by decide +kernel
theorem d322_20 : dc 322 20 = some (.iinc 1 1, 23) := by decide +kernel
theorem d322_23 : dc 322 23 = some (.goto ((2 : Nat) : Int), 26) := by decide +kernel
theorem d322_26 : dc 322 26 = some (.iconst (-1), 27) := by decide +kernel
theorem d322_27 : dc 322 27 = some (.ireturn, 28) := by decide +kernel
theorem k_M_firstBroken {S : Shp} {G : Nat → Option Nat} {d : Nat} {h : Hp} {Q : Option MV → Hp → Prop} {m : Nat} {rs : List RuV} {vl : Nat → Int} (ok : Ok S h) (h1 : 2 ≤ d) (hm : sK S m = 14) (RS : RsR S h m rs) (CH : ChR S h m vl) 
    (kk : Q (some (vI (lwb rs vl))) h) : Cl G d 322 [vR (some m)] h Q := by
  show Wp G d 322 0 [some (vR (some m)), none] [] h Q
  have RS_0 := RS
  have CH_0 := CH
  have r20 := RS.2.1
  have hp : srF (brk rs vl) rs.length 0 = lwb rs vl := rfl
  refine w_iconst d322_0 (by decide) ?_
  refine w_istore1 d322_1 rfl ?_
  have L2 : ∀ (m2 : Nat) (i : Nat), rs.length - i = m2 → (i ≤ rs.length) → (srF (brk rs vl) rs.length i = lwb rs vl) → Wp G d 322 2 [some (vR (some m)), some (vI (i : Nat))] [] h Q := by
    intro m2
    induction m2 using Nat.strongRecOn with | ind m2 IH2 => ?_
    intro i hm2 il hp
    refine w_iload_n d322_2 rfl ?_
    refine w_aload_n d322_3 rfl ?_
    refine w_getI (x := ((rs.length : Nat) : Int)) d322_4 (ok.kd hm) RS.1 ?_
    refine w_icmpge d322_7 (fun c7 => ?_) (fun c7 => ?_)
    · rw [srF_end (by omega)] at hp
      rw [← hp] at kk
      refine w_iconst d322_26 (by decide) ?_
      refine w_ireturn d322_27 ?_
      exact kk
    · have hi : i < rs.length := by omega
      refine w_aload_n d322_10 rfl ?_
      refine w_iload_n d322_11 rfl ?_
      refine w_callv2 d322_12 (by omega) rfl (ok.kd hm) (by simp) (Nat.le_of_ble_eq_true rfl) ?_
      refine k_M_isBroken ok (by omega) hm RS CH hi ?_
      refine w_ifeq d322_15 (fun c15 => ?_) (fun c15 => ?_)
      · have bf : (brk rs vl i) = false := by
          cases hz : (brk rs vl i) with
          | true => rw [hz] at c15; exact absurd c15 (by decide)
          | false => rfl
        rw [srF_no hi bf] at hp
        refine w_iinc1 d322_20 rfl (by constructor <;> omega) ?_
        refine w_goto d322_23 ?_
        rw [show ((i : Nat) : Int) + 1 = ((i + 1 : Nat) : Int) by omega]
        refine w_less ?_ (IH2 _ (by omega) (i + 1) rfl (by omega) hp)
        exact ⟨Or.inr rfl, Or.inr rfl, trivial⟩
      · have bt : (brk rs vl i) = true := by
          cases hz : (brk rs vl i) with
          | true => rfl
          | false => rw [hz] at c15; exact absurd rfl c15
        rw [srF_yes hi bt] at hp
        rw [← hp] at kk
        refine w_iload_n d322_18 rfl ?_
        refine w_ireturn d322_19 ?_
        exact kk
  refine w_less ?_ (L2 _ 0 rfl (Nat.zero_le _) hp)
  exact ⟨Or.inr rfl, Or.inr rfl, trivial⟩
theorem d318_0 : dc 318 0 = some (.iconst 0, 1) := by decide +kernel
theorem d318_1 : dc 318 1 = some (.istore_n 1, 2) := by decide +kernel
theorem d318_2 : dc 318 2 = some (.iload_n 1, 3) := by decide +kernel
theorem d318_3 : dc 318 3 = some (.aload_n 0, 4) := by decide +kernel
theorem d318_4 : dc 318 4 = some (.getfield 1720, 7) := by decide +kernel
theorem d318_7 : dc 318 7 = some (.if_icmp .ge ((130 : Nat) : Int), 10) := by decide +kernel
theorem d318_10 : dc 318 10 = some (.aload_n 0, 11) := by decide +kernel
theorem d318_11 : dc 318 11 = some (.dload 1721, 14) := by decide +kernel
theorem d318_14 : dc 318 14 = some (.iload_n 1, 15) := by decide +kernel
theorem d318_15 : dc 318 15 = some (.iaload, 16) := by decide +kernel
theorem d318_16 : dc 318 16 = some (.ifCond .lt ((23 : Nat) : Int), 19) := by decide +kernel
theorem d318_19 : dc 318 19 = some (.iconst 1, 20) := by decide +kernel
theorem d318_20 : dc 318 20 = some (.goto ((24 : Nat) : Int), 23) := by decide +kernel
theorem d318_23 : dc 318 23 = some (.iconst 0, 24) := by decide +kernel
theorem d318_24 : dc 318 24 = some (.istore_n 2, 25) := by decide +kernel
theorem d318_25 : dc 318 25 = some (.aload_n 0, 26) := by decide +kernel
theorem d318_26 : dc 318 26 = some (.iload_n 2, 27) := by decide +kernel
theorem d318_27 : dc 318 27 = some (.ifCond .eq ((35 : Nat) : Int), 30) := by decide +kernel
theorem d318_30 : dc 318 30 = some (.bipush 110, 32) := by decide +kernel
theorem d318_32 : dc 318 32 = some (.goto ((37 : Nat) : Int), 35) := by decide +kernel
theorem d318_35 : dc 318 35 = some (.bipush 119, 37) := by decide +kernel
theorem d318_37 : dc 318 37 = some (.invokevirtual 218, 40) := by decide +kernel
theorem d318_40 : dc 318 40 = some (.iload_n 2, 41) := by decide +kernel
theorem d318_41 : dc 318 41 = some (.ifCond .eq ((76 : Nat) : Int), 44) := by decide +kernel
theorem d318_44 : dc 318 44 = some (.aload_n 0, 45) := by decide +kernel
theorem d318_45 : dc 318 45 = some (.aload_n 0, 46) := by decide +kernel
theorem d318_46 : dc 318 46 = some (.dload 1721, 49) := by decide +kernel
theorem d318_49 : dc 318 49 = some (.iload_n 1, 50) := by decide +kernel
theorem d318_50 : dc 318 50 = some (.iaload, 51) := by decide +kernel
theorem d318_51 : dc 318 51 = some (.invokevirtual 219, 54) := by decide +kernel
theorem d318_54 : dc 318 54 = some (.aload_n 0, 55) := by decide +kernel
theorem d318_55 : dc 318 55 = some (.bipush 32, 57) := by decide +kernel
theorem d318_57 : dc 318 57 = some (.invokevirtual 218, 60) := by decide +kernel
theorem d318_60 : dc 318 60 = some (.aload_n 0, 61) := by decide +kernel
theorem d318_61 : dc 318 61 = some (.aload_n 0, 62) := by decide +kernel
theorem d318_62 : dc 318 62 = some (.dload 1722, 65) := by decide +kernel
theorem d318_65 : dc 318 65 = some (.iload_n 1, 66) := by decide +kernel
theorem d318_66 : dc 318 66 = some (.iaload, 67) := by decide +kernel
theorem d318_67 : dc 318 67 = some (.invokevirtual 219, 70) := by decide +kernel
theorem d318_70 : dc 318 70 = some (.aload_n 0, 71) := by decide +kernel
theorem d318_71 : dc 318 71 = some (.bipush 32, 73) := by decide +kernel
theorem d318_73 : dc 318 73 = some (.invokevirtual 218, 76) := by decide +kernel
theorem d318_76 : dc 318 76 = some (.aload_n 0, 77) := by decide +kernel
theorem d318_77 : dc 318 77 = some (.aload_n 0, 78) := by decide +kernel
theorem d318_78 : dc 318 78 = some (.dload 1723, 81) := by decide +kernel
theorem d318_81 : dc 318 81 = some (.iload_n 1, 82) := by decide +kernel
theorem d318_82 : dc 318 82 = some (.iaload, 83) := by decide +kernel
theorem d318_83 : dc 318 83 = some (.invokevirtual 219, 86) := by decide +kernel
theorem d318_86 : dc 318 86 = some (.aload_n 0, 87) := by decide +kernel
theorem d318_87 : dc 318 87 = some (.bipush 32, 89) := by decide +kernel
theorem d318_89 : dc 318 89 = some (.invokevirtual 218, 92) := by decide +kernel
theorem d318_92 : dc 318 92 = some (.aload_n 0, 93) := by decide +kernel
theorem d318_93 : dc 318 93 = some (.aload_n 0, 94) := by decide +kernel
theorem d318_94 : dc 318 94 = some (.dload 1724, 97) := by decide +kernel
theorem d318_97 : dc 318 97 = some (.iload_n 1, 98) := by decide +kernel
theorem d318_98 : dc 318 98 = some (.iaload, 99) := by decide +kernel
theorem d318_99 : dc 318 99 = some (.invokevirtual 219, 102) := by decide +kernel
theorem d318_102 : dc 318 102 = some (.aload_n 0, 103) := by decide +kernel
theorem d318_103 : dc 318 103 = some (.bipush 32, 105) := by decide +kernel
theorem d318_105 : dc 318 105 = some (.invokevirtual 218, 108) := by decide +kernel
theorem d318_108 : dc 318 108 = some (.aload_n 0, 109) := by decide +kernel
theorem d318_109 : dc 318 109 = some (.aload_n 0, 110) := by decide +kernel
theorem d318_110 : dc 318 110 = some (.dload 1725, 113) := by decide +kernel
theorem d318_113 : dc 318 113 = some (.iload_n 1, 114) := by decide +kernel
theorem d318_114 : dc 318 114 = some (.iaload, 115) := by decide +kernel
theorem d318_115 : dc 318 115 = some (.invokevirtual 219, 118) := by decide +kernel
theorem d318_118 : dc 318 118 = some (.aload_n 0, 119) := by decide +kernel
theorem d318_119 : dc 318 119 = some (.bipush 59, 121) := by decide +kernel
theorem d318_121 : dc 318 121 = some (.invokevirtual 218, 124) := by decide +kernel
theorem d318_124 : dc 318 124 = some (.iinc 1 1, 127) := by decide +kernel
theorem d318_127 : dc 318 127 = some (.goto ((2 : Nat) : Int), 130) := by decide +kernel
theorem d318_130 : dc 318 130 = some (.return_, 131) := by decide +kernel
theorem k_M_tellRules {S : Shp} {G : Nat → Option Nat} {d : Nat} {h : Hp} {Q : Option MV → Hp → Prop} {m : Nat} {rs : List RuV} {la : List Nat} (ok : Ok S h) (h1 : 12 ≤ d) (hm : sK S m = 14) (RS : RsR S h m rs) (TE : TeR S h m la) 
    (kk : ∀ h', Fr S m [1732, 1733] h h' → TeR S h' m (addBs 20000 la (rusTxt rs rs.length)) → Q none h') : Cl G d 318 [vR (some m)] h Q := by
  show Wp G d 318 0 [some (vR (some m)), none, none] [] h Q
  have RS_0 := RS
  have TE_0 := TE
  have r20 := RS.2.1
  refine w_iconst d318_0 (by decide) ?_
  refine w_istore1 d318_1 rfl ?_
  have L2 : ∀ (m2 : Nat) (g_ : Hp) (i : Nat), rs.length - i = m2 → Fr S m [1732, 1733] h g_ → (i ≤ rs.length) → (TeR S g_ m (addBs 20000 la (rusTxt rs i))) → Wp G d 318 2 [some (vR (some m)), some (vI (i : Nat)), none] [] g_ Q := by
    intro m2
    induction m2 using Nat.strongRecOn with | ind m2 IH2 => ?_
    intro g_ i hm2 FRg_ il TE
    have okg_ := FRg_.ok
    have RS := RsR.s FRg_ hm RS_0
    refine w_iload_n d318_2 rfl ?_
    refine w_aload_n d318_3 rfl ?_
    refine w_getI (x := ((rs.length : Nat) : Int)) d318_4 (okg_.kd hm) RS.1 ?_
    refine w_icmpge d318_7 (fun c7 => ?_) (fun c7 => ?_)
    · have ei : i = rs.length := by omega
      rw [ei] at TE
      refine w_return d318_130 ?_
      exact kk g_ FRg_ TE
    · have hi : i < rs.length := by omega
      have b1 := (RS.2.2 i hi).2.2.2.2.2.1
      have b2 := (RS.2.2 i hi).2.2.2.2.2.2.1
      have b3 := (RS.2.2 i hi).2.2.2.2.2.2.2.1
      have b4 := (RS.2.2 i hi).2.2.2.2.2.2.2.2.1
      have b5 := (RS.2.2 i hi).2.2.2.2.2.2.2.2.2
      refine w_aload_n d318_10 rfl ?_
      refine w_dloadS d318_11 (okg_.kd hm) (fr1721 okg_ hm) ?_
      refine w_iload_n d318_14 rfl ?_
      refine w_ialoadV (x := (rOf rs i)) d318_15 (gi1721 okg_ hm (by omega)) (RS.2.2 i hi).1 ?_
      refine w_iflt d318_16 (fun c16 => ?_) (fun c16 => ?_)
      · have wn : rOf rs i < 0 := by omega
        refine w_iconst d318_23 (by decide) ?_
        refine w_istore2 d318_24 rfl ?_
        refine w_aload_n d318_25 rfl ?_
        refine w_iload_n d318_26 rfl ?_
        refine w_ifeq d318_27 (fun c27 => ?_) (fun c27 => ?_)
        · refine w_bipush d318_35 (by decide) ?_
          refine w_callv2 d318_37 (by omega) rfl (okg_.kd hm) (by simp) (Nat.le_of_ble_eq_true rfl) ?_
          refine k_M_put (c := 119) okg_ (by omega) hm TE (by omega) (fun h37 m37 q37 TE => ?_)
          have f37 : Fr S m [1732, 1733] _ _ := Fr.mk okg_ m37 (fun ζ q => q.elim ((fun ζ e => Or.inl e) ζ) ((fun ζ e => Or.inr ⟨1732, by decide, e ▸ U_refl⟩) ζ)) q37 (by decide)
          have ok37 := f37.ok
          have FR37 := Fr.tr (F := [1732, 1733]) FRg_ f37 (by decide) (by decide)
          have RS := RsR.s f37 hm RS
          refine w_iload_n d318_40 rfl ?_
          refine w_ifeq d318_41 (fun c41 => ?_) (fun c41 => ?_)
          · have TE : TeR S h37 m (addBs 20000 (addBs 20000 la (rusTxt rs i)) (if rOf rs i < 0 then [119] else 110 :: dec (rOf rs i).toNat ++ 32 :: dec (rWh rs i) ++ [32])) := by rw [if_pos wn]; exact TE
            refine w_aload_n d318_76 rfl ?_
            refine w_aload_n d318_77 rfl ?_
            refine w_dloadS d318_78 (ok37.kd hm) (fr1723 ok37 hm) ?_
            refine w_iload_n d318_81 rfl ?_
            refine w_ialoadV (x := ((rPa rs i : Nat) : Int)) d318_82 (gi1723 ok37 hm (by omega)) (RS.2.2 i hi).2.2.1 ?_
            refine w_callv2 d318_83 (by omega) rfl (ok37.kd hm) (by simp) (Nat.le_of_ble_eq_true rfl) ?_
            refine k_M_number (n := 9) ok37 (by omega) hm (by omega) TE (by omega) (by decide) (fun h83 m83 q83 TE => ?_)
            have f83 : Fr S m [1732, 1733] _ _ := Fr.mk ok37 m83 (fun ζ q => q.elim ((fun ζ e => Or.inl e) ζ) ((fun ζ e => Or.inr ⟨1732, by decide, e ▸ U_refl⟩) ζ)) q83 (by decide)
            have ok83 := f83.ok
            have FR83 := Fr.tr (F := [1732, 1733]) FR37 f83 (by decide) (by decide)
            have RS := RsR.s f83 hm RS
            refine w_aload_n d318_86 rfl ?_
            refine w_bipush d318_87 (by decide) ?_
            refine w_callv2 d318_89 (by omega) rfl (ok83.kd hm) (by simp) (Nat.le_of_ble_eq_true rfl) ?_
            refine k_M_put (c := 32) ok83 (by omega) hm TE (by omega) (fun h89 m89 q89 TE => ?_)
            have f89 : Fr S m [1732, 1733] _ _ := Fr.mk ok83 m89 (fun ζ q => q.elim ((fun ζ e => Or.inl e) ζ) ((fun ζ e => Or.inr ⟨1732, by decide, e ▸ U_refl⟩) ζ)) q89 (by decide)
            have ok89 := f89.ok
            have FR89 := Fr.tr (F := [1732, 1733]) FR83 f89 (by decide) (by decide)
            have RS := RsR.s f89 hm RS
            refine w_aload_n d318_92 rfl ?_
            refine w_aload_n d318_93 rfl ?_
            refine w_dloadS d318_94 (ok89.kd hm) (fr1724 ok89 hm) ?_
            refine w_iload_n d318_97 rfl ?_
            refine w_ialoadV (x := ((rLo rs i : Nat) : Int)) d318_98 (gi1724 ok89 hm (by omega)) (RS.2.2 i hi).2.2.2.1 ?_
            refine w_callv2 d318_99 (by omega) rfl (ok89.kd hm) (by simp) (Nat.le_of_ble_eq_true rfl) ?_
            refine k_M_number (n := 9) ok89 (by omega) hm (by omega) TE (by omega) (by decide) (fun h99 m99 q99 TE => ?_)
            have f99 : Fr S m [1732, 1733] _ _ := Fr.mk ok89 m99 (fun ζ q => q.elim ((fun ζ e => Or.inl e) ζ) ((fun ζ e => Or.inr ⟨1732, by decide, e ▸ U_refl⟩) ζ)) q99 (by decide)
            have ok99 := f99.ok
            have FR99 := Fr.tr (F := [1732, 1733]) FR89 f99 (by decide) (by decide)
            have RS := RsR.s f99 hm RS
            refine w_aload_n d318_102 rfl ?_
            refine w_bipush d318_103 (by decide) ?_
            refine w_callv2 d318_105 (by omega) rfl (ok99.kd hm) (by simp) (Nat.le_of_ble_eq_true rfl) ?_
            refine k_M_put (c := 32) ok99 (by omega) hm TE (by omega) (fun h105 m105 q105 TE => ?_)
            have f105 : Fr S m [1732, 1733] _ _ := Fr.mk ok99 m105 (fun ζ q => q.elim ((fun ζ e => Or.inl e) ζ) ((fun ζ e => Or.inr ⟨1732, by decide, e ▸ U_refl⟩) ζ)) q105 (by decide)
            have ok105 := f105.ok
            have FR105 := Fr.tr (F := [1732, 1733]) FR99 f105 (by decide) (by decide)
            have RS := RsR.s f105 hm RS
            refine w_aload_n d318_108 rfl ?_
            refine w_aload_n d318_109 rfl ?_
            refine w_dloadS d318_110 (ok105.kd hm) (fr1725 ok105 hm) ?_
            refine w_iload_n d318_113 rfl ?_
            refine w_ialoadV (x := ((rHi rs i : Nat) : Int)) d318_114 (gi1725 ok105 hm (by omega)) (RS.2.2 i hi).2.2.2.2.1 ?_
            refine w_callv2 d318_115 (by omega) rfl (ok105.kd hm) (by simp) (Nat.le_of_ble_eq_true rfl) ?_
            refine k_M_number (n := 9) ok105 (by omega) hm (by omega) TE (by omega) (by decide) (fun h115 m115 q115 TE => ?_)
            have f115 : Fr S m [1732, 1733] _ _ := Fr.mk ok105 m115 (fun ζ q => q.elim ((fun ζ e => Or.inl e) ζ) ((fun ζ e => Or.inr ⟨1732, by decide, e ▸ U_refl⟩) ζ)) q115 (by decide)
            have ok115 := f115.ok
            have FR115 := Fr.tr (F := [1732, 1733]) FR105 f115 (by decide) (by decide)
            have RS := RsR.s f115 hm RS
            refine w_aload_n d318_118 rfl ?_
            refine w_bipush d318_119 (by decide) ?_
            refine w_callv2 d318_121 (by omega) rfl (ok115.kd hm) (by simp) (Nat.le_of_ble_eq_true rfl) ?_
            refine k_M_put (c := 59) ok115 (by omega) hm TE (by omega) (fun h121 m121 q121 TE => ?_)
            have f121 : Fr S m [1732, 1733] _ _ := Fr.mk ok115 m121 (fun ζ q => q.elim ((fun ζ e => Or.inl e) ζ) ((fun ζ e => Or.inr ⟨1732, by decide, e ▸ U_refl⟩) ζ)) q121 (by decide)
            have ok121 := f121.ok
            have FR121 := Fr.tr (F := [1732, 1733]) FR115 f121 (by decide) (by decide)
            have RS := RsR.s f121 hm RS
            rw [← addBs_app, ← addBs_app, ← addBs_app, ← addBs_app, ← addBs_app, ← addBs_app] at TE
            rw [← addBs_app] at TE
            have TE : TeR S h121 m (addBs 20000 la (rusTxt rs (i + 1))) := by rw [rusTxt, ruTxt]; simpa only [List.append_assoc, List.cons_append, List.nil_append] using TE
            refine w_iinc1 d318_124 rfl (by constructor <;> omega) ?_
            refine w_goto d318_127 ?_
            rw [show ((i : Nat) : Int) + 1 = ((i + 1 : Nat) : Int) by omega]
            refine w_less ?_ (IH2 _ (by omega) h121 (i + 1) rfl FR121 (by omega) TE)
            exact ⟨Or.inr rfl, Or.inr rfl, Or.inl rfl, trivial⟩
          · exact absurd rfl c41
        · exact absurd rfl c27
      · have wn : ¬ rOf rs i < 0 := by omega
        obtain ⟨q, hq⟩ : ∃ q : Nat, rOf rs i = (q : Int) := ⟨(rOf rs i).toNat, by omega⟩
        have hq2 : (rOf rs i).toNat = q := by omega
        refine w_iconst d318_19 (by decide) ?_
        refine w_goto d318_20 ?_
        refine w_istore2 d318_24 rfl ?_
        refine w_aload_n d318_25 rfl ?_
        refine w_iload_n d318_26 rfl ?_
        refine w_ifeq d318_27 (fun c27 => ?_) (fun c27 => ?_)
        · exact absurd c27 (by decide)
        · refine w_bipush d318_30 (by decide) ?_
          refine w_goto d318_32 ?_
          refine w_callv2 d318_37 (by omega) rfl (okg_.kd hm) (by simp) (Nat.le_of_ble_eq_true rfl) ?_
          refine k_M_put (c := 110) okg_ (by omega) hm TE (by omega) (fun h37 m37 q37 TE => ?_)
          have f37 : Fr S m [1732, 1733] _ _ := Fr.mk okg_ m37 (fun ζ q => q.elim ((fun ζ e => Or.inl e) ζ) ((fun ζ e => Or.inr ⟨1732, by decide, e ▸ U_refl⟩) ζ)) q37 (by decide)
          have ok37 := f37.ok
          have FR37 := Fr.tr (F := [1732, 1733]) FRg_ f37 (by decide) (by decide)
          have RS := RsR.s f37 hm RS
          refine w_iload_n d318_40 rfl ?_
          refine w_ifeq d318_41 (fun c41 => ?_) (fun c41 => ?_)
          · exact absurd c41 (by decide)
          · refine w_aload_n d318_44 rfl ?_
            refine w_aload_n d318_45 rfl ?_
            refine w_dloadS d318_46 (ok37.kd hm) (fr1721 ok37 hm) ?_
            refine w_iload_n d318_49 rfl ?_
            refine w_ialoadV (x := ((q : Nat) : Int)) d318_50 (gi1721 ok37 hm (by omega)) ((RS.2.2 i hi).1.trans hq) ?_
            refine w_callv2 d318_51 (by omega) rfl (ok37.kd hm) (by simp) (Nat.le_of_ble_eq_true rfl) ?_
            refine k_M_number (n := 9) ok37 (by omega) hm (by omega) TE (by omega) (by decide) (fun h51 m51 q51 TE => ?_)
            have f51 : Fr S m [1732, 1733] _ _ := Fr.mk ok37 m51 (fun ζ q => q.elim ((fun ζ e => Or.inl e) ζ) ((fun ζ e => Or.inr ⟨1732, by decide, e ▸ U_refl⟩) ζ)) q51 (by decide)
            have ok51 := f51.ok
            have FR51 := Fr.tr (F := [1732, 1733]) FR37 f51 (by decide) (by decide)
            have RS := RsR.s f51 hm RS
            refine w_aload_n d318_54 rfl ?_
            refine w_bipush d318_55 (by decide) ?_
            refine w_callv2 d318_57 (by omega) rfl (ok51.kd hm) (by simp) (Nat.le_of_ble_eq_true rfl) ?_
            refine k_M_put (c := 32) ok51 (by omega) hm TE (by omega) (fun h57 m57 q57 TE => ?_)
            have f57 : Fr S m [1732, 1733] _ _ := Fr.mk ok51 m57 (fun ζ q => q.elim ((fun ζ e => Or.inl e) ζ) ((fun ζ e => Or.inr ⟨1732, by decide, e ▸ U_refl⟩) ζ)) q57 (by decide)
            have ok57 := f57.ok
            have FR57 := Fr.tr (F := [1732, 1733]) FR51 f57 (by decide) (by decide)
            have RS := RsR.s f57 hm RS
            refine w_aload_n d318_60 rfl ?_
            refine w_aload_n d318_61 rfl ?_
            refine w_dloadS d318_62 (ok57.kd hm) (fr1722 ok57 hm) ?_
            refine w_iload_n d318_65 rfl ?_
            refine w_ialoadV (x := ((rWh rs i : Nat) : Int)) d318_66 (gi1722 ok57 hm (by omega)) (RS.2.2 i hi).2.1 ?_
            refine w_callv2 d318_67 (by omega) rfl (ok57.kd hm) (by simp) (Nat.le_of_ble_eq_true rfl) ?_
            refine k_M_number (n := 9) ok57 (by omega) hm (by omega) TE (by omega) (by decide) (fun h67 m67 q67 TE => ?_)
            have f67 : Fr S m [1732, 1733] _ _ := Fr.mk ok57 m67 (fun ζ q => q.elim ((fun ζ e => Or.inl e) ζ) ((fun ζ e => Or.inr ⟨1732, by decide, e ▸ U_refl⟩) ζ)) q67 (by decide)
            have ok67 := f67.ok
            have FR67 := Fr.tr (F := [1732, 1733]) FR57 f67 (by decide) (by decide)
            have RS := RsR.s f67 hm RS
            refine w_aload_n d318_70 rfl ?_
            refine w_bipush d318_71 (by decide) ?_
            refine w_callv2 d318_73 (by omega) rfl (ok67.kd hm) (by simp) (Nat.le_of_ble_eq_true rfl) ?_
            refine k_M_put (c := 32) ok67 (by omega) hm TE (by omega) (fun h73 m73 q73 TE => ?_)
            have f73 : Fr S m [1732, 1733] _ _ := Fr.mk ok67 m73 (fun ζ q => q.elim ((fun ζ e => Or.inl e) ζ) ((fun ζ e => Or.inr ⟨1732, by decide, e ▸ U_refl⟩) ζ)) q73 (by decide)
            have ok73 := f73.ok
            have FR73 := Fr.tr (F := [1732, 1733]) FR67 f73 (by decide) (by decide)
            have RS := RsR.s f73 hm RS
            rw [← addBs_app, ← addBs_app, ← addBs_app, ← addBs_app] at TE
            have TE : TeR S h73 m (addBs 20000 (addBs 20000 la (rusTxt rs i)) (if rOf rs i < 0 then [119] else 110 :: dec (rOf rs i).toNat ++ 32 :: dec (rWh rs i) ++ [32])) := by rw [if_neg wn, hq2]; simpa only [List.append_assoc, List.cons_append, List.nil_append] using TE
            refine w_aload_n d318_76 rfl ?_
            refine w_aload_n d318_77 rfl ?_
            refine w_dloadS d318_78 (ok73.kd hm) (fr1723 ok73 hm) ?_
            refine w_iload_n d318_81 rfl ?_
            refine w_ialoadV (x := ((rPa rs i : Nat) : Int)) d318_82 (gi1723 ok73 hm (by omega)) (RS.2.2 i hi).2.2.1 ?_
            refine w_callv2 d318_83 (by omega) rfl (ok73.kd hm) (by simp) (Nat.le_of_ble_eq_true rfl) ?_
            refine k_M_number (n := 9) ok73 (by omega) hm (by omega) TE (by omega) (by decide) (fun h83 m83 q83 TE => ?_)
            have f83 : Fr S m [1732, 1733] _ _ := Fr.mk ok73 m83 (fun ζ q => q.elim ((fun ζ e => Or.inl e) ζ) ((fun ζ e => Or.inr ⟨1732, by decide, e ▸ U_refl⟩) ζ)) q83 (by decide)
            have ok83 := f83.ok
            have FR83 := Fr.tr (F := [1732, 1733]) FR73 f83 (by decide) (by decide)
            have RS := RsR.s f83 hm RS
            refine w_aload_n d318_86 rfl ?_
            refine w_bipush d318_87 (by decide) ?_
            refine w_callv2 d318_89 (by omega) rfl (ok83.kd hm) (by simp) (Nat.le_of_ble_eq_true rfl) ?_
            refine k_M_put (c := 32) ok83 (by omega) hm TE (by omega) (fun h89 m89 q89 TE => ?_)
            have f89 : Fr S m [1732, 1733] _ _ := Fr.mk ok83 m89 (fun ζ q => q.elim ((fun ζ e => Or.inl e) ζ) ((fun ζ e => Or.inr ⟨1732, by decide, e ▸ U_refl⟩) ζ)) q89 (by decide)
            have ok89 := f89.ok
            have FR89 := Fr.tr (F := [1732, 1733]) FR83 f89 (by decide) (by decide)
            have RS := RsR.s f89 hm RS
            refine w_aload_n d318_92 rfl ?_
            refine w_aload_n d318_93 rfl ?_
            refine w_dloadS d318_94 (ok89.kd hm) (fr1724 ok89 hm) ?_
            refine w_iload_n d318_97 rfl ?_
            refine w_ialoadV (x := ((rLo rs i : Nat) : Int)) d318_98 (gi1724 ok89 hm (by omega)) (RS.2.2 i hi).2.2.2.1 ?_
            refine w_callv2 d318_99 (by omega) rfl (ok89.kd hm) (by simp) (Nat.le_of_ble_eq_true rfl) ?_
            refine k_M_number (n := 9) ok89 (by omega) hm (by omega) TE (by omega) (by decide) (fun h99 m99 q99 TE => ?_)
            have f99 : Fr S m [1732, 1733] _ _ := Fr.mk ok89 m99 (fun ζ q => q.elim ((fun ζ e => Or.inl e) ζ) ((fun ζ e => Or.inr ⟨1732, by decide, e ▸ U_refl⟩) ζ)) q99 (by decide)
            have ok99 := f99.ok
            have FR99 := Fr.tr (F := [1732, 1733]) FR89 f99 (by decide) (by decide)
            have RS := RsR.s f99 hm RS
            refine w_aload_n d318_102 rfl ?_
            refine w_bipush d318_103 (by decide) ?_
            refine w_callv2 d318_105 (by omega) rfl (ok99.kd hm) (by simp) (Nat.le_of_ble_eq_true rfl) ?_
            refine k_M_put (c := 32) ok99 (by omega) hm TE (by omega) (fun h105 m105 q105 TE => ?_)
            have f105 : Fr S m [1732, 1733] _ _ := Fr.mk ok99 m105 (fun ζ q => q.elim ((fun ζ e => Or.inl e) ζ) ((fun ζ e => Or.inr ⟨1732, by decide, e ▸ U_refl⟩) ζ)) q105 (by decide)
            have ok105 := f105.ok
            have FR105 := Fr.tr (F := [1732, 1733]) FR99 f105 (by decide) (by decide)
            have RS := RsR.s f105 hm RS
            refine w_aload_n d318_108 rfl ?_
            refine w_aload_n d318_109 rfl ?_
            refine w_dloadS d318_110 (ok105.kd hm) (fr1725 ok105 hm) ?_
            refine w_iload_n d318_113 rfl ?_
            refine w_ialoadV (x := ((rHi rs i : Nat) : Int)) d318_114 (gi1725 ok105 hm (by omega)) (RS.2.2 i hi).2.2.2.2.1 ?_
            refine w_callv2 d318_115 (by omega) rfl (ok105.kd hm) (by simp) (Nat.le_of_ble_eq_true rfl) ?_
            refine k_M_number (n := 9) ok105 (by omega) hm (by omega) TE (by omega) (by decide) (fun h115 m115 q115 TE => ?_)
            have f115 : Fr S m [1732, 1733] _ _ := Fr.mk ok105 m115 (fun ζ q => q.elim ((fun ζ e => Or.inl e) ζ) ((fun ζ e => Or.inr ⟨1732, by decide, e ▸ U_refl⟩) ζ)) q115 (by decide)
            have ok115 := f115.ok
            have FR115 := Fr.tr (F := [1732, 1733]) FR105 f115 (by decide) (by decide)
            have RS := RsR.s f115 hm RS
            refine w_aload_n d318_118 rfl ?_
            refine w_bipush d318_119 (by decide) ?_
            refine w_callv2 d318_121 (by omega) rfl (ok115.kd hm) (by simp) (Nat.le_of_ble_eq_true rfl) ?_
            refine k_M_put (c := 59) ok115 (by omega) hm TE (by omega) (fun h121 m121 q121 TE => ?_)
            have f121 : Fr S m [1732, 1733] _ _ := Fr.mk ok115 m121 (fun ζ q => q.elim ((fun ζ e => Or.inl e) ζ) ((fun ζ e => Or.inr ⟨1732, by decide, e ▸ U_refl⟩) ζ)) q121 (by decide)
            have ok121 := f121.ok
            have FR121 := Fr.tr (F := [1732, 1733]) FR115 f121 (by decide) (by decide)
            have RS := RsR.s f121 hm RS
            rw [← addBs_app, ← addBs_app, ← addBs_app, ← addBs_app, ← addBs_app, ← addBs_app] at TE
            rw [← addBs_app] at TE
            have TE : TeR S h121 m (addBs 20000 la (rusTxt rs (i + 1))) := by rw [rusTxt, ruTxt]; simpa only [List.append_assoc, List.cons_append, List.nil_append] using TE
            refine w_iinc1 d318_124 rfl (by constructor <;> omega) ?_
            refine w_goto d318_127 ?_
            rw [show ((i : Nat) : Int) + 1 = ((i + 1 : Nat) : Int) by omega]
            refine w_less ?_ (IH2 _ (by omega) h121 (i + 1) rfl FR121 (by omega) TE)
            exact ⟨Or.inr rfl, Or.inr rfl, Or.inl rfl, trivial⟩
  refine w_less ?_ (L2 _ h 0 rfl (Fr.refl ok) (Nat.zero_le _) TE)
  exact ⟨Or.inr rfl, Or.inr rfl, Or.inl rfl, trivial⟩
