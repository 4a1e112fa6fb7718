/-! the reference: a session's arrays, reasons, what can be taken -/
/-- an array of numbers -/
def ArI (S : Shp) (h : Hp) (m f : Nat) (g : Nat → Int) (n : Nat) : Prop := ∀ i, i < n → AI h (sT S f m) i = g i
theorem ArI.r {S : Shp} {m f n : Nat} {g : Nat → Int} {F : List Nat} {h h' : Hp} (D : ArI S h m f g n) (fr : Fr S m F h h') (hm : sK S m = 14) (h1 : f ∉ F ∧ ltF4 F ∧ (fk f = 40 ∨ fk f = 42) ∧ kFld f = 14 ∧ f < 4096 := by decide) : ArI S h' m f g n := fun i hi => by
  have k := (fr.1.so.2.2.1 f m (by omega) (by omega)).1
  rw [fr.ai (by omega) h1.2.2.2.2 h1.1 h1.2.1]
  exact D i hi
theorem ArI.w {S : Shp} {m f n j : Nat} {g : Nat → Int} {x : Int} {h h' : Hp} (D : ArI S h m f g n) (e : h' = sAI h (sT S f m) j x) : ArI S h' m f (upO g j x) n := fun i hi => by
  rw [e, sArr]
  unfold upO
  by_cases q : i = j
  · rw [if_pos q, if_pos q]
  · rw [if_neg q, if_neg q]; exact D i hi
theorem ArI.cg {S : Shp} {m f n : Nat} {g g' : Nat → Int} {h : Hp} (D : ArI S h m f g n) (e : ∀ i, i < n → g i = g' i) : ArI S h m f g' n := fun i hi => (D i hi).trans (e i hi)
def NeR (h : Hp) (m n : Nat) : Prop := FI h 1705 m = (n : Nat) ∧ n < 16384
theorem NeR.r {S : Shp} {m n : Nat} {F : List Nat} {h h' : Hp} (D : NeR h m n) (fr : Fr S m F h h') (_ : sK S m = 14) (h1 : 1705 ∉ F := by decide) : NeR h' m n := ⟨(fr.i 1705 h1).trans D.1, D.2⟩
/-- the outcomes that workers hold -/
def WkR (S : Shp) (h : Hp) (m : Nat) (wk : Nat → OmV) : Prop := ∀ w, w < 2 → OmC S h (sE S (sT S 1716 m) w) (wk w)
theorem WkR.r {S : Shp} {m : Nat} {wk : Nat → OmV} {F : List Nat} {h h' : Hp} (D : WkR S h m wk) (fr : Fr S m F h h') (hm : sK S m = 14) (h1 : 1716 ∉ F ∧ ltF4 F := by decide) : WkR S h' m wk := fun w hw => (D w hw).u fr.1 fr.mo (kE1716 fr.1 hm hw) (fun y u => fr.no (by decide) h1.1 h1.2 (U_trans (fr.1.so.uE (by omega) U_refl) u))
/-- their keys and parts -/
def WpR (S : Shp) (h : Hp) (m : Nat) (kf : Nat → Int64) (pf : Nat → List Int64) : Prop := ∀ w, w < 2 → AL h (sT S 1717 m) w = kf w ∧ AI h (sT S 1719 m) w = ((pf w).length : Nat) ∧ (pf w).length ≤ 7 ∧ ∀ k, k < (pf w).length → AL h (sT S 1718 m) (7 * w + k) = (pf w).getD k 0
theorem WpR.r {S : Shp} {m : Nat} {kf : Nat → Int64} {pf : Nat → List Int64} {F : List Nat} {h h' : Hp} (D : WpR S h m kf pf) (fr : Fr S m F h h') (hm : sK S m = 14) (h1 : 1717 ∉ F ∧ 1718 ∉ F ∧ 1719 ∉ F ∧ ltF4 F := by decide) : WpR S h' m kf pf := by
  unfold WpR
  rw [fr.al (by have := kT1717 fr.1 hm; omega) (by decide) h1.1 h1.2.2.2, fr.al (by have := kT1718 fr.1 hm; omega) (by decide) h1.2.1 h1.2.2.2, fr.ai (by have := kT1719 fr.1 hm; omega) (by decide) h1.2.2.1 h1.2.2.2]
  exact D
/-- the parts at the latest good end -/
def LpR (S : Shp) (h : Hp) (m : Nat) (lf : Nat → List Int64) : Prop := ∀ t, t < 14 → AI h (sT S 1671 m) t = ((lf t).length : Nat) ∧ (lf t).length ≤ 7 ∧ ∀ k, k < (lf t).length → AL h (sT S 1670 m) (7 * t + k) = (lf t).getD k 0
theorem LpR.r {S : Shp} {m : Nat} {lf : Nat → List Int64} {F : List Nat} {h h' : Hp} (D : LpR S h m lf) (fr : Fr S m F h h') (hm : sK S m = 14) (h1 : 1670 ∉ F ∧ 1671 ∉ F ∧ ltF4 F := by decide) : LpR S h' m lf := by
  unfold LpR
  rw [fr.al (by have := kT1670 fr.1 hm; omega) (by decide) h1.1 h1.2.2, fr.ai (by have := kT1671 fr.1 hm; omega) (by decide) h1.2.1 h1.2.2]
  exact D
/-- the runs of a session -/
def RnR (S : Shp) (h : Hp) (m : Nat) (l : List Nat) : Prop := FI h 1709 m = l.length ∧ l.length ≤ 14 ∧ ∀ i, i < l.length → AI h (sT S 1708 m) i = (l.getD i 0 : Nat)
theorem RnR.r {S : Shp} {m : Nat} {l : List Nat} {F : List Nat} {h h' : Hp} (D : RnR S h m l) (fr : Fr S m F h h') (hm : sK S m = 14) (h1 : 1708 ∉ F ∧ 1709 ∉ F ∧ ltF4 F := by decide) : RnR S h' m l := by
  unfold RnR
  rw [fr.ai (by have := kT1708 fr.1 hm; omega) (by decide) h1.1 h1.2.2, fr.i 1709 h1.2.1]
  exact D
theorem i64cmp {x y : Int64} : ((if x > y then (1 : Int) else if x = y then 0 else -1) = 0) ↔ x = y := by
  constructor
  · intro h
    by_cases z : x = y
    · exact z
    · exfalso
      (repeat' split at h) <;> first | omega | exact z (by assumption)
  · intro z
    rw [if_neg (by rw [z]; exact Int64.lt_irrefl), if_pos z]
theorem ReR.w {S : Shp} {h h' : Hp} {m t r : Nat} {ra : Nat → Nat} (D : ReR S h m ra) (hr : r ≤ 11) (e1 : ∀ i, AI h' (sT S 1672 m) i = if i = t then (if r ≤ 3 then (r : Int) else if r = 4 then 5 else 4) else AI h (sT S 1672 m) i) (e2 : ∀ i, i ≠ t ∨ r ≤ 4 ∨ AI h' (sT S 1673 m) i = ((r - 5 : Nat) : Int)) (e3 : ∀ i, i ≠ t → AI h' (sT S 1673 m) i = AI h (sT S 1673 m) i) : ReR S h' m (upN ra t r) := fun u hu => by
  unfold upN
  rw [e1]
  by_cases q : u = t
  · rw [if_pos q, if_pos q]
    refine ⟨hr, fun z => by rw [if_pos z], fun z => by rw [if_neg (by omega), if_pos z], fun z => ⟨by rw [if_neg (by omega), if_neg (by omega)], ?_⟩⟩
    rcases e2 u with y | y | y
    · exact absurd q y
    · omega
    · exact y
  · rw [if_neg q, if_neg q, e3 u q]
    exact D u hu
theorem d264_0 : dc 264 0 = some (.aload_n 0, 1) := by decide +kernel
theorem d264_1 : dc 264 1 = some (.dload 1671, 4) := by decide +kernel
theorem d264_4 : dc 264 4 = some (.iload_n 1, 5) := by decide +kernel
theorem d264_5 : dc 264 5 = some (.iaload, 6) := by decide +kernel
theorem d264_6 : dc 264 6 = some (.ifCond .ne ((19 : Nat) : Int), 9) := by decide +kernel
theorem d264_9 : dc 264 9 = some (.aload_n 0, 10) := by decide +kernel
theorem d264_10 : dc 264 10 = some (.dload 1672, 13) := by decide +kernel
theorem d264_13 : dc 264 13 = some (.iload_n 1, 14) := by decide +kernel
theorem d264_14 : dc 264 14 = some (.iconst 1, 15) := by decide +kernel
theorem d264_15 : dc 264 15 = some (.iastore, 16) := by decide +kernel
theorem d264_16 : dc 264 16 = some (.goto ((136 : Nat) : Int), 19) := by decide +kernel
theorem d264_19 : dc 264 19 = some (.aload_n 0, 20) := by decide +kernel
theorem d264_20 : dc 264 20 = some (.dload 1678, 23) := by decide +kernel
theorem d264_23 : dc 264 23 = some (.iconst 0, 24) := by decide +kernel
theorem d264_24 : dc 264 24 = some (.laload, 25) := by decide +kernel
theorem d264_25 : dc 264 25 = some (.aload_n 0, 26) := by decide +kernel
theorem d264_26 : dc 264 26 = some (.dload 1670, 29) := by decide +kernel
theorem d264_29 : dc 264 29 = some (.bipush 7, 31) := by decide +kernel
theorem d264_31 : dc 264 31 = some (.iload_n 1, 32) := by decide +kernel
theorem d264_32 : dc 264 32 = some (.imul, 33) := by decide +kernel
theorem d264_33 : dc 264 33 = some (.laload, 34) := by decide +kernel
theorem d264_34 : dc 264 34 = some (.lcmp, 35) := by decide +kernel
theorem d264_35 : dc 264 35 = some (.ifCond .eq ((48 : Nat) : Int), 38) := by decide +kernel
theorem d264_38 : dc 264 38 = some (.aload_n 0, 39) := by decide +kernel
theorem d264_39 : dc 264 39 = some (.dload 1672, 42) := by decide +kernel
theorem d264_42 : dc 264 42 = some (.iload_n 1, 43) := by decide +kernel
theorem d264_43 : dc 264 43 = some (.iconst 2, 44) := by decide +kernel
theorem d264_44 : dc 264 44 = some (.iastore, 45) := by decide +kernel
theorem d264_45 : dc 264 45 = some (.goto ((136 : Nat) : Int), 48) := by decide +kernel
theorem d264_48 : dc 264 48 = some (.aload_n 0, 49) := by decide +kernel
theorem d264_49 : dc 264 49 = some (.getfield 1679, 52) := by decide +kernel
theorem d264_52 : dc 264 52 = some (.aload_n 0, 53) := by decide +kernel
theorem d264_53 : dc 264 53 = some (.dload 1671, 56) := by decide +kernel
theorem d264_56 : dc 264 56 = some (.iload_n 1, 57) := by decide +kernel
theorem d264_57 : dc 264 57 = some (.iaload, 58) := by decide +kernel
theorem d264_58 : dc 264 58 = some (.if_icmp .eq ((71 : Nat) : Int), 61) := by decide +kernel
theorem d264_61 : dc 264 61 = some (.aload_n 0, 62) := by decide +kernel
theorem d264_62 : dc 264 62 = some (.dload 1672, 65) := by decide +kernel
theorem d264_65 : dc 264 65 = some (.iload_n 1, 66) := by decide +kernel
theorem d264_66 : dc 264 66 = some (.iconst 3, 67) := by decide +kernel
theorem d264_67 : dc 264 67 = some (.iastore, 68) := by decide +kernel
theorem d264_68 : dc 264 68 = some (.goto ((136 : Nat) : Int), 71) := by decide +kernel
theorem d264_71 : dc 264 71 = some (.iconst 1, 72) := by decide +kernel
theorem d264_72 : dc 264 72 = some (.istore_n 2, 73) := by decide +kernel
theorem d264_73 : dc 264 73 = some (.iload_n 2, 74) := by decide +kernel
theorem d264_74 : dc 264 74 = some (.aload_n 0, 75) := by decide +kernel
theorem d264_75 : dc 264 75 = some (.getfield 1679, 78) := by decide +kernel
theorem d264_78 : dc 264 78 = some (.if_icmp .ge ((108 : Nat) : Int), 81) := by decide +kernel
theorem d264_81 : dc 264 81 = some (.aload_n 0, 82) := by decide +kernel
theorem d264_82 : dc 264 82 = some (.dload 1678, 85) := by decide +kernel
theorem d264_85 : dc 264 85 = some (.iload_n 2, 86) := by decide +kernel
theorem d264_86 : dc 264 86 = some (.laload, 87) := by decide +kernel
theorem d264_87 : dc 264 87 = some (.aload_n 0, 88) := by decide +kernel
theorem d264_88 : dc 264 88 = some (.dload 1670, 91) := by decide +kernel
theorem d264_91 : dc 264 91 = some (.bipush 7, 93) := by decide +kernel
theorem d264_93 : dc 264 93 = some (.iload_n 1, 94) := by decide +kernel
theorem d264_94 : dc 264 94 = some (.imul, 95) := by decide +kernel
theorem d264_95 : dc 264 95 = some (.iload_n 2, 96) := by decide +kernel
theorem d264_96 : dc 264 96 = some (.iadd, 97) := by decide +kernel
theorem d264_97 : dc 264 97 = some (.laload, 98) := by decide +kernel
theorem d264_98 : dc 264 98 = some (.lcmp, 99) := by decide +kernel
theorem d264_99 : dc 264 99 = some (.ifCond .ne ((108 : Nat) : Int), 102) := by decide +kernel
theorem d264_102 : dc 264 102 = some (.iinc 2 1, 105) := by decide +kernel
theorem d264_105 : dc 264 105 = some (.goto ((73 : Nat) : Int), 108) := by decide +kernel
theorem d264_108 : dc 264 108 = some (.aload_n 0, 109) := by decide +kernel
theorem d264_109 : dc 264 109 = some (.dload 1672, 112) := by decide +kernel
theorem d264_112 : dc 264 112 = some (.iload_n 1, 113) := by decide +kernel
theorem d264_113 : dc 264 113 = some (.iload_n 2, 114) := by decide +kernel
theorem d264_114 : dc 264 114 = some (.aload_n 0, 115) := by decide +kernel
theorem d264_115 : dc 264 115 = some (.getfield 1679, 118) := by decide +kernel
theorem d264_118 : dc 264 118 = some (.if_icmp .ge ((125 : Nat) : Int), 121) := by decide +kernel
theorem d264_121 : dc 264 121 = some (.iconst 4, 122) := by decide +kernel
theorem d264_122 : dc 264 122 = some (.goto ((126 : Nat) : Int), 125) := by decide +kernel
theorem d264_125 : dc 264 125 = some (.iconst 5, 126) := by decide +kernel
theorem d264_126 : dc 264 126 = some (.iastore, 127) := by decide +kernel
theorem d264_127 : dc 264 127 = some (.aload_n 0, 128) := by decide +kernel
theorem d264_128 : dc 264 128 = some (.dload 1673, 131) := by decide +kernel
theorem d264_131 : dc 264 131 = some (.iload_n 1, 132) := by decide +kernel
theorem d264_132 : dc 264 132 = some (.iload_n 2, 133) := by decide +kernel
theorem d264_133 : dc 264 133 = some (.iconst 1, 134) := by decide +kernel
theorem d264_134 : dc 264 134 = some (.isub, 135) := by decide +kernel
theorem d264_135 : dc 264 135 = some (.iastore, 136) := by decide +kernel
theorem d264_136 : dc 264 136 = some (.return_, 137) := by decide +kernel
theorem k_M_findReason {S : Shp} {G : Nat → Option Nat} {d : Nat} {h : Hp} {Q : Option MV → Hp → Prop} {m : Nat} {t : Nat} {b : Bool} {ps qs : List Int64} {lf : Nat → List Int64} {ra : Nat → Nat} (ok : Ok S h) (h1 : 0 ≤ d) (hm : sK S m = 14) (PR : PaR S h m ps) (LP : LpR S h m lf) (RE : ReR S h m ra) (ht : t < 14) (hp : 0 < ps.length) (h1b : b = true → lf t = qs ∧ 0 < qs.length) (h0b : b = false → lf t = [])
    (kk : ∀ h', Fr S m [1672, 1673] h h' → ReR S h' m (upN ra t (rsnW b ps qs)) → Q none h') : Cl G d 264 [vR (some m), vI (t : Nat)] h Q := by
  show Wp G d 264 0 [some (vR (some m)), some (vI (t : Nat)), none] [] h Q
  have PR_0 := PR
  have LP_0 := LP
  have RE_0 := RE
  obtain ⟨l1, l2, l3⟩ := LP t ht
  obtain ⟨p1, p2, p3⟩ := id PR
  refine w_aload_n d264_0 rfl ?_
  refine w_dloadS d264_1 (ok.kd hm) (fr1671 ok hm) ?_
  refine w_iload_n d264_4 rfl ?_
  refine w_ialoadV (x := (((lf t).length : Nat) : Int)) d264_5 (gi1671 ok hm (by omega)) l1 ?_
  refine w_ifne d264_6 (fun c6 => ?_) (fun c6 => ?_)
  · have bt_ : b = true := by
      cases hz : b with
      | true => rfl
      | false => rw [h0b hz] at c6; exact absurd rfl c6
    obtain ⟨lq, q0⟩ := h1b bt_
    rw [lq] at l1 l2 l3
    refine w_aload_n d264_19 rfl ?_
    refine w_dloadS d264_20 (ok.kd hm) (fr1678 ok hm) ?_
    refine w_iconst d264_23 (by decide) ?_
    refine w_laloadV (x := (ps.getD 0 0)) d264_24 (gi1678 ok hm (by omega)) (p3 0 hp) ?_
    refine w_aload_n d264_25 rfl ?_
    refine w_dloadS d264_26 (ok.kd hm) (fr1670 ok hm) ?_
    refine w_bipush d264_29 (by decide) ?_
    refine w_iload_n d264_31 rfl ?_
    refine w_imul d264_32 (by constructor <;> omega) ?_
    rw [show (7 : Int) * ((t : Nat) : Int) = ((7 * t : Nat) : Int) by omega]
    refine w_laloadV (x := (qs.getD 0 0)) d264_33 (gi1670 ok hm (by omega)) (l3 0 q0) ?_
    refine w_lcmp d264_34 ?_
    refine w_ifeq d264_35 (fun c35 => ?_) (fun c35 => ?_)
    · have eq := i64cmp.mp c35
      refine w_aload_n d264_48 rfl ?_
      refine w_getI (x := ((ps.length : Nat) : Int)) d264_49 (ok.kd hm) p1 ?_
      refine w_aload_n d264_52 rfl ?_
      refine w_dloadS d264_53 (ok.kd hm) (fr1671 ok hm) ?_
      refine w_iload_n d264_56 rfl ?_
      refine w_ialoadV (x := ((qs.length : Nat) : Int)) d264_57 (gi1671 ok hm (by omega)) l1 ?_
      refine w_icmpeq d264_58 (fun c58 => ?_) (fun c58 => ?_)
      · have nl : ps.length = qs.length := by omega
        have er : (rsnW b ps qs) = (4 + srF (fun i => decide (ps.getD i 0 ≠ qs.getD i 0)) ps.length 1).toNat.max 4 := by unfold rsnW; rw [if_pos bt_, if_neg (fun z => z eq), if_neg (fun z => z nl)]
        refine w_iconst d264_71 (by decide) ?_
        refine w_istore2 d264_72 rfl ?_
        have L73 : ∀ (m73 : Nat) (k : Nat), ps.length - k = m73 → (1 ≤ k ∧ k ≤ ps.length) → (srF (fun i => decide (ps.getD i 0 ≠ qs.getD i 0)) ps.length k = srF (fun i => decide (ps.getD i 0 ≠ qs.getD i 0)) ps.length 1) → Wp G d 264 73 [some (vR (some m)), some (vI (t : Nat)), some (vI (k : Nat))] [] h Q := by
          intro m73
          induction m73 using Nat.strongRecOn with | ind m73 IH73 => ?_
          intro k hm73 kl hs
          refine w_iload_n d264_73 rfl ?_
          refine w_aload_n d264_74 rfl ?_
          refine w_getI (x := ((ps.length : Nat) : Int)) d264_75 (ok.kd hm) p1 ?_
          refine w_icmpge d264_78 (fun c78 => ?_) (fun c78 => ?_)
          · have ek : k = ps.length := by omega
            rw [ek, srF_end (Nat.le_refl _)] at hs
            have er2 : (rsnW b ps qs) = 4 := by rw [er, ← hs]; rfl
            rw [er2] at kk
            refine w_aload_n d264_108 rfl ?_
            refine w_dloadS d264_109 (ok.kd hm) (fr1672 ok hm) ?_
            refine w_iload_n d264_112 rfl ?_
            refine w_iload_n d264_113 rfl ?_
            refine w_aload_n d264_114 rfl ?_
            refine w_getI (x := ((ps.length : Nat) : Int)) d264_115 (ok.kd hm) p1 ?_
            refine w_icmpge d264_118 (fun c118 => ?_) (fun c118 => ?_)
            · refine w_iconst d264_125 (by decide) ?_
              refine wa1672 d264_126 ok hm (by omega) (by omega) (fun h126 e126 m126 => ?_)
              have e126 : h126 = sAI h (sT S 1672 m) t 5 := e126
              have f126 : Fr S m [1672] _ _ := Fr.wB ok hm m126 (fun ζ e => ⟨1672, by decide, by decide, e ▸ U_refl⟩)
              have ok126 := f126.ok
              have FR126 := Fr.le (F := [1672, 1673]) f126 (by decide)
              have PR := PR.r f126 hm
              have LP := LP.r f126 hm
              refine w_aload_n d264_127 rfl ?_
              refine w_dloadS d264_128 (ok126.kd hm) (fr1673 ok126 hm) ?_
              refine w_iload_n d264_131 rfl ?_
              refine w_iload_n d264_132 rfl ?_
              refine w_iconst d264_133 (by decide) ?_
              refine w_isub d264_134 (by constructor <;> omega) ?_
              rw [show ((k : Nat) : Int) - 1 = ((k - 1 : Nat) : Int) by omega]
              refine wa1673 d264_135 ok126 hm (by omega) (by omega) (fun h135 e135 m135 => ?_)
              have e135 : h135 = sAI h126 (sT S 1673 m) t ((k - 1 : Nat) : Int) := e135
              have f135 : Fr S m [1673] _ _ := Fr.wB ok126 hm m135 (fun ζ e => ⟨1673, by decide, by decide, e ▸ U_refl⟩)
              have ok135 := f135.ok
              have FR135 := Fr.tr (F := [1672, 1673]) FR126 f135 (by decide) (by decide)
              have PR := PR.r f135 hm
              have LP := LP.r f135 hm
              refine w_return d264_136 ?_
              refine kk h135 FR135 (RE_0.w (by omega) (fun i => by rw [f135.ai (by have := kT1672 ok hm; omega) (by decide) (by decide) (by decide), e126, sArr]; by_cases q : i = t; rw [if_pos q, if_pos q]; (repeat' split) <;> omega; rw [if_neg q, if_neg q]) (fun i => by by_cases q : i = t; exact Or.inr (by first | exact Or.inl (by omega) | (refine Or.inr ?_; rw [e135, sArr, if_pos q]; omega)); exact Or.inl q) (fun i q => by rw [e135, sArr, if_neg q, f126.ai (by have := kT1673 ok hm; omega) (by decide) (by decide) (by decide)]))
            · refine w_iconst d264_121 (by decide) ?_
              refine w_goto d264_122 ?_
              refine wa1672 d264_126 ok hm (by omega) (by omega) (fun h126 e126 m126 => ?_)
              have e126 : h126 = sAI h (sT S 1672 m) t 4 := e126
              have f126 : Fr S m [1672] _ _ := Fr.wB ok hm m126 (fun ζ e => ⟨1672, by decide, by decide, e ▸ U_refl⟩)
              have ok126 := f126.ok
              have FR126 := Fr.le (F := [1672, 1673]) f126 (by decide)
              have PR := PR.r f126 hm
              have LP := LP.r f126 hm
              refine w_aload_n d264_127 rfl ?_
              refine w_dloadS d264_128 (ok126.kd hm) (fr1673 ok126 hm) ?_
              refine w_iload_n d264_131 rfl ?_
              refine w_iload_n d264_132 rfl ?_
              refine w_iconst d264_133 (by decide) ?_
              refine w_isub d264_134 (by constructor <;> omega) ?_
              rw [show ((k : Nat) : Int) - 1 = ((k - 1 : Nat) : Int) by omega]
              refine wa1673 d264_135 ok126 hm (by omega) (by omega) (fun h135 e135 m135 => ?_)
              have e135 : h135 = sAI h126 (sT S 1673 m) t ((k - 1 : Nat) : Int) := e135
              have f135 : Fr S m [1673] _ _ := Fr.wB ok126 hm m135 (fun ζ e => ⟨1673, by decide, by decide, e ▸ U_refl⟩)
              have ok135 := f135.ok
              have FR135 := Fr.tr (F := [1672, 1673]) FR126 f135 (by decide) (by decide)
              have PR := PR.r f135 hm
              have LP := LP.r f135 hm
              refine w_return d264_136 ?_
              refine kk h135 FR135 (RE_0.w (by omega) (fun i => by rw [f135.ai (by have := kT1672 ok hm; omega) (by decide) (by decide) (by decide), e126, sArr]; by_cases q : i = t; rw [if_pos q, if_pos q]; (repeat' split) <;> omega; rw [if_neg q, if_neg q]) (fun i => by by_cases q : i = t; exact Or.inr (by first | exact Or.inl (by omega) | (refine Or.inr ?_; rw [e135, sArr, if_pos q]; omega)); exact Or.inl q) (fun i q => by rw [e135, sArr, if_neg q, f126.ai (by have := kT1673 ok hm; omega) (by decide) (by decide) (by decide)]))
          · have hk : k < ps.length := by omega
            refine w_aload_n d264_81 rfl ?_
            refine w_dloadS d264_82 (ok.kd hm) (fr1678 ok hm) ?_
            refine w_iload_n d264_85 rfl ?_
            refine w_laloadV (x := (ps.getD k 0)) d264_86 (gi1678 ok hm (by omega)) (p3 k hk) ?_
            refine w_aload_n d264_87 rfl ?_
            refine w_dloadS d264_88 (ok.kd hm) (fr1670 ok hm) ?_
            refine w_bipush d264_91 (by decide) ?_
            refine w_iload_n d264_93 rfl ?_
            refine w_imul d264_94 (by constructor <;> omega) ?_
            rw [show (7 : Int) * ((t : Nat) : Int) = ((7 * t : Nat) : Int) by omega]
            refine w_iload_n d264_95 rfl ?_
            refine w_iadd d264_96 (by constructor <;> omega) ?_
            rw [show ((7 * t : Nat) : Int) + ((k : Nat) : Int) = ((7 * t + k : Nat) : Int) by omega]
            refine w_laloadV (x := (qs.getD k 0)) d264_97 (gi1670 ok hm (by omega)) (l3 k (by omega)) ?_
            refine w_lcmp d264_98 ?_
            refine w_ifne d264_99 (fun c99 => ?_) (fun c99 => ?_)
            · have ne : ps.getD k 0 ≠ qs.getD k 0 := fun z => c99 (i64cmp.mpr z)
              rw [srF_yes hk (decide_eq_true ne)] at hs
              have er2 : (rsnW b ps qs) = 4 + k := by rw [er, ← hs]; show max (4 + (k : Int)).toNat 4 = 4 + k; omega
              rw [er2] at kk
              refine w_aload_n d264_108 rfl ?_
              refine w_dloadS d264_109 (ok.kd hm) (fr1672 ok hm) ?_
              refine w_iload_n d264_112 rfl ?_
              refine w_iload_n d264_113 rfl ?_
              refine w_aload_n d264_114 rfl ?_
              refine w_getI (x := ((ps.length : Nat) : Int)) d264_115 (ok.kd hm) p1 ?_
              refine w_icmpge d264_118 (fun c118 => ?_) (fun c118 => ?_)
              · refine w_iconst d264_125 (by decide) ?_
                refine wa1672 d264_126 ok hm (by omega) (by omega) (fun h126 e126 m126 => ?_)
                have e126 : h126 = sAI h (sT S 1672 m) t 5 := e126
                have f126 : Fr S m [1672] _ _ := Fr.wB ok hm m126 (fun ζ e => ⟨1672, by decide, by decide, e ▸ U_refl⟩)
                have ok126 := f126.ok
                have FR126 := Fr.le (F := [1672, 1673]) f126 (by decide)
                have PR := PR.r f126 hm
                have LP := LP.r f126 hm
                refine w_aload_n d264_127 rfl ?_
                refine w_dloadS d264_128 (ok126.kd hm) (fr1673 ok126 hm) ?_
                refine w_iload_n d264_131 rfl ?_
                refine w_iload_n d264_132 rfl ?_
                refine w_iconst d264_133 (by decide) ?_
                refine w_isub d264_134 (by constructor <;> omega) ?_
                rw [show ((k : Nat) : Int) - 1 = ((k - 1 : Nat) : Int) by omega]
                refine wa1673 d264_135 ok126 hm (by omega) (by omega) (fun h135 e135 m135 => ?_)
                have e135 : h135 = sAI h126 (sT S 1673 m) t ((k - 1 : Nat) : Int) := e135
                have f135 : Fr S m [1673] _ _ := Fr.wB ok126 hm m135 (fun ζ e => ⟨1673, by decide, by decide, e ▸ U_refl⟩)
                have ok135 := f135.ok
                have FR135 := Fr.tr (F := [1672, 1673]) FR126 f135 (by decide) (by decide)
                have PR := PR.r f135 hm
                have LP := LP.r f135 hm
                refine w_return d264_136 ?_
                refine kk h135 FR135 (RE_0.w (by omega) (fun i => by rw [f135.ai (by have := kT1672 ok hm; omega) (by decide) (by decide) (by decide), e126, sArr]; by_cases q : i = t; rw [if_pos q, if_pos q]; (repeat' split) <;> omega; rw [if_neg q, if_neg q]) (fun i => by by_cases q : i = t; exact Or.inr (by first | exact Or.inl (by omega) | (refine Or.inr ?_; rw [e135, sArr, if_pos q]; omega)); exact Or.inl q) (fun i q => by rw [e135, sArr, if_neg q, f126.ai (by have := kT1673 ok hm; omega) (by decide) (by decide) (by decide)]))
              · refine w_iconst d264_121 (by decide) ?_
                refine w_goto d264_122 ?_
                refine wa1672 d264_126 ok hm (by omega) (by omega) (fun h126 e126 m126 => ?_)
                have e126 : h126 = sAI h (sT S 1672 m) t 4 := e126
                have f126 : Fr S m [1672] _ _ := Fr.wB ok hm m126 (fun ζ e => ⟨1672, by decide, by decide, e ▸ U_refl⟩)
                have ok126 := f126.ok
                have FR126 := Fr.le (F := [1672, 1673]) f126 (by decide)
                have PR := PR.r f126 hm
                have LP := LP.r f126 hm
                refine w_aload_n d264_127 rfl ?_
                refine w_dloadS d264_128 (ok126.kd hm) (fr1673 ok126 hm) ?_
                refine w_iload_n d264_131 rfl ?_
                refine w_iload_n d264_132 rfl ?_
                refine w_iconst d264_133 (by decide) ?_
                refine w_isub d264_134 (by constructor <;> omega) ?_
                rw [show ((k : Nat) : Int) - 1 = ((k - 1 : Nat) : Int) by omega]
                refine wa1673 d264_135 ok126 hm (by omega) (by omega) (fun h135 e135 m135 => ?_)
                have e135 : h135 = sAI h126 (sT S 1673 m) t ((k - 1 : Nat) : Int) := e135
                have f135 : Fr S m [1673] _ _ := Fr.wB ok126 hm m135 (fun ζ e => ⟨1673, by decide, by decide, e ▸ U_refl⟩)
                have ok135 := f135.ok
                have FR135 := Fr.tr (F := [1672, 1673]) FR126 f135 (by decide) (by decide)
                have PR := PR.r f135 hm
                have LP := LP.r f135 hm
                refine w_return d264_136 ?_
                refine kk h135 FR135 (RE_0.w (by omega) (fun i => by rw [f135.ai (by have := kT1672 ok hm; omega) (by decide) (by decide) (by decide), e126, sArr]; by_cases q : i = t; rw [if_pos q, if_pos q]; (repeat' split) <;> omega; rw [if_neg q, if_neg q]) (fun i => by by_cases q : i = t; exact Or.inr (by first | exact Or.inl (by omega) | (refine Or.inr ?_; rw [e135, sArr, if_pos q]; omega)); exact Or.inl q) (fun i q => by rw [e135, sArr, if_neg q, f126.ai (by have := kT1673 ok hm; omega) (by decide) (by decide) (by decide)]))
            · have eqk := i64cmp.mp c99
              rw [srF_no hk (decide_eq_false (fun z => z eqk))] at hs
              refine w_iinc2 d264_102 rfl (by constructor <;> omega) ?_
              refine w_goto d264_105 ?_
              rw [show ((k : Nat) : Int) + 1 = ((k + 1 : Nat) : Int) by omega]
              refine w_less ?_ (IH73 _ (by omega) (k + 1) rfl ⟨by omega, by omega⟩ hs)
              exact ⟨Or.inr rfl, Or.inr rfl, Or.inr rfl, trivial⟩
        refine w_less ?_ (L73 _ 1 rfl ⟨Nat.le_refl _, hp⟩ rfl)
        exact ⟨Or.inr rfl, Or.inr rfl, Or.inr rfl, trivial⟩
      · have nl : ps.length ≠ qs.length := by omega
        have er : (rsnW b ps qs) = 3 := by unfold rsnW; rw [if_pos bt_, if_neg (fun z => z eq), if_pos nl]
        rw [er] at kk
        refine w_aload_n d264_61 rfl ?_
        refine w_dloadS d264_62 (ok.kd hm) (fr1672 ok hm) ?_
        refine w_iload_n d264_65 rfl ?_
        refine w_iconst d264_66 (by decide) ?_
        refine wa1672 d264_67 ok hm (by omega) (by omega) (fun h67 e67 m67 => ?_)
        have e67 : h67 = sAI h (sT S 1672 m) t 3 := e67
        have f67 : Fr S m [1672] _ _ := Fr.wB ok hm m67 (fun ζ e => ⟨1672, by decide, by decide, e ▸ U_refl⟩)
        have ok67 := f67.ok
        have FR67 := Fr.le (F := [1672, 1673]) f67 (by decide)
        have PR := PR.r f67 hm
        have LP := LP.r f67 hm
        refine w_goto d264_68 ?_
        refine w_return d264_136 ?_
        exact kk h67 FR67 (RE_0.w (by decide) (fun i => by rw [e67, sArr]; by_cases q : i = t; rw [if_pos q, if_pos q]; rfl; rw [if_neg q, if_neg q]) (fun i => Or.inr (Or.inl (by decide))) (fun i _ => by rw [f67.ai (by have := kT1673 ok hm; omega) (by decide) (by decide) (by decide)]))
    · have ne : ps.getD 0 0 ≠ qs.getD 0 0 := fun z => c35 (i64cmp.mpr z)
      have er : (rsnW b ps qs) = 2 := by unfold rsnW; rw [if_pos bt_, if_pos ne]
      rw [er] at kk
      refine w_aload_n d264_38 rfl ?_
      refine w_dloadS d264_39 (ok.kd hm) (fr1672 ok hm) ?_
      refine w_iload_n d264_42 rfl ?_
      refine w_iconst d264_43 (by decide) ?_
      refine wa1672 d264_44 ok hm (by omega) (by omega) (fun h44 e44 m44 => ?_)
      have e44 : h44 = sAI h (sT S 1672 m) t 2 := e44
      have f44 : Fr S m [1672] _ _ := Fr.wB ok hm m44 (fun ζ e => ⟨1672, by decide, by decide, e ▸ U_refl⟩)
      have ok44 := f44.ok
      have FR44 := Fr.le (F := [1672, 1673]) f44 (by decide)
      have PR := PR.r f44 hm
      have LP := LP.r f44 hm
      refine w_goto d264_45 ?_
      refine w_return d264_136 ?_
      exact kk h44 FR44 (RE_0.w (by decide) (fun i => by rw [e44, sArr]; by_cases q : i = t; rw [if_pos q, if_pos q]; rfl; rw [if_neg q, if_neg q]) (fun i => Or.inr (Or.inl (by decide))) (fun i _ => by rw [f44.ai (by have := kT1673 ok hm; omega) (by decide) (by decide) (by decide)]))
  · have bf : b = false := by
      cases hz : b with
      | false => rfl
      | true => have := h1b hz; rw [this.1] at c6; omega
    have er : (rsnW b ps qs) = 1 := by unfold rsnW; rw [if_neg (by rw [bf]; decide)]
    rw [er] at kk
    refine w_aload_n d264_9 rfl ?_
    refine w_dloadS d264_10 (ok.kd hm) (fr1672 ok hm) ?_
    refine w_iload_n d264_13 rfl ?_
    refine w_iconst d264_14 (by decide) ?_
    refine wa1672 d264_15 ok hm (by omega) (by omega) (fun h15 e15 m15 => ?_)
    have e15 : h15 = sAI h (sT S 1672 m) t 1 := e15
    have f15 : Fr S m [1672] _ _ := Fr.wB ok hm m15 (fun ζ e => ⟨1672, by decide, by decide, e ▸ U_refl⟩)
    have ok15 := f15.ok
    have FR15 := Fr.le (F := [1672, 1673]) f15 (by decide)
    have PR := PR.r f15 hm
    have LP := LP.r f15 hm
    refine w_goto d264_16 ?_
    refine w_return d264_136 ?_
    exact kk h15 FR15 (RE_0.w (by decide) (fun i => by rw [e15, sArr]; by_cases q : i = t; rw [if_pos q, if_pos q]; rfl; rw [if_neg q, if_neg q]) (fun i => Or.inr (Or.inl (by decide))) (fun i _ => by rw [f15.ai (by have := kT1673 ok hm; omega) (by decide) (by decide) (by decide)]))
theorem rdyB_iff {ts : List (Bool × TgV)} {E : Nat → Nat} {t : Nat} (h6 : (tgI (tD ts t)).length ≤ 6) : rdyB ts E t = true ↔ ∀ i, i < (tgI (tD ts t)).length → inT ts t i < 0 ∨ E (inT ts t i).toNat = 1 := by
  unfold rdyB
  rw [List.all_eq_true]
  constructor
  · intro h i hi
    exact of_decide_eq_true (h i (List.mem_range.mpr (by omega)))
  · intro h i hi
    refine decide_eq_true ?_
    rcases Nat.lt_or_ge i (tgI (tD ts t)).length with z | z
    · exact h i z
    · rw [inT_end z]; exact Or.inl (by decide)
theorem d248_0 : dc 248 0 = some (.iconst 0, 1) := by decide +kernel
theorem d248_1 : dc 248 1 = some (.istore_n 1, 2) := by decide +kernel
theorem d248_2 : dc 248 2 = some (.iload_n 1, 3) := by decide +kernel
theorem d248_3 : dc 248 3 = some (.aload_n 0, 4) := by decide +kernel
theorem d248_4 : dc 248 4 = some (.dload 1665, 7) := by decide +kernel
theorem d248_7 : dc 248 7 = some (.getfield 1417, 10) := by decide +kernel
theorem d248_10 : dc 248 10 = some (.if_icmp .ge ((130 : Nat) : Int), 13) := by decide +kernel
theorem d248_13 : dc 248 13 = some (.aload_n 0, 14) := by decide +kernel
theorem d248_14 : dc 248 14 = some (.getfield 1705, 17) := by decide +kernel
theorem d248_17 : dc 248 17 = some (.iload_n 1, 18) := by decide +kernel
theorem d248_18 : dc 248 18 = some (.ishr, 19) := by decide +kernel
theorem d248_19 : dc 248 19 = some (.iconst 1, 20) := by decide +kernel
theorem d248_20 : dc 248 20 = some (.iand, 21) := by decide +kernel
theorem d248_21 : dc 248 21 = some (.iconst 1, 22) := by decide +kernel
theorem d248_22 : dc 248 22 = some (.if_icmp .ne ((58 : Nat) : Int), 25) := by decide +kernel
theorem d248_25 : dc 248 25 = some (.aload_n 0, 26) := by decide +kernel
theorem d248_26 : dc 248 26 = some (.dload 1707, 29) := by decide +kernel
theorem d248_29 : dc 248 29 = some (.iload_n 1, 30) := by decide +kernel
theorem d248_30 : dc 248 30 = some (.iaload, 31) := by decide +kernel
theorem d248_31 : dc 248 31 = some (.ifCond .ne ((58 : Nat) : Int), 34) := by decide +kernel
theorem d248_34 : dc 248 34 = some (.aload_n 0, 35) := by decide +kernel
theorem d248_35 : dc 248 35 = some (.dload 1713, 38) := by decide +kernel
theorem d248_38 : dc 248 38 = some (.iconst 0, 39) := by decide +kernel
theorem d248_39 : dc 248 39 = some (.iaload, 40) := by decide +kernel
theorem d248_40 : dc 248 40 = some (.iload_n 1, 41) := by decide +kernel
theorem d248_41 : dc 248 41 = some (.if_icmp .eq ((58 : Nat) : Int), 44) := by decide +kernel
theorem d248_44 : dc 248 44 = some (.aload_n 0, 45) := by decide +kernel
theorem d248_45 : dc 248 45 = some (.dload 1713, 48) := by decide +kernel
theorem d248_48 : dc 248 48 = some (.iconst 1, 49) := by decide +kernel
theorem d248_49 : dc 248 49 = some (.iaload, 50) := by decide +kernel
theorem d248_50 : dc 248 50 = some (.iload_n 1, 51) := by decide +kernel
theorem d248_51 : dc 248 51 = some (.if_icmp .eq ((58 : Nat) : Int), 54) := by decide +kernel
theorem d248_54 : dc 248 54 = some (.iconst 1, 55) := by decide +kernel
theorem d248_55 : dc 248 55 = some (.goto ((59 : Nat) : Int), 58) := by decide +kernel
theorem d248_58 : dc 248 58 = some (.iconst 0, 59) := by decide +kernel
theorem d248_59 : dc 248 59 = some (.istore_n 2, 60) := by decide +kernel
theorem d248_60 : dc 248 60 = some (.iconst 0, 61) := by decide +kernel
theorem d248_61 : dc 248 61 = some (.istore_n 3, 62) := by decide +kernel
theorem d248_62 : dc 248 62 = some (.iload_n 3, 63) := by decide +kernel
theorem d248_63 : dc 248 63 = some (.aload_n 0, 64) := by decide +kernel
theorem d248_64 : dc 248 64 = some (.dload 1665, 67) := by decide +kernel
theorem d248_67 : dc 248 67 = some (.dload 1424, 70) := by decide +kernel
theorem d248_70 : dc 248 70 = some (.iload_n 1, 71) := by decide +kernel
theorem d248_71 : dc 248 71 = some (.iaload, 72) := by decide +kernel
theorem d248_72 : dc 248 72 = some (.if_icmp .ge ((118 : Nat) : Int), 75) := by decide +kernel
theorem d248_75 : dc 248 75 = some (.iload_n 2, 76) := by decide +kernel
theorem d248_76 : dc 248 76 = some (.ifCond .eq ((118 : Nat) : Int), 79) := by decide +kernel
theorem d248_79 : dc 248 79 = some (.aload_n 0, 80) := by decide +kernel
theorem d248_80 : dc 248 80 = some (.dload 1665, 83) := by decide +kernel
theorem d248_83 : dc 248 83 = some (.iload_n 1, 84) := by decide +kernel
theorem d248_84 : dc 248 84 = some (.iload_n 3, 85) := by decide +kernel
theorem d248_85 : dc 248 85 = some (.invokevirtual 231, 88) := by decide +kernel
theorem d248_88 : dc 248 88 = some (.istore 4, 90) := by decide +kernel
theorem d248_90 : dc 248 90 = some (.iload 4, 92) := by decide +kernel
theorem d248_92 : dc 248 92 = some (.ifCond .lt ((106 : Nat) : Int), 95) := by decide +kernel
theorem d248_95 : dc 248 95 = some (.aload_n 0, 96) := by decide +kernel
theorem d248_96 : dc 248 96 = some (.dload 1707, 99) := by decide +kernel
theorem d248_99 : dc 248 99 = some (.iload 4, 101) := by decide +kernel
theorem d248_101 : dc 248 101 = some (.iaload, 102) := by decide +kernel
theorem d248_102 : dc 248 102 = some (.iconst 1, 103) := by decide +kernel
theorem d248_103 : dc 248 103 = some (.if_icmp .ne ((110 : Nat) : Int), 106) := by decide +kernel
theorem d248_106 : dc 248 106 = some (.iconst 1, 107) := by decide +kernel
theorem d248_107 : dc 248 107 = some (.goto ((111 : Nat) : Int), 110) := by decide +kernel
theorem d248_110 : dc 248 110 = some (.iconst 0, 111) := by decide +kernel
theorem d248_111 : dc 248 111 = some (.istore_n 2, 112) := by decide +kernel
theorem d248_112 : dc 248 112 = some (.iinc 3 1, 115) := by decide +kernel
theorem d248_115 : dc 248 115 = some (.goto ((62 : Nat) : Int), 118) := by decide +kernel
theorem d248_118 : dc 248 118 = some (.iload_n 2, 119) := by decide +kernel
theorem d248_119 : dc 248 119 = some (.ifCond .eq ((124 : Nat) : Int), 122) := by decide +kernel
theorem d248_122 : dc 248 122 = some (.iload_n 1, 123) := by decide +kernel
theorem d248_123 : dc 248 123 = some (.ireturn, 124) := by decide +kernel
theorem d248_124 : dc 248 124 = some (.iinc 1 1, 127) := by decide +kernel
theorem d248_127 : dc 248 127 = some (.goto ((2 : Nat) : Int), 130) := by decide +kernel
theorem d248_130 : dc 248 130 = some (.iconst (-1), 131) := by decide +kernel
theorem d248_131 : dc 248 131 = some (.ireturn, 132) := by decide +kernel
theorem k_M_takeable {S : Shp} {G : Nat → Option Nat} {d : Nat} {h : Hp} {Q : Option MV → Hp → Prop} {m : Nat} {P0 : PlV} {E nd : Nat → Nat} {H : Nat → Int} {nn : Nat} (ok : Ok S h) (h1 : 3 ≤ d) (hm : sK S m = 14) (TF : DfC S h (sT S 1665 m) P0) (ST : ArI S h m 1707 (fun t => ((E t : Nat) : Int)) 14) (HA : ArI S h m 1713 H 2) (NE : NeR h m nn) (hN : ∀ u, u < P0.2.2.length → (bt nn u ↔ nd u = 1)) (hH : ∀ u, u < P0.2.2.length → nd u = 1 → tH P0.2.2 u = true)
    (kk : Q (some (vI (chs P0.2.2 nd E H))) h) : Cl G d 248 [vR (some m)] h Q := by
  show Wp G d 248 0 [some (vR (some m)), none, none, none, none] [] h Q
  have TF_0 := TF
  have ST_0 := ST
  have HA_0 := HA
  have NE_0 := NE
  have htl := TF.2.2.2.1
  have hd0 := kT1665 ok hm
  have nl := NE.2
  refine w_iconst d248_0 (by decide) ?_
  refine w_istore1 d248_1 rfl ?_
  have L2 : ∀ (m2 : Nat) (t : Nat), P0.2.2.length - t = m2 → (srF (mayB P0.2.2 nd E H) P0.2.2.length t = chs P0.2.2 nd E H) → Wp G d 248 2 [some (vR (some m)), some (vI (t : Nat)), none, none, none] [] h Q := by
    intro m2
    induction m2 using Nat.strongRecOn with | ind m2 IH2 => ?_
    intro t hm2 hp
    refine w_iload_n d248_2 rfl ?_
    refine w_aload_n d248_3 rfl ?_
    refine w_dloadS d248_4 (ok.kd hm) (fr1665 ok hm) ?_
    refine w_getI (x := ((P0.2.2.length : Nat) : Int)) d248_7 (ok.kd (kT1665 ok hm)) TF.2.2.1 ?_
    refine w_icmpge d248_10 (fun c10 => ?_) (fun c10 => ?_)
    · rw [srF_end (by omega)] at hp
      rw [← hp] at kk
      refine w_iconst d248_130 (by decide) ?_
      refine w_ireturn d248_131 ?_
      exact kk
    · have ht : t < P0.2.2.length := by omega
      have t14 : t < 14 := by omega
      have h6 := (TF.2.2.2.2 t ht).2.2.2.2.2.2.2.2.2.2.1
      refine w_aload_n d248_13 rfl ?_
      refine w_getI (x := ((nn : Nat) : Int)) d248_14 (ok.kd hm) NE.1 ?_
      refine w_iload_n d248_17 rfl ?_
      refine w_ishr d248_18 ?_
      rw [shr_n (n := nn) (u := t) (by omega) (by omega)]
      refine w_iconst d248_19 (by decide) ?_
      refine w_iand d248_20 ?_
      rw [and_1 (a := nn / 2 ^ t) (div_lt (by omega))]
      refine w_iconst d248_21 (by decide) ?_
      have L59 : ∀ (m59 : Nat) (b0 : Bool), 0 = m59 → (b0 = true ↔ (nd t = 1 ∧ E t = 0 ∧ H 0 ≠ t ∧ H 1 ≠ t)) → Wp G d 248 59 [some (vR (some m)), some (vI (t : Nat)), none, none, none] [vI (b2i b0)] h Q := by
        intro m59
        induction m59 using Nat.strongRecOn with | ind m59 IH59 => ?_
        intro b0 hm59 hb0
        refine w_istore2 d248_59 rfl ?_
        refine w_iconst d248_60 (by decide) ?_
        refine w_istore3 d248_61 rfl ?_
        have L62 : ∀ (m62 : Nat) (k : Nat) (b : Bool), (tgI (tD P0.2.2 t)).length - k = m62 → (k ≤ (tgI (tD P0.2.2 t)).length) → ((b = true → (nd t = 1 ∧ E t = 0 ∧ H 0 ≠ t ∧ H 1 ≠ t) ∧ ∀ i, i < k → inT P0.2.2 t i < 0 ∨ E (inT P0.2.2 t i).toNat = 1) ∧ (b = false → ¬ ((nd t = 1 ∧ E t = 0 ∧ H 0 ≠ t ∧ H 1 ≠ t) ∧ ∀ i, i < (tgI (tD P0.2.2 t)).length → inT P0.2.2 t i < 0 ∨ E (inT P0.2.2 t i).toNat = 1))) → Wp G d 248 62 [some (vR (some m)), some (vI (t : Nat)), some (vI (b2i b)), some (vI (k : Nat)), none] [] h Q := by
          intro m62
          induction m62 using Nat.strongRecOn with | ind m62 IH62 => ?_
          intro k b hm62 kl hb
          refine w_iload_n d248_62 rfl ?_
          refine w_aload_n d248_63 rfl ?_
          refine w_dloadS d248_64 (ok.kd hm) (fr1665 ok hm) ?_
          refine w_dloadS d248_67 (ok.kd (kT1665 ok hm)) (fr1424 ok (kT1665 ok hm)) ?_
          refine w_iload_n d248_70 rfl ?_
          refine w_ialoadV (x := ((tgI (tD P0.2.2 t)).length : Int)) d248_71 (gi1424 ok (kT1665 ok hm) (by omega)) (TF.2.2.2.2 t ht).2.2.2.2.2.2.2.2.2.1 ?_
          refine w_icmpge d248_72 (fun c72 => ?_) (fun c72 => ?_)
          · have ek : k = (tgI (tD P0.2.2 t)).length := by omega
            refine w_iload_n d248_118 rfl ?_
            refine w_ifeq d248_119 (fun c119 => ?_) (fun c119 => ?_)
            · have bf2 : b = false := by
                cases hz : b with
                | true => rw [hz] at c119; exact absurd c119 (by decide)
                | false => rfl
              have mf : mayB P0.2.2 nd E H t = false := by
                unfold mayB
                exact decide_eq_false (fun z => hb.2 bf2 ⟨⟨z.1, z.2.1, z.2.2.1, z.2.2.2.1⟩, (rdyB_iff h6).mp z.2.2.2.2⟩)
              rw [srF_no ht mf] at hp
              refine w_iinc1 d248_124 rfl (by constructor <;> omega) ?_
              refine w_goto d248_127 ?_
              rw [show ((t : Nat) : Int) + 1 = ((t + 1 : Nat) : Int) by omega]
              refine w_less ?_ (IH2 _ (by omega) (t + 1) rfl hp)
              exact ⟨Or.inr rfl, Or.inr rfl, Or.inl rfl, Or.inl rfl, Or.inl rfl, trivial⟩
            · have bt2 : b = true := by
                cases hz : b with
                | true => rfl
                | false => rw [hz] at c119; exact absurd rfl c119
              have mt : mayB P0.2.2 nd E H t = true := by
                unfold mayB
                have y0 := (hb.1 bt2).1
                exact decide_eq_true ⟨y0.1, y0.2.1, y0.2.2.1, y0.2.2.2, (rdyB_iff h6).mpr (fun i hi => (hb.1 bt2).2 i (by first | omega | (rw [bf] at bt2; exact absurd bt2 (by decide))))⟩
              rw [srF_yes ht mt] at hp
              rw [← hp] at kk
              refine w_iload_n d248_122 rfl ?_
              refine w_ireturn d248_123 ?_
              exact kk
          · have hk : k < (tgI (tD P0.2.2 t)).length := by omega
            refine w_iload_n d248_75 rfl ?_
            refine w_ifeq d248_76 (fun c76 => ?_) (fun c76 => ?_)
            · have bf : b = false := by
                cases hz : b with
                | true => rw [hz] at c76; exact absurd c76 (by decide)
                | false => rfl
              refine w_iload_n d248_118 rfl ?_
              refine w_ifeq d248_119 (fun c119 => ?_) (fun c119 => ?_)
              · have bf2 : b = false := by
                  cases hz : b with
                  | true => rw [hz] at c119; exact absurd c119 (by decide)
                  | false => rfl
                have mf : mayB P0.2.2 nd E H t = false := by
                  unfold mayB
                  exact decide_eq_false (fun z => hb.2 bf2 ⟨⟨z.1, z.2.1, z.2.2.1, z.2.2.2.1⟩, (rdyB_iff h6).mp z.2.2.2.2⟩)
                rw [srF_no ht mf] at hp
                refine w_iinc1 d248_124 rfl (by constructor <;> omega) ?_
                refine w_goto d248_127 ?_
                rw [show ((t : Nat) : Int) + 1 = ((t + 1 : Nat) : Int) by omega]
                refine w_less ?_ (IH2 _ (by omega) (t + 1) rfl hp)
                exact ⟨Or.inr rfl, Or.inr rfl, Or.inl rfl, Or.inl rfl, Or.inl rfl, trivial⟩
              · have bt2 : b = true := by
                  cases hz : b with
                  | true => rfl
                  | false => rw [hz] at c119; exact absurd rfl c119
                have mt : mayB P0.2.2 nd E H t = true := by
                  unfold mayB
                  have y0 := (hb.1 bt2).1
                  exact decide_eq_true ⟨y0.1, y0.2.1, y0.2.2.1, y0.2.2.2, (rdyB_iff h6).mpr (fun i hi => (hb.1 bt2).2 i (by first | omega | (rw [bf] at bt2; exact absurd bt2 (by decide))))⟩
                rw [srF_yes ht mt] at hp
                rw [← hp] at kk
                refine w_iload_n d248_122 rfl ?_
                refine w_ireturn d248_123 ?_
                exact kk
            · have bt_ : b = true := by
                cases hz : b with
                | true => rfl
                | false => rw [hz] at c76; exact absurd rfl c76
              have y0 := (hb.1 bt_).1
              have tHt := hH t ht y0.1
              have te := taT_in tHt ht hk
              have tr := inT_rg P0.2.2 t k
              refine w_aload_n d248_79 rfl ?_
              refine w_dloadS d248_80 (ok.kd hm) (fr1665 ok hm) ?_
              refine w_iload_n d248_83 rfl ?_
              refine w_iload_n d248_84 rfl ?_
              refine w_callv3 d248_85 (by omega) rfl (ok.kd (kT1665 ok hm)) (by simp) (Nat.le_of_ble_eq_true rfl) ?_
              refine k_D_targetAt ok (by omega) (kT1665 ok hm) TF.2.2 ht hk ?_
              refine w_istore4 d248_88 rfl ?_
              refine w_iload d248_90 rfl ?_
              refine w_iflt d248_92 (fun c92 => ?_) (fun c92 => ?_)
              · have gk : inT P0.2.2 t k < 0 ∨ E (inT P0.2.2 t k).toNat = 1 := Or.inl (by omega)
                refine w_iconst d248_106 (by decide) ?_
                refine w_goto d248_107 ?_
                refine w_istore2 d248_111 rfl ?_
                refine w_iinc3 d248_112 rfl (by constructor <;> omega) ?_
                refine w_goto d248_115 ?_
                rw [show ((k : Nat) : Int) + 1 = ((k + 1 : Nat) : Int) by omega]
                refine w_less ?_ (IH62 _ (by omega) (k + 1) true rfl (by omega) ⟨fun _ => ⟨y0, fun i hi => by rcases Nat.lt_or_ge i k with x | x; exact (hb.1 bt_).2 i x; rw [show i = k by omega]; exact gk⟩, fun z => absurd z (by decide)⟩)
                exact ⟨Or.inr rfl, Or.inr rfl, Or.inr rfl, Or.inr rfl, Or.inl rfl, trivial⟩
              · obtain ⟨u, hu⟩ : ∃ u : Nat, inT P0.2.2 t k = (u : Int) := ⟨(inT P0.2.2 t k).toNat, by omega⟩
                rw [te, hu]
                refine w_aload_n d248_95 rfl ?_
                refine w_dloadS d248_96 (ok.kd hm) (fr1707 ok hm) ?_
                refine w_iload d248_99 rfl ?_
                refine w_ialoadV (x := ((E u : Nat) : Int)) d248_101 (gi1707 ok hm (by omega)) (ST u (by omega)) ?_
                refine w_iconst d248_102 (by decide) ?_
                refine w_icmpne d248_103 (fun c103 => ?_) (fun c103 => ?_)
                · have nk : ¬ (inT P0.2.2 t k < 0 ∨ E (inT P0.2.2 t k).toNat = 1) := fun z => by rw [hu, Int.toNat_natCast] at z; omega
                  refine w_iconst d248_110 (by decide) ?_
                  refine w_istore2 d248_111 rfl ?_
                  refine w_iinc3 d248_112 rfl (by constructor <;> omega) ?_
                  refine w_goto d248_115 ?_
                  rw [show ((k : Nat) : Int) + 1 = ((k + 1 : Nat) : Int) by omega]
                  refine w_less ?_ (IH62 _ (by omega) (k + 1) false rfl (by omega) ⟨fun z => absurd z (by decide), fun _ y => nk (y.2 k hk)⟩)
                  exact ⟨Or.inr rfl, Or.inr rfl, Or.inr rfl, Or.inr rfl, Or.inl rfl, trivial⟩
                · have gk : inT P0.2.2 t k < 0 ∨ E (inT P0.2.2 t k).toNat = 1 := Or.inr (by rw [hu, Int.toNat_natCast]; omega)
                  refine w_iconst d248_106 (by decide) ?_
                  refine w_goto d248_107 ?_
                  refine w_istore2 d248_111 rfl ?_
                  refine w_iinc3 d248_112 rfl (by constructor <;> omega) ?_
                  refine w_goto d248_115 ?_
                  rw [show ((k : Nat) : Int) + 1 = ((k + 1 : Nat) : Int) by omega]
                  refine w_less ?_ (IH62 _ (by omega) (k + 1) true rfl (by omega) ⟨fun _ => ⟨y0, fun i hi => by rcases Nat.lt_or_ge i k with x | x; exact (hb.1 bt_).2 i x; rw [show i = k by omega]; exact gk⟩, fun z => absurd z (by decide)⟩)
                  exact ⟨Or.inr rfl, Or.inr rfl, Or.inr rfl, Or.inr rfl, Or.inl rfl, trivial⟩
        refine w_less ?_ (L62 _ 0 b0 rfl (Nat.zero_le _) ⟨fun z => ⟨hb0.mp z, fun i hi => absurd hi (Nat.not_lt_zero _)⟩, fun z y => by rw [hb0.mpr y.1] at z; exact absurd z (by decide)⟩)
        exact ⟨Or.inr rfl, Or.inr rfl, Or.inr rfl, Or.inr rfl, Or.inl rfl, trivial⟩
      refine w_icmpne d248_22 (fun c22 => ?_) (fun c22 => ?_)
      · have no0 : ¬ (nd t = 1 ∧ E t = 0 ∧ H 0 ≠ t ∧ H 1 ≠ t) := fun z => by have := (hN t ht).mpr z.1; unfold bt at this; omega
        refine w_iconst d248_58 (by decide) ?_
        refine w_less ?_ (L59 _ false rfl ⟨fun z => absurd z (by decide), fun z => absurd z no0⟩)
        exact ⟨Or.inr rfl, Or.inr rfl, Or.inl rfl, Or.inl rfl, Or.inl rfl, trivial⟩
      · have y1 : nd t = 1 := (hN t ht).mp (by unfold bt; omega)
        refine w_aload_n d248_25 rfl ?_
        refine w_dloadS d248_26 (ok.kd hm) (fr1707 ok hm) ?_
        refine w_iload_n d248_29 rfl ?_
        refine w_ialoadV (x := ((E t : Nat) : Int)) d248_30 (gi1707 ok hm (by omega)) (ST t t14) ?_
        refine w_ifne d248_31 (fun c31 => ?_) (fun c31 => ?_)
        · have no0 : ¬ (nd t = 1 ∧ E t = 0 ∧ H 0 ≠ t ∧ H 1 ≠ t) := fun z => by have := z.2.1; omega
          refine w_iconst d248_58 (by decide) ?_
          refine w_less ?_ (L59 _ false rfl ⟨fun z => absurd z (by decide), fun z => absurd z no0⟩)
          exact ⟨Or.inr rfl, Or.inr rfl, Or.inl rfl, Or.inl rfl, Or.inl rfl, trivial⟩
        · refine w_aload_n d248_34 rfl ?_
          refine w_dloadS d248_35 (ok.kd hm) (fr1713 ok hm) ?_
          refine w_iconst d248_38 (by decide) ?_
          refine w_ialoadV (x := (H 0)) d248_39 (gi1713 ok hm (by omega)) (HA 0 (by decide)) ?_
          refine w_iload_n d248_40 rfl ?_
          refine w_icmpeq d248_41 (fun c41 => ?_) (fun c41 => ?_)
          · have no0 : ¬ (nd t = 1 ∧ E t = 0 ∧ H 0 ≠ t ∧ H 1 ≠ t) := fun z => z.2.2.1 (by omega)
            refine w_iconst d248_58 (by decide) ?_
            refine w_less ?_ (L59 _ false rfl ⟨fun z => absurd z (by decide), fun z => absurd z no0⟩)
            exact ⟨Or.inr rfl, Or.inr rfl, Or.inl rfl, Or.inl rfl, Or.inl rfl, trivial⟩
          · refine w_aload_n d248_44 rfl ?_
            refine w_dloadS d248_45 (ok.kd hm) (fr1713 ok hm) ?_
            refine w_iconst d248_48 (by decide) ?_
            refine w_ialoadV (x := (H 1)) d248_49 (gi1713 ok hm (by omega)) (HA 1 (by decide)) ?_
            refine w_iload_n d248_50 rfl ?_
            refine w_icmpeq d248_51 (fun c51 => ?_) (fun c51 => ?_)
            · have no0 : ¬ (nd t = 1 ∧ E t = 0 ∧ H 0 ≠ t ∧ H 1 ≠ t) := fun z => z.2.2.2 (by omega)
              refine w_iconst d248_58 (by decide) ?_
              refine w_less ?_ (L59 _ false rfl ⟨fun z => absurd z (by decide), fun z => absurd z no0⟩)
              exact ⟨Or.inr rfl, Or.inr rfl, Or.inl rfl, Or.inl rfl, Or.inl rfl, trivial⟩
            · have yes0 : (nd t = 1 ∧ E t = 0 ∧ H 0 ≠ t ∧ H 1 ≠ t) := ⟨y1, by omega, by omega, by omega⟩
              refine w_iconst d248_54 (by decide) ?_
              refine w_goto d248_55 ?_
              refine w_less ?_ (L59 _ true rfl ⟨fun _ => yes0, fun _ => rfl⟩)
              exact ⟨Or.inr rfl, Or.inr rfl, Or.inl rfl, Or.inl rfl, Or.inl rfl, trivial⟩
  refine w_less ?_ (L2 _ 0 rfl rfl)
  exact ⟨Or.inr rfl, Or.inr rfl, Or.inl rfl, Or.inl rfl, Or.inl rfl, trivial⟩
