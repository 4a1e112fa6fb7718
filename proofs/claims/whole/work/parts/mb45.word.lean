/-! the reference: a request's first word -/
/-- where the words stand -/
def mwP : List Nat := [0, 6, 10, 15, 20, 27, 32, 38, 41, 46, 54, 59, 64, 71, 77, 82, 90, 97, 102, 106, 111, 116, 121, 127, 133, 137, 145, 150, 158, 164, 170, 176, 183, 192, 196, 201]
def mwd (w : Nat) : List Nat := sl (txt 41) (mwP.getD w 0) (mwP.getD (w + 1) 0 - 1)
theorem mwP_go : ∀ w : Fin 35, idxF (txt 41) 32 (txt 41).length (mwP.getD w.val 0) = ((mwP.getD (w.val + 1) 0 : Nat) : Int) - 1 ∧ mwP.getD w.val 0 < 201 ∧ mwP.getD (w.val + 1) 0 ≤ 201 ∧ mwP.getD w.val 0 + (mwd w.val).length + 1 = mwP.getD (w.val + 1) 0 := by decide +kernel
theorem txt41 : (txt 41).length = 201 := by decide +kernel
theorem mw_at {w i : Nat} (hw : w < 35) (hi : i < (mwd w).length) : (txt 41).getD (mwP.getD w 0 + i) 0 = (mwd w).getD i 0 := by
  have g := mwP_go ⟨w, hw⟩
  have g3 : mwP.getD w 0 + (mwd w).length + 1 = mwP.getD (w + 1) 0 := g.2.2.2
  unfold mwd at hi g3 ⊢
  exact (sl_gd (by omega)).symm
/-- after w words: the word that stands there, and how far signs are right -/
def fwS (l : List Nat) : Nat → Int × Nat
  | 0 => (-1, 0)
  | w + 1 => (if (fwS l w).2 < cpl (mwd w) l ∨ cpl (mwd w) l = (mwd w).length ∧ cpl (mwd w) l = (fwS l w).2 then (if cpl (mwd w) l = (mwd w).length then (w : Int) else -1) else (fwS l w).1, if (fwS l w).2 < cpl (mwd w) l then cpl (mwd w) l else (fwS l w).2)
theorem fwS_rg {l : List Nat} : ∀ {w : Nat}, -1 ≤ (fwS l w).1 ∧ (fwS l w).1 < w + 1 ∧ (fwS l w).2 ≤ l.length
  | 0 => ⟨Int.le_refl _, by show (-1 : Int) < _; omega, Nat.zero_le _⟩
  | w + 1 => by
    have := @fwS_rg l w
    have c := cpl_le (mwd w) l
    rw [fwS]
    refine ⟨?_, ?_, ?_⟩
    · dsimp only
      split
      · split <;> omega
      · omega
    · dsimp only
      split
      · split <;> omega
      · omega
    · dsimp only
      split <;> omega
theorem d198_0 : dc 198 0 = some (.aload_n 0, 1) := by decide +kernel
theorem d198_1 : dc 198 1 = some (.iconst (-1), 2) := by decide +kernel
theorem d198_2 : dc 198 2 = some (.putfield 1739, 5) := by decide +kernel
theorem d198_5 : dc 198 5 = some (.aload_n 0, 6) := by decide +kernel
theorem d198_6 : dc 198 6 = some (.iconst 0, 7) := by decide +kernel
theorem d198_7 : dc 198 7 = some (.putfield 1740, 10) := by decide +kernel
theorem d198_10 : dc 198 10 = some (.iconst 0, 11) := by decide +kernel
theorem d198_11 : dc 198 11 = some (.istore_n 1, 12) := by decide +kernel
theorem d198_12 : dc 198 12 = some (.iconst 0, 13) := by decide +kernel
theorem d198_13 : dc 198 13 = some (.istore_n 2, 14) := by decide +kernel
theorem d198_14 : dc 198 14 = some (.iload_n 1, 15) := by decide +kernel
theorem d198_15 : dc 198 15 = some (.getstatic 91, 18) := by decide +kernel
theorem d198_18 : dc 198 18 = some (.invokevirtual 21, 21) := by decide +kernel
theorem d198_21 : dc 198 21 = some (.if_icmp .ge ((164 : Nat) : Int), 24) := by decide +kernel
theorem d198_24 : dc 198 24 = some (.getstatic 91, 27) := by decide +kernel
theorem d198_27 : dc 198 27 = some (.bipush 32, 29) := by decide +kernel
theorem d198_29 : dc 198 29 = some (.iload_n 1, 30) := by decide +kernel
theorem d198_30 : dc 198 30 = some (.invokevirtual 199, 33) := by decide +kernel
theorem d198_33 : dc 198 33 = some (.istore_n 3, 34) := by decide +kernel
theorem d198_34 : dc 198 34 = some (.iconst 0, 35) := by decide +kernel
theorem d198_35 : dc 198 35 = some (.istore 4, 37) := by decide +kernel
theorem d198_37 : dc 198 37 = some (.iload_n 1, 38) := by decide +kernel
theorem d198_38 : dc 198 38 = some (.iload 4, 40) := by decide +kernel
theorem d198_40 : dc 198 40 = some (.iadd, 41) := by decide +kernel
theorem d198_41 : dc 198 41 = some (.iload_n 3, 42) := by decide +kernel
theorem d198_42 : dc 198 42 = some (.if_icmp .ge ((80 : Nat) : Int), 45) := by decide +kernel
theorem d198_45 : dc 198 45 = some (.iload 4, 47) := by decide +kernel
theorem d198_47 : dc 198 47 = some (.aload_n 0, 48) := by decide +kernel
theorem d198_48 : dc 198 48 = some (.getfield 1731, 51) := by decide +kernel
theorem d198_51 : dc 198 51 = some (.if_icmp .ge ((80 : Nat) : Int), 54) := by decide +kernel
theorem d198_54 : dc 198 54 = some (.aload_n 0, 55) := by decide +kernel
theorem d198_55 : dc 198 55 = some (.dload 1730, 58) := by decide +kernel
theorem d198_58 : dc 198 58 = some (.iload 4, 60) := by decide +kernel
theorem d198_60 : dc 198 60 = some (.iaload, 61) := by decide +kernel
theorem d198_61 : dc 198 61 = some (.getstatic 91, 64) := by decide +kernel
theorem d198_64 : dc 198 64 = some (.iload_n 1, 65) := by decide +kernel
theorem d198_65 : dc 198 65 = some (.iload 4, 67) := by decide +kernel
theorem d198_67 : dc 198 67 = some (.iadd, 68) := by decide +kernel
theorem d198_68 : dc 198 68 = some (.invokevirtual 24, 71) := by decide +kernel
theorem d198_71 : dc 198 71 = some (.if_icmp .ne ((80 : Nat) : Int), 74) := by decide +kernel
theorem d198_74 : dc 198 74 = some (.iinc 4 1, 77) := by decide +kernel
theorem d198_77 : dc 198 77 = some (.goto ((37 : Nat) : Int), 80) := by decide +kernel
theorem d198_80 : dc 198 80 = some (.iload_n 1, 81) := by decide +kernel
theorem d198_81 : dc 198 81 = some (.iload 4, 83) := by decide +kernel
theorem d198_83 : dc 198 83 = some (.iadd, 84) := by decide +kernel
theorem d198_84 : dc 198 84 = some (.iload_n 3, 85) := by decide +kernel
theorem d198_85 : dc 198 85 = some (.if_icmp .ne ((92 : Nat) : Int), 88) := by decide +kernel
theorem d198_88 : dc 198 88 = some (.iconst 1, 89) := by decide +kernel
theorem d198_89 : dc 198 89 = some (.goto ((93 : Nat) : Int), 92) := by decide +kernel
theorem d198_92 : dc 198 92 = some (.iconst 0, 93) := by decide +kernel
theorem d198_93 : dc 198 93 = some (.istore 5, 95) := by decide +kernel
theorem d198_95 : dc 198 95 = some (.iload 4, 97) := by decide +kernel
theorem d198_97 : dc 198 97 = some (.aload_n 0, 98) := by decide +kernel
theorem d198_98 : dc 198 98 = some (.getfield 1740, 101) := by decide +kernel
theorem d198_101 : dc 198 101 = some (.if_icmp .gt ((118 : Nat) : Int), 104) := by decide +kernel
theorem d198_104 : dc 198 104 = some (.iload 5, 106) := by decide +kernel
theorem d198_106 : dc 198 106 = some (.ifCond .eq ((132 : Nat) : Int), 109) := by decide +kernel
theorem d198_109 : dc 198 109 = some (.iload 4, 111) := by decide +kernel
theorem d198_111 : dc 198 111 = some (.aload_n 0, 112) := by decide +kernel
theorem d198_112 : dc 198 112 = some (.getfield 1740, 115) := by decide +kernel
theorem d198_115 : dc 198 115 = some (.if_icmp .ne ((132 : Nat) : Int), 118) := by decide +kernel
theorem d198_118 : dc 198 118 = some (.aload_n 0, 119) := by decide +kernel
theorem d198_119 : dc 198 119 = some (.iload 5, 121) := by decide +kernel
theorem d198_121 : dc 198 121 = some (.ifCond .eq ((128 : Nat) : Int), 124) := by decide +kernel
theorem d198_124 : dc 198 124 = some (.iload_n 2, 125) := by decide +kernel
theorem d198_125 : dc 198 125 = some (.goto ((129 : Nat) : Int), 128) := by decide +kernel
theorem d198_128 : dc 198 128 = some (.iconst (-1), 129) := by decide +kernel
theorem d198_129 : dc 198 129 = some (.putfield 1739, 132) := by decide +kernel
theorem d198_132 : dc 198 132 = some (.aload_n 0, 133) := by decide +kernel
theorem d198_133 : dc 198 133 = some (.iload 4, 135) := by decide +kernel
theorem d198_135 : dc 198 135 = some (.aload_n 0, 136) := by decide +kernel
theorem d198_136 : dc 198 136 = some (.getfield 1740, 139) := by decide +kernel
theorem d198_139 : dc 198 139 = some (.if_icmp .le ((147 : Nat) : Int), 142) := by decide +kernel
theorem d198_142 : dc 198 142 = some (.iload 4, 144) := by decide +kernel
theorem d198_144 : dc 198 144 = some (.goto ((151 : Nat) : Int), 147) := by decide +kernel
theorem d198_147 : dc 198 147 = some (.aload_n 0, 148) := by decide +kernel
theorem d198_148 : dc 198 148 = some (.getfield 1740, 151) := by decide +kernel
theorem d198_151 : dc 198 151 = some (.putfield 1740, 154) := by decide +kernel
theorem d198_154 : dc 198 154 = some (.iload_n 3, 155) := by decide +kernel
theorem d198_155 : dc 198 155 = some (.iconst 1, 156) := by decide +kernel
theorem d198_156 : dc 198 156 = some (.iadd, 157) := by decide +kernel
theorem d198_157 : dc 198 157 = some (.istore_n 1, 158) := by decide +kernel
theorem d198_158 : dc 198 158 = some (.iinc 2 1, 161) := by decide +kernel
theorem d198_161 : dc 198 161 = some (.goto ((14 : Nat) : Int), 164) := by decide +kernel
theorem d198_164 : dc 198 164 = some (.return_, 165) := by decide +kernel
theorem k_M_findWord {S : Shp} {G : Nat → Option Nat} {d : Nat} {h : Hp} {Q : Option MV → Hp → Prop} {m : Nat} {l : List Nat} {a : Nat} {w0 : Int} (ok : Ok S h) (h1 : 8 ≤ d) (hm : sK S m = 14) (RQ : RqR S h m l) (PW : PwR h m a w0) (tg : Tg S G)
    (kk : ∀ h', Fr S m [1739, 1740] h h' → RqR S h' m l → PwR h' m (fwS l 35).2 w0 → FI h' 1739 m = (fwS l 35).1 → Q none h') : Cl G d 198 [vR (some m)] h Q := by
  show Wp G d 198 0 [some (vR (some m)), none, none, none, none, none] [] h Q
  have RQ_0 := RQ
  have PW_0 := PW
  refine w_aload_n d198_0 rfl ?_
  refine w_iconst d198_1 (by decide) ?_
  refine wf1739 d198_2 ok hm (by omega) (fun h2 e2 m2 => ?_)
  have f2 : Fr S m [1739] _ _ := Fr.wF ok m2 (FK.pI e2)
  have ok2 := f2.ok
  have FR2 := Fr.le (F := [1739, 1740]) f2 (by decide)
  have RQ := RQ.r f2 hm
  have PW := PW.r f2 hm
  have KI : FI h2 1739 m = (fwS l 0).1 := by rw [e2, FI_sFI, if_pos ⟨rfl, rfl⟩]; rfl
  refine w_aload_n d198_5 rfl ?_
  refine w_iconst d198_6 (by decide) ?_
  refine wf1740 d198_7 ok2 hm (by omega) (fun h7 e7 m7 => ?_)
  have f7 : Fr S m [1740] _ _ := Fr.wF ok2 m7 (FK.pI e7)
  have ok7 := f7.ok
  have FR7 := Fr.tr (F := [1739, 1740]) FR2 f7 (by decide) (by decide)
  have RQ := RQ.r f7 hm
  have KI := (f7.i 1739).trans KI
  have PW : PwR h7 m (fwS l 0).2 w0 := ⟨by rw [e7, FI_sFI, if_pos ⟨rfl, rfl⟩]; rfl, (f7.i 1738 (by decide)).trans PW.2⟩
  refine w_iconst d198_10 (by decide) ?_
  refine w_istore1 d198_11 rfl ?_
  refine w_iconst d198_12 (by decide) ?_
  refine w_istore2 d198_13 rfl ?_
  have L14 : ∀ (m14 : Nat) (g : Hp) (w : Nat), 35 - w = m14 → Fr S m [1739, 1740] h g → (w ≤ 35) → (PwR g m (fwS l w).2 w0) → (FI g 1739 m = (fwS l w).1) → Wp G d 198 14 [some (vR (some m)), some (vI (mwP.getD w 0 : Nat)), some (vI (w : Nat)), none, none, none] [] g Q := by
    intro m14
    induction m14 using Nat.strongRecOn with | ind m14 IH14 => ?_
    intro g w hm14 FRg wl PW KI
    have okg := FRg.ok
    have RQ := RQ_0.r FRg hm
    refine w_iload_n d198_14 rfl ?_
    obtain ⟨g15, v15, s15⟩ := tg.al okg 41 (by decide)
    refine w_getstaticS d198_15 v15 ?_
    refine w_callv1 d198_18 (by omega) rfl (s15 _ okg).1 (by simp) (Nat.le_of_ble_eq_true rfl) ?_
    refine c_Str_length (by omega) (s15 _ okg) ?_
    rw [txt41]
    refine w_icmpge d198_21 (fun c21 => ?_) (fun c21 => ?_)
    · have ew : w = 35 := by
        rcases Nat.lt_or_ge w 35 with z | z
        · have := (mwP_go ⟨w, z⟩).2.1
          exact absurd c21 (by show ¬ ((201 : Int) ≤ ((mwP.getD w 0 : Nat) : Int)); have h2 : mwP.getD w 0 < 201 := this; omega)
        · omega
      rw [ew] at PW KI
      refine w_return d198_164 ?_
      exact kk g FRg RQ PW KI
    · have hw : w < 35 := by
        rcases Nat.lt_or_ge w 35 with z | z
        · exact z
        · have e35 : w = 35 := by omega
          rw [e35] at c21
          exact absurd c21 (by decide)
      obtain ⟨q1, q2, q3, q4⟩ := mwP_go ⟨w, hw⟩
      change idxF (txt 41) 32 (txt 41).length (mwP.getD w 0) = ((mwP.getD (w + 1) 0 : Nat) : Int) - 1 at q1
      change mwP.getD w 0 < 201 at q2
      change mwP.getD (w + 1) 0 ≤ 201 at q3
      change mwP.getD w 0 + (mwd w).length + 1 = mwP.getD (w + 1) 0 at q4
      have cl := cpl_le (mwd w) l
      have fr := @fwS_rg l w
      have l9 := RQ.2.1
      obtain ⟨g24, v24, s24⟩ := tg.al okg 41 (by decide)
      refine w_getstaticS d198_24 v24 ?_
      refine w_bipush d198_27 (by decide) ?_
      refine w_iload_n d198_29 rfl ?_
      refine w_callv3 d198_30 (by omega) rfl (s24 _ okg).1 (by simp) (Nat.le_of_ble_eq_true rfl) ?_
      refine c_Str_indexOf (c := 32) (f := mwP.getD w 0) (by omega) (by omega) (s24 _ okg) ?_
      rw [q1]
      rw [show ((mwP.getD (w + 1) 0 : Nat) : Int) - 1 = ((mwP.getD w 0 + (mwd w).length : Nat) : Int) by omega]
      refine w_istore3 d198_33 rfl ?_
      have L80 : ∀ (m80 : Nat) (n : Nat), 0 = m80 → ((cpl (mwd w) l) = n) → Wp G d 198 80 [some (vR (some m)), some (vI (mwP.getD w 0 : Nat)), some (vI (w : Nat)), some (vI (mwP.getD w 0 + (mwd w).length : Nat)), some (vI (n : Nat)), none] [] g Q := by
        intro m80
        induction m80 using Nat.strongRecOn with | ind m80 IH80 => ?_
        intro n hm80 en
        refine w_iload_n d198_80 rfl ?_
        refine w_iload d198_81 rfl ?_
        refine w_iadd d198_83 (by constructor <;> omega) ?_
        refine w_iload_n d198_84 rfl ?_
        refine w_icmpne d198_85 (fun c85 => ?_) (fun c85 => ?_)
        · have nwh : ¬ (cpl (mwd w) l) = (mwd w).length := by omega
          refine w_iconst d198_92 (by decide) ?_
          refine w_istore5 d198_93 rfl ?_
          refine w_iload d198_95 rfl ?_
          refine w_aload_n d198_97 rfl ?_
          refine w_getI (x := (((fwS l w).2 : Nat) : Int)) d198_98 (okg.kd hm) PW.1 ?_
          refine w_icmpgt d198_101 (fun c101 => ?_) (fun c101 => ?_)
          · have gt : (fwS l w).2 < (cpl (mwd w) l) := by omega
            refine w_aload_n d198_118 rfl ?_
            refine w_iload d198_119 rfl ?_
            refine w_ifeq d198_121 (fun c121 => ?_) (fun c121 => ?_)
            · refine w_iconst d198_128 (by decide) ?_
              refine wf1739 d198_129 okg hm (by omega) (fun h129 e129 m129 => ?_)
              have f129 : Fr S m [1739] _ _ := Fr.wF okg m129 (FK.pI e129)
              have ok129 := f129.ok
              have FR129 := Fr.tr (F := [1739, 1740]) FRg f129 (by decide) (by decide)
              have RQ := RQ.r f129 hm
              have PW := PW.r f129 hm
              have KI : FI h129 1739 m = (fwS l (w + 1)).1 := by rw [e129, FI_sFI, if_pos ⟨rfl, rfl⟩, fwS]; dsimp only; rw [if_pos (by omega), if_neg nwh]
              refine w_aload_n d198_132 rfl ?_
              refine w_iload d198_133 rfl ?_
              refine w_aload_n d198_135 rfl ?_
              refine w_getI (x := (((fwS l w).2 : Nat) : Int)) d198_136 (ok129.kd hm) PW.1 ?_
              refine w_icmple d198_139 (fun c139 => ?_) (fun c139 => ?_)
              · omega
              · refine w_iload d198_142 rfl ?_
                refine w_goto d198_144 ?_
                refine wf1740 d198_151 ok129 hm (by omega) (fun h151 e151 m151 => ?_)
                have f151 : Fr S m [1740] _ _ := Fr.wF ok129 m151 (FK.pI e151)
                have ok151 := f151.ok
                have FR151 := Fr.tr (F := [1739, 1740]) FR129 f151 (by decide) (by decide)
                have RQ := RQ.r f151 hm
                have KI := (f151.i 1739).trans KI
                have PW : PwR h151 m (fwS l (w + 1)).2 w0 := ⟨by rw [e151, FI_sFI, if_pos ⟨rfl, rfl⟩, fwS]; dsimp only; split <;> omega, (f151.i 1738 (by decide)).trans PW.2⟩
                refine w_iload_n d198_154 rfl ?_
                refine w_iconst d198_155 (by decide) ?_
                refine w_iadd d198_156 (by constructor <;> omega) ?_
                refine w_istore1 d198_157 rfl ?_
                refine w_iinc2 d198_158 rfl (by constructor <;> omega) ?_
                refine w_goto d198_161 ?_
                rw [show ((mwP.getD w 0 + (mwd w).length : Nat) : Int) + 1 = ((mwP.getD (w + 1) 0 : Nat) : Int) by omega]
                rw [show ((w : Nat) : Int) + 1 = ((w + 1 : Nat) : Int) by omega]
                refine w_less ?_ (IH14 _ (by omega) h151 (w + 1) rfl FR151 (by omega) PW KI)
                exact ⟨Or.inr rfl, Or.inr rfl, Or.inr rfl, Or.inl rfl, Or.inl rfl, Or.inl rfl, trivial⟩
            · exact absurd rfl c121
          · have ngt : ¬ (fwS l w).2 < (cpl (mwd w) l) := by omega
            refine w_iload d198_104 rfl ?_
            refine w_ifeq d198_106 (fun c106 => ?_) (fun c106 => ?_)
            · have KI : FI g 1739 m = (fwS l (w + 1)).1 := by rw [KI, fwS]; dsimp only; rw [if_neg (by omega)]
              refine w_aload_n d198_132 rfl ?_
              refine w_iload d198_133 rfl ?_
              refine w_aload_n d198_135 rfl ?_
              refine w_getI (x := (((fwS l w).2 : Nat) : Int)) d198_136 (okg.kd hm) PW.1 ?_
              refine w_icmple d198_139 (fun c139 => ?_) (fun c139 => ?_)
              · refine w_aload_n d198_147 rfl ?_
                refine w_getI (x := (((fwS l w).2 : Nat) : Int)) d198_148 (okg.kd hm) PW.1 ?_
                refine wf1740 d198_151 okg hm (by omega) (fun h151 e151 m151 => ?_)
                have f151 : Fr S m [1740] _ _ := Fr.wF okg m151 (FK.pI e151)
                have ok151 := f151.ok
                have FR151 := Fr.tr (F := [1739, 1740]) FRg f151 (by decide) (by decide)
                have RQ := RQ.r f151 hm
                have KI := (f151.i 1739).trans KI
                have PW : PwR h151 m (fwS l (w + 1)).2 w0 := ⟨by rw [e151, FI_sFI, if_pos ⟨rfl, rfl⟩, fwS]; dsimp only; split <;> omega, (f151.i 1738 (by decide)).trans PW.2⟩
                refine w_iload_n d198_154 rfl ?_
                refine w_iconst d198_155 (by decide) ?_
                refine w_iadd d198_156 (by constructor <;> omega) ?_
                refine w_istore1 d198_157 rfl ?_
                refine w_iinc2 d198_158 rfl (by constructor <;> omega) ?_
                refine w_goto d198_161 ?_
                rw [show ((mwP.getD w 0 + (mwd w).length : Nat) : Int) + 1 = ((mwP.getD (w + 1) 0 : Nat) : Int) by omega]
                rw [show ((w : Nat) : Int) + 1 = ((w + 1 : Nat) : Int) by omega]
                refine w_less ?_ (IH14 _ (by omega) h151 (w + 1) rfl FR151 (by omega) PW KI)
                exact ⟨Or.inr rfl, Or.inr rfl, Or.inr rfl, Or.inl rfl, Or.inl rfl, Or.inl rfl, trivial⟩
              · omega
            · exact absurd rfl c106
        · have wh : (cpl (mwd w) l) = (mwd w).length := by omega
          refine w_iconst d198_88 (by decide) ?_
          refine w_goto d198_89 ?_
          refine w_istore5 d198_93 rfl ?_
          refine w_iload d198_95 rfl ?_
          refine w_aload_n d198_97 rfl ?_
          refine w_getI (x := (((fwS l w).2 : Nat) : Int)) d198_98 (okg.kd hm) PW.1 ?_
          refine w_icmpgt d198_101 (fun c101 => ?_) (fun c101 => ?_)
          · have gt : (fwS l w).2 < (cpl (mwd w) l) := by omega
            refine w_aload_n d198_118 rfl ?_
            refine w_iload d198_119 rfl ?_
            refine w_ifeq d198_121 (fun c121 => ?_) (fun c121 => ?_)
            · exact absurd c121 (by decide)
            · refine w_iload_n d198_124 rfl ?_
              refine w_goto d198_125 ?_
              refine wf1739 d198_129 okg hm (by omega) (fun h129 e129 m129 => ?_)
              have f129 : Fr S m [1739] _ _ := Fr.wF okg m129 (FK.pI e129)
              have ok129 := f129.ok
              have FR129 := Fr.tr (F := [1739, 1740]) FRg f129 (by decide) (by decide)
              have RQ := RQ.r f129 hm
              have PW := PW.r f129 hm
              have KI : FI h129 1739 m = (fwS l (w + 1)).1 := by rw [e129, FI_sFI, if_pos ⟨rfl, rfl⟩, fwS]; dsimp only; rw [if_pos (by omega), if_pos wh]
              refine w_aload_n d198_132 rfl ?_
              refine w_iload d198_133 rfl ?_
              refine w_aload_n d198_135 rfl ?_
              refine w_getI (x := (((fwS l w).2 : Nat) : Int)) d198_136 (ok129.kd hm) PW.1 ?_
              refine w_icmple d198_139 (fun c139 => ?_) (fun c139 => ?_)
              · omega
              · refine w_iload d198_142 rfl ?_
                refine w_goto d198_144 ?_
                refine wf1740 d198_151 ok129 hm (by omega) (fun h151 e151 m151 => ?_)
                have f151 : Fr S m [1740] _ _ := Fr.wF ok129 m151 (FK.pI e151)
                have ok151 := f151.ok
                have FR151 := Fr.tr (F := [1739, 1740]) FR129 f151 (by decide) (by decide)
                have RQ := RQ.r f151 hm
                have KI := (f151.i 1739).trans KI
                have PW : PwR h151 m (fwS l (w + 1)).2 w0 := ⟨by rw [e151, FI_sFI, if_pos ⟨rfl, rfl⟩, fwS]; dsimp only; split <;> omega, (f151.i 1738 (by decide)).trans PW.2⟩
                refine w_iload_n d198_154 rfl ?_
                refine w_iconst d198_155 (by decide) ?_
                refine w_iadd d198_156 (by constructor <;> omega) ?_
                refine w_istore1 d198_157 rfl ?_
                refine w_iinc2 d198_158 rfl (by constructor <;> omega) ?_
                refine w_goto d198_161 ?_
                rw [show ((mwP.getD w 0 + (mwd w).length : Nat) : Int) + 1 = ((mwP.getD (w + 1) 0 : Nat) : Int) by omega]
                rw [show ((w : Nat) : Int) + 1 = ((w + 1 : Nat) : Int) by omega]
                refine w_less ?_ (IH14 _ (by omega) h151 (w + 1) rfl FR151 (by omega) PW KI)
                exact ⟨Or.inr rfl, Or.inr rfl, Or.inr rfl, Or.inl rfl, Or.inl rfl, Or.inl rfl, trivial⟩
          · have ngt : ¬ (fwS l w).2 < (cpl (mwd w) l) := by omega
            refine w_iload d198_104 rfl ?_
            refine w_ifeq d198_106 (fun c106 => ?_) (fun c106 => ?_)
            · exact absurd c106 (by decide)
            · refine w_iload d198_109 rfl ?_
              refine w_aload_n d198_111 rfl ?_
              refine w_getI (x := (((fwS l w).2 : Nat) : Int)) d198_112 (okg.kd hm) PW.1 ?_
              refine w_icmpne d198_115 (fun c115 => ?_) (fun c115 => ?_)
              · have KI : FI g 1739 m = (fwS l (w + 1)).1 := by rw [KI, fwS]; dsimp only; rw [if_neg (by omega)]
                refine w_aload_n d198_132 rfl ?_
                refine w_iload d198_133 rfl ?_
                refine w_aload_n d198_135 rfl ?_
                refine w_getI (x := (((fwS l w).2 : Nat) : Int)) d198_136 (okg.kd hm) PW.1 ?_
                refine w_icmple d198_139 (fun c139 => ?_) (fun c139 => ?_)
                · refine w_aload_n d198_147 rfl ?_
                  refine w_getI (x := (((fwS l w).2 : Nat) : Int)) d198_148 (okg.kd hm) PW.1 ?_
                  refine wf1740 d198_151 okg hm (by omega) (fun h151 e151 m151 => ?_)
                  have f151 : Fr S m [1740] _ _ := Fr.wF okg m151 (FK.pI e151)
                  have ok151 := f151.ok
                  have FR151 := Fr.tr (F := [1739, 1740]) FRg f151 (by decide) (by decide)
                  have RQ := RQ.r f151 hm
                  have KI := (f151.i 1739).trans KI
                  have PW : PwR h151 m (fwS l (w + 1)).2 w0 := ⟨by rw [e151, FI_sFI, if_pos ⟨rfl, rfl⟩, fwS]; dsimp only; split <;> omega, (f151.i 1738 (by decide)).trans PW.2⟩
                  refine w_iload_n d198_154 rfl ?_
                  refine w_iconst d198_155 (by decide) ?_
                  refine w_iadd d198_156 (by constructor <;> omega) ?_
                  refine w_istore1 d198_157 rfl ?_
                  refine w_iinc2 d198_158 rfl (by constructor <;> omega) ?_
                  refine w_goto d198_161 ?_
                  rw [show ((mwP.getD w 0 + (mwd w).length : Nat) : Int) + 1 = ((mwP.getD (w + 1) 0 : Nat) : Int) by omega]
                  rw [show ((w : Nat) : Int) + 1 = ((w + 1 : Nat) : Int) by omega]
                  refine w_less ?_ (IH14 _ (by omega) h151 (w + 1) rfl FR151 (by omega) PW KI)
                  exact ⟨Or.inr rfl, Or.inr rfl, Or.inr rfl, Or.inl rfl, Or.inl rfl, Or.inl rfl, trivial⟩
                · omega
              · refine w_aload_n d198_118 rfl ?_
                refine w_iload d198_119 rfl ?_
                refine w_ifeq d198_121 (fun c121 => ?_) (fun c121 => ?_)
                · exact absurd c121 (by decide)
                · refine w_iload_n d198_124 rfl ?_
                  refine w_goto d198_125 ?_
                  refine wf1739 d198_129 okg hm (by omega) (fun h129 e129 m129 => ?_)
                  have f129 : Fr S m [1739] _ _ := Fr.wF okg m129 (FK.pI e129)
                  have ok129 := f129.ok
                  have FR129 := Fr.tr (F := [1739, 1740]) FRg f129 (by decide) (by decide)
                  have RQ := RQ.r f129 hm
                  have PW := PW.r f129 hm
                  have KI : FI h129 1739 m = (fwS l (w + 1)).1 := by rw [e129, FI_sFI, if_pos ⟨rfl, rfl⟩, fwS]; dsimp only; rw [if_pos (by omega), if_pos wh]
                  refine w_aload_n d198_132 rfl ?_
                  refine w_iload d198_133 rfl ?_
                  refine w_aload_n d198_135 rfl ?_
                  refine w_getI (x := (((fwS l w).2 : Nat) : Int)) d198_136 (ok129.kd hm) PW.1 ?_
                  refine w_icmple d198_139 (fun c139 => ?_) (fun c139 => ?_)
                  · refine w_aload_n d198_147 rfl ?_
                    refine w_getI (x := (((fwS l w).2 : Nat) : Int)) d198_148 (ok129.kd hm) PW.1 ?_
                    refine wf1740 d198_151 ok129 hm (by omega) (fun h151 e151 m151 => ?_)
                    have f151 : Fr S m [1740] _ _ := Fr.wF ok129 m151 (FK.pI e151)
                    have ok151 := f151.ok
                    have FR151 := Fr.tr (F := [1739, 1740]) FR129 f151 (by decide) (by decide)
                    have RQ := RQ.r f151 hm
                    have KI := (f151.i 1739).trans KI
                    have PW : PwR h151 m (fwS l (w + 1)).2 w0 := ⟨by rw [e151, FI_sFI, if_pos ⟨rfl, rfl⟩, fwS]; dsimp only; split <;> omega, (f151.i 1738 (by decide)).trans PW.2⟩
                    refine w_iload_n d198_154 rfl ?_
                    refine w_iconst d198_155 (by decide) ?_
                    refine w_iadd d198_156 (by constructor <;> omega) ?_
                    refine w_istore1 d198_157 rfl ?_
                    refine w_iinc2 d198_158 rfl (by constructor <;> omega) ?_
                    refine w_goto d198_161 ?_
                    rw [show ((mwP.getD w 0 + (mwd w).length : Nat) : Int) + 1 = ((mwP.getD (w + 1) 0 : Nat) : Int) by omega]
                    rw [show ((w : Nat) : Int) + 1 = ((w + 1 : Nat) : Int) by omega]
                    refine w_less ?_ (IH14 _ (by omega) h151 (w + 1) rfl FR151 (by omega) PW KI)
                    exact ⟨Or.inr rfl, Or.inr rfl, Or.inr rfl, Or.inl rfl, Or.inl rfl, Or.inl rfl, trivial⟩
                  · omega
      refine w_iconst d198_34 (by decide) ?_
      refine w_istore4 d198_35 rfl ?_
      have L37 : ∀ (m37 : Nat) (n : Nat), (mwd w).length - n = m37 → (n ≤ (mwd w).length) → ((cpl (mwd w) l) = n + cpl ((mwd w).drop n) (l.drop n)) → Wp G d 198 37 [some (vR (some m)), some (vI (mwP.getD w 0 : Nat)), some (vI (w : Nat)), some (vI (mwP.getD w 0 + (mwd w).length : Nat)), some (vI (n : Nat)), none] [] g Q := by
        intro m37
        induction m37 using Nat.strongRecOn with | ind m37 IH37 => ?_
        intro n hm37 nl E1
        refine w_iload_n d198_37 rfl ?_
        refine w_iload d198_38 rfl ?_
        refine w_iadd d198_40 (by constructor <;> omega) ?_
        refine w_iload_n d198_41 rfl ?_
        refine w_icmpge d198_42 (fun c42 => ?_) (fun c42 => ?_)
        · have en : (cpl (mwd w) l) = n := by rw [E1, cpl_stop (Or.inl (by omega))]; rfl
          refine w_less ?_ (L80 _ n rfl en)
          exact ⟨Or.inr rfl, Or.inr rfl, Or.inr rfl, Or.inr rfl, Or.inr rfl, Or.inl rfl, trivial⟩
        · have hn : n < (mwd w).length := by omega
          refine w_iload d198_45 rfl ?_
          refine w_aload_n d198_47 rfl ?_
          refine w_getI (x := ((l.length : Nat) : Int)) d198_48 (okg.kd hm) RQ.1 ?_
          refine w_icmpge d198_51 (fun c51 => ?_) (fun c51 => ?_)
          · have en : (cpl (mwd w) l) = n := by rw [E1, cpl_stop (Or.inr (Or.inl (by omega)))]; rfl
            refine w_less ?_ (L80 _ n rfl en)
            exact ⟨Or.inr rfl, Or.inr rfl, Or.inr rfl, Or.inr rfl, Or.inr rfl, Or.inl rfl, trivial⟩
          · have hl : n < l.length := by omega
            refine w_aload_n d198_54 rfl ?_
            refine w_dloadS d198_55 (okg.kd hm) (fr1730 okg hm) ?_
            refine w_iload d198_58 rfl ?_
            refine w_ialoadV (x := ((l.getD n 0 : Nat) : Int)) d198_60 (gi1730 okg hm (by omega)) (RQ.2.2.at0 hl) ?_
            obtain ⟨g61, v61, s61⟩ := tg.al okg 41 (by decide)
            refine w_getstaticS d198_61 v61 ?_
            refine w_iload_n d198_64 rfl ?_
            refine w_iload d198_65 rfl ?_
            refine w_iadd d198_67 (by constructor <;> omega) ?_
            rw [show ((mwP.getD w 0 : Nat) : Int) + ((n : Nat) : Int) = ((mwP.getD w 0 + n : Nat) : Int) by omega]
            refine w_callv2 d198_68 (by omega) rfl (s61 _ okg).1 (by simp) (Nat.le_of_ble_eq_true rfl) ?_
            refine r_charAtN (S := S) (i := mwP.getD w 0 + n) (by omega) (s61 _ okg) (by rw [txt41]; omega) ?_
            rw [mw_at hw hn]
            refine w_icmpne d198_71 (fun c71 => ?_) (fun c71 => ?_)
            · have en : (cpl (mwd w) l) = n := by rw [E1, cpl_stop (Or.inr (Or.inr (by omega)))]; rfl
              refine w_less ?_ (L80 _ n rfl en)
              exact ⟨Or.inr rfl, Or.inr rfl, Or.inr rfl, Or.inr rfl, Or.inr rfl, Or.inl rfl, trivial⟩
            · have eg := cpl_go (w := mwd w) (l := l) (j := n) hn hl (by omega)
              refine w_iinc4 d198_74 rfl (by constructor <;> omega) ?_
              refine w_goto d198_77 ?_
              rw [show ((n : Nat) : Int) + 1 = ((n + 1 : Nat) : Int) by omega]
              refine w_less ?_ (IH37 _ (by omega) (n + 1) rfl (by omega) (by rw [E1, eg]; omega))
              exact ⟨Or.inr rfl, Or.inr rfl, Or.inr rfl, Or.inr rfl, Or.inr rfl, Or.inl rfl, trivial⟩
      refine w_less ?_ (L37 _ 0 rfl (Nat.zero_le _) (by rw [Nat.zero_add]; rfl))
      exact ⟨Or.inr rfl, Or.inr rfl, Or.inr rfl, Or.inr rfl, Or.inr rfl, Or.inl rfl, trivial⟩
  refine w_less ?_ (L14 _ h7 0 rfl FR7 (by decide) PW KI)
  exact ⟨Or.inr rfl, Or.inr rfl, Or.inr rfl, Or.inl rfl, Or.inl rfl, Or.inl rfl, trivial⟩
