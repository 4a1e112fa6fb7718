/-! the reference: an action -/
theorem lns_cnt (x : List Nat) : ∀ (n f : Nat), x.length - f = n → (lns (x.drop f)).length ≤ x.length - f := by
  intro n
  induction n using Nat.strongRecOn with | ind n IH => ?_
  intro f hn
  rcases Nat.lt_or_ge f x.length with q | q
  · rw [lns_at q, List.length_cons]
    have g := lineE_ge x f
    have := IH (x.length - (lineE x f + 1)) (by omega) (lineE x f + 1) rfl
    omega
  · rw [lns_end q]
    exact Nat.zero_le _
theorem lns_cn (x : List Nat) : (lns x).length ≤ x.length := by
  have := lns_cnt x _ 0 rfl
  rwa [List.drop_zero, Nat.sub_zero] at this
def lnK (ins : List (List Nat)) (k : Nat) : List (List Nat) := ((ins.take k).map lns).flatten
theorem lnK_s {ins : List (List Nat)} {k : Nat} (h : k < ins.length) : lnK ins (k + 1) = lnK ins k ++ lns (ins.getD k []) := by
  unfold lnK
  rw [List.take_succ, List.getElem?_eq_getElem h, List.map_append, List.flatten_append, List.getD_eq_getElem?_getD, List.getElem?_eq_getElem h]
  simp
theorem lnK_le {ins : List (List Nat)} : ∀ {k : Nat}, k ≤ ins.length → (lnK ins k).length ≤ (ins.take k).flatten.length
  | 0, _ => Nat.le_refl _
  | k + 1, h => by
    have := lnK_le (ins := ins) (k := k) (by omega)
    have := lns_cn (ins.getD k [])
    rw [lnK_s (by omega), flt_succ (by omega), List.length_append, List.length_append]
    omega
theorem lnK_n {ins : List (List Nat)} : lnK ins ins.length = (ins.map lns).flatten := by unfold lnK; rw [List.take_length]
theorem LnR.b {S : Shp} {h : Hp} {m : Nat} {l : List Nat} {ls : List (List Nat)} (LN : LnR S h m l ls) (ok : Ok S h) (hm : sK S m = 14) (AL : AlR S h m l) : ∀ y ∈ ls, ∀ j, y.getD j 0 < 256 := fun y hy j => by
  obtain ⟨k, hk, e⟩ := List.getElem_of_mem hy
  obtain ⟨f, e2, -, -, -, fl⟩ := LN.at ok hm hk
  rw [List.getD_eq_getElem?_getD, List.getElem?_eq_getElem hk, Option.getD_some, e] at fl
  rw [← fl]
  refine getD_sl_lt (fun j => ?_) _ _ _
  rcases Nat.lt_or_ge j l.length with z | z
  · have := lt256 ok hm AL z
    omega
  · rw [List.getD_eq_getElem?_getD, List.getElem?_eq_none z]; decide
/-- what compile leaves -/
def CmO (S : Shp) (h : Hp) (m : Nat) (t : TgV) (ins : List (List Nat)) : Prop := ∃ x : OmV, OmC S h (sT S 1683 m) x ∧ ((x.2.2 ≠ [] ∧ ∃ z, (cmW t ins).1 = some z ∧ x = ([], [], badT (some z))) ∨ (x.2.2 = [] ∧ (cmW t ins).1 = none ∧ ∃ X, MkR S h m (wsT (cmW t ins).2.1 false (cmW t ins).2.1.length) X ∧ ((wsT (cmW t ins).2.1 false (cmW t ins).2.1.length).length ≤ 600 → X = wsT (cmW t ins).2.1 true (cmW t ins).2.1.length)))
theorem k_M_compileC {S : Shp} {G : Nat → Option Nat} {d : Nat} {h : Hp} {Q : Option MV → Hp → Prop} {m t fd : Nat} {P0 : PlV} {l : List Nat} {ins : List (List Nat)} (ok : Ok S h) (h1 : 12 ≤ d) (hm : sK S m = 14) (MK : MkR S h m [] []) (AL : AlR S h m l) (BG : BgR S h m (fun k => (ins.take k).flatten.length) ((tgI (tD P0.2.2 t)).length + 1)) (DP : DfC S h (sT S fd m) P0) (tg : Tg S G) (hfd : fd = 1664 ∨ fd = 1665) (ht : t < P0.2.2.length) (hl : l = ins.flatten) (hil : ins.length = (tgI (tD P0.2.2 t)).length) (hi6 : ∀ k, k < ins.length → (ins.getD k []).length ≤ 600) (hi1 : ∀ k, k < ins.length → inB (tgI (tD P0.2.2 t)) k = false → (ins.getD k []).length ≤ 160)
    (kk : ∀ h', Fr S m [1683, 1685, 1686, 1687, 1688, 1698, 1699, 1700, 1689, 1690, 1691, 1692, 1693, 1694, 1695, 1696, 1697] h h' → CmO S h' m (tD P0.2.2 t) ins → Q none h') : Cl G d 268 [vR (some m), vR (some (sT S fd m)), vI (t : Nat)] h Q := by
  refine k_M_compile ok h1 hm MK AL BG DP tg hfd ht hl hil hi6 hi1 (fun h' z fr a b => kk h' fr ⟨_, b, Or.inl ⟨fun e => ?_, z, a, rfl⟩⟩) (fun h' X fr a b c => kk h' fr ⟨_, b.1, Or.inr ⟨rfl, a, X, b, c⟩⟩)
  have : (badT (some z)).length = 0 := by rw [show badT (some z) = [] from e]; rfl
  unfold badT at this
  rw [List.length_append, show (txt 27).length = 4 by decide] at this
  omega
theorem d265_0 : dc 265 0 = some (.aload_n 0, 1) := by decide +kernel
theorem d265_1 : dc 265 1 = some (.dload 1683, 4) := by decide +kernel
theorem d265_4 : dc 265 4 = some (.invokevirtual 254, 7) := by decide +kernel
theorem d265_7 : dc 265 7 = some (.aload_n 0, 8) := by decide +kernel
theorem d265_8 : dc 265 8 = some (.iconst 0, 9) := by decide +kernel
theorem d265_9 : dc 265 9 = some (.putstatic 1685, 12) := by decide +kernel
theorem d265_12 : dc 265 12 = some (.aload_n 0, 13) := by decide +kernel
theorem d265_13 : dc 265 13 = some (.aload_n 1, 14) := by decide +kernel
theorem d265_14 : dc 265 14 = some (.iload_n 2, 15) := by decide +kernel
theorem d265_15 : dc 265 15 = some (.aload_n 3, 16) := by decide +kernel
theorem d265_16 : dc 265 16 = some (.invokevirtual 266, 19) := by decide +kernel
theorem d265_19 : dc 265 19 = some (.aload_n 0, 20) := by decide +kernel
theorem d265_20 : dc 265 20 = some (.iconst 0, 21) := by decide +kernel
theorem d265_21 : dc 265 21 = some (.putfield 1688, 24) := by decide +kernel
theorem d265_24 : dc 265 24 = some (.aload_n 1, 25) := by decide +kernel
theorem d265_25 : dc 265 25 = some (.dload 1421, 28) := by decide +kernel
theorem d265_28 : dc 265 28 = some (.iload_n 2, 29) := by decide +kernel
theorem d265_29 : dc 265 29 = some (.iaload, 30) := by decide +kernel
theorem d265_30 : dc 265 30 = some (.bipush 7, 32) := by decide +kernel
theorem d265_32 : dc 265 32 = some (.if_icmp .ne ((52 : Nat) : Int), 35) := by decide +kernel
theorem d265_35 : dc 265 35 = some (.aload_n 0, 36) := by decide +kernel
theorem d265_36 : dc 265 36 = some (.aload_n 1, 37) := by decide +kernel
theorem d265_37 : dc 265 37 = some (.iload_n 2, 38) := by decide +kernel
theorem d265_38 : dc 265 38 = some (.invokevirtual 268, 41) := by decide +kernel
theorem d265_41 : dc 265 41 = some (.aload_n 0, 42) := by decide +kernel
theorem d265_42 : dc 265 42 = some (.dload 1683, 45) := by decide +kernel
theorem d265_45 : dc 265 45 = some (.getfield 1541, 48) := by decide +kernel
theorem d265_48 : dc 265 48 = some (.ifCond .le ((120 : Nat) : Int), 51) := by decide +kernel
theorem d265_51 : dc 265 51 = some (.return_, 52) := by decide +kernel
theorem d265_52 : dc 265 52 = some (.aload_n 1, 53) := by decide +kernel
theorem d265_53 : dc 265 53 = some (.dload 1421, 56) := by decide +kernel
theorem d265_56 : dc 265 56 = some (.iload_n 2, 57) := by decide +kernel
theorem d265_57 : dc 265 57 = some (.iaload, 58) := by decide +kernel
theorem d265_58 : dc 265 58 = some (.iconst 1, 59) := by decide +kernel
theorem d265_59 : dc 265 59 = some (.if_icmp .ne ((105 : Nat) : Int), 62) := by decide +kernel
theorem d265_62 : dc 265 62 = some (.iconst 0, 63) := by decide +kernel
theorem d265_63 : dc 265 63 = some (.istore 4, 65) := by decide +kernel
theorem d265_65 : dc 265 65 = some (.iload 4, 67) := by decide +kernel
theorem d265_67 : dc 265 67 = some (.aload_n 1, 68) := by decide +kernel
theorem d265_68 : dc 265 68 = some (.dload 1424, 71) := by decide +kernel
theorem d265_71 : dc 265 71 = some (.iload_n 2, 72) := by decide +kernel
theorem d265_72 : dc 265 72 = some (.iaload, 73) := by decide +kernel
theorem d265_73 : dc 265 73 = some (.if_icmp .ge ((102 : Nat) : Int), 76) := by decide +kernel
theorem d265_76 : dc 265 76 = some (.aload_n 0, 77) := by decide +kernel
theorem d265_77 : dc 265 77 = some (.aload_n 0, 78) := by decide +kernel
theorem d265_78 : dc 265 78 = some (.dload 1684, 81) := by decide +kernel
theorem d265_81 : dc 265 81 = some (.iload 4, 83) := by decide +kernel
theorem d265_83 : dc 265 83 = some (.iaload, 84) := by decide +kernel
theorem d265_84 : dc 265 84 = some (.aload_n 0, 85) := by decide +kernel
theorem d265_85 : dc 265 85 = some (.dload 1684, 88) := by decide +kernel
theorem d265_88 : dc 265 88 = some (.iload 4, 90) := by decide +kernel
theorem d265_90 : dc 265 90 = some (.iconst 1, 91) := by decide +kernel
theorem d265_91 : dc 265 91 = some (.iadd, 92) := by decide +kernel
theorem d265_92 : dc 265 92 = some (.iaload, 93) := by decide +kernel
theorem d265_93 : dc 265 93 = some (.invokevirtual 269, 96) := by decide +kernel
theorem d265_96 : dc 265 96 = some (.iinc 4 1, 99) := by decide +kernel
theorem d265_99 : dc 265 99 = some (.goto ((65 : Nat) : Int), 102) := by decide +kernel
theorem d265_102 : dc 265 102 = some (.goto ((114 : Nat) : Int), 105) := by decide +kernel
theorem d265_105 : dc 265 105 = some (.aload_n 0, 106) := by decide +kernel
theorem d265_106 : dc 265 106 = some (.iconst 0, 107) := by decide +kernel
theorem d265_107 : dc 265 107 = some (.aload_n 0, 108) := by decide +kernel
theorem d265_108 : dc 265 108 = some (.getfield 1682, 111) := by decide +kernel
theorem d265_111 : dc 265 111 = some (.invokevirtual 269, 114) := by decide +kernel
theorem d265_114 : dc 265 114 = some (.aload_n 0, 115) := by decide +kernel
theorem d265_115 : dc 265 115 = some (.aload_n 1, 116) := by decide +kernel
theorem d265_116 : dc 265 116 = some (.iload_n 2, 117) := by decide +kernel
theorem d265_117 : dc 265 117 = some (.invokevirtual 284, 120) := by decide +kernel
theorem d265_120 : dc 265 120 = some (.aload_n 0, 121) := by decide +kernel
theorem d265_121 : dc 265 121 = some (.getfield 1685, 124) := by decide +kernel
theorem d265_124 : dc 265 124 = some (.ifCond .eq ((137 : Nat) : Int), 127) := by decide +kernel
theorem d265_127 : dc 265 127 = some (.aload_n 0, 128) := by decide +kernel
theorem d265_128 : dc 265 128 = some (.dload 1683, 131) := by decide +kernel
theorem d265_131 : dc 265 131 = some (.getstatic 78, 133) := by decide +kernel
theorem d265_133 : dc 265 133 = some (.invokevirtual 253, 136) := by decide +kernel
theorem d265_136 : dc 265 136 = some (.return_, 137) := by decide +kernel
theorem d265_137 : dc 265 137 = some (.aload_n 1, 138) := by decide +kernel
theorem d265_138 : dc 265 138 = some (.dload 1421, 141) := by decide +kernel
theorem d265_141 : dc 265 141 = some (.iload_n 2, 142) := by decide +kernel
theorem d265_142 : dc 265 142 = some (.iaload, 143) := by decide +kernel
theorem d265_143 : dc 265 143 = some (.bipush 7, 145) := by decide +kernel
theorem d265_145 : dc 265 145 = some (.if_icmp .ne ((149 : Nat) : Int), 148) := by decide +kernel
theorem d265_148 : dc 265 148 = some (.return_, 149) := by decide +kernel
theorem d265_149 : dc 265 149 = some (.aload_n 0, 150) := by decide +kernel
theorem d265_150 : dc 265 150 = some (.dload 1683, 153) := by decide +kernel
theorem d265_153 : dc 265 153 = some (.aload_n 0, 154) := by decide +kernel
theorem d265_154 : dc 265 154 = some (.dload 1683, 157) := by decide +kernel
theorem d265_157 : dc 265 157 = some (.getfield 1537, 160) := by decide +kernel
theorem d265_160 : dc 265 160 = some (.putfield 1539, 163) := by decide +kernel
theorem d265_163 : dc 265 163 = some (.iconst 0, 164) := by decide +kernel
theorem d265_164 : dc 265 164 = some (.istore 4, 166) := by decide +kernel
theorem d265_166 : dc 265 166 = some (.iload 4, 168) := by decide +kernel
theorem d265_168 : dc 265 168 = some (.aload_n 0, 169) := by decide +kernel
theorem d265_169 : dc 265 169 = some (.dload 1683, 172) := by decide +kernel
theorem d265_172 : dc 265 172 = some (.getfield 1537, 175) := by decide +kernel
theorem d265_175 : dc 265 175 = some (.if_icmp .ge ((204 : Nat) : Int), 178) := by decide +kernel
theorem d265_178 : dc 265 178 = some (.aload_n 0, 179) := by decide +kernel
theorem d265_179 : dc 265 179 = some (.dload 1683, 182) := by decide +kernel
theorem d265_182 : dc 265 182 = some (.dload 1538, 185) := by decide +kernel
theorem d265_185 : dc 265 185 = some (.iload 4, 187) := by decide +kernel
theorem d265_187 : dc 265 187 = some (.aload_n 0, 188) := by decide +kernel
theorem d265_188 : dc 265 188 = some (.dload 1683, 191) := by decide +kernel
theorem d265_191 : dc 265 191 = some (.dload 1536, 194) := by decide +kernel
theorem d265_194 : dc 265 194 = some (.iload 4, 196) := by decide +kernel
theorem d265_196 : dc 265 196 = some (.iaload, 197) := by decide +kernel
theorem d265_197 : dc 265 197 = some (.iastore, 198) := by decide +kernel
theorem d265_198 : dc 265 198 = some (.iinc 4 1, 201) := by decide +kernel
theorem d265_201 : dc 265 201 = some (.goto ((166 : Nat) : Int), 204) := by decide +kernel
theorem d265_204 : dc 265 204 = some (.return_, 205) := by decide +kernel
theorem k_M_act {S : Shp} {G : Nat → Option Nat} {d : Nat} {h : Hp} {Q : Option MV → Hp → Prop} {m : Nat} {t : Nat} {of fd r : Nat} {P0 : PlV} {bu : Nat → OmV} (ok : Ok S h) (h1 : 14 ≤ d) (hm : sK S m = 14) (DP : DfC S h (sT S fd m) P0) (OS : OmS S h (sT S of m) bu) (tg : Tg S G) (hfd : fd = 1664 ∨ fd = 1665) (hof : of = 1668 ∨ of = 1669) (ht : t < P0.2.2.length) (nom : noMis P0.1 P0.2.2 (tD P0.2.2 t)) (hr : rix (tgR (tD P0.2.2 t)) = (r : Int)) (ow : okN (tgW (tD P0.2.2 t)))
    (kk : ∀ h' x, Fr S m [1683, 1685, 1686, 1687, 1688, 1698, 1699, 1700, 1689, 1690, 1691, 1692, 1693, 1694, 1695, 1696, 1697, 1681, 1682, 1684, 1677] h h' → OmC S h' (sT S 1683 m) x → oV x = wrkV (tD P0.2.2 t) (inR P0.1 P0.2.2 bu t) → AlR S h' m (inR P0.1 P0.2.2 bu t).flatten → Q none h') : Cl G d 265 [vR (some m), vR (some (sT S fd m)), vI (t : Nat), vR (some (sT S of m))] h Q := by
  show Wp G d 265 0 [some (vR (some m)), some (vR (some (sT S fd m))), some (vI (t : Nat)), some (vR (some (sT S of m))), none] [] h Q
  have DP_0 := DP
  have OS_0 := OS
  have ht14 : t < 14 := by have := DP.2.2.2.1; omega
  have hr8 := (rixK_nm hr).2
  have n6 : (tgI (tD P0.2.2 t)).length ≤ 6 := (DP.2.2.2.2 t ht).2.2.2.2.2.2.2.2.2.2.1
  have hi6 : ∀ k, k < (inR P0.1 P0.2.2 bu t).length → ((inR P0.1 P0.2.2 bu t).getD k []).length ≤ 600 := fun k hk => inR_le ok hm hof OS DP nom (by rw [inR_len] at hk; exact hk)
  have hi1 : ∀ k, k < (inR P0.1 P0.2.2 bu t).length → inB (tgI (tD P0.2.2 t)) k = false → ((inR P0.1 P0.2.2 bu t).getD k []).length ≤ 160 := fun k hk q => by
    rw [inR_len] at hk
    have nm := nom.at hk
    have ia := inpR_at (pu := fun u => oV (bu u)) nom hk
    rw [if_neg (by rw [q]; decide)] at nm ia
    change (inR P0.1 P0.2.2 bu t).getD k [] = _ at ia
    rw [ia]
    have l1 := fix_lt (fs := P0.1) (n := inN (tgI (tD P0.2.2 t)) k)
    have l2 := DP.1.2.1
    exact (DP.1.2.2 (fix P0.1 (inN (tgI (tD P0.2.2 t)) k)).toNat (by omega)).2.2.2.2.1
  refine w_aload_n d265_0 rfl ?_
  refine w_dloadS d265_1 (ok.kd hm) (fr1683 ok hm) ?_
  refine w_callv1 d265_4 (by omega) rfl (ok.kd (kT1683 ok hm)) (by simp) (Nat.le_of_ble_eq_true rfl) ?_
  refine k_O_clear ok (by omega) (kT1683 ok hm) (fun h4 m4 OM => ?_)
  have f4 : Fr S m [1683] _ _ := Fr.wB ok hm m4 (fun ζ e => ⟨1683, by decide, by decide, e ▸ U_refl⟩)
  have ok4 := f4.ok
  have FR4 := Fr.le (F := [1683, 1685, 1686, 1687, 1688, 1698, 1699, 1700, 1689, 1690, 1691, 1692, 1693, 1694, 1695, 1696, 1697, 1681, 1682, 1684, 1677]) f4 (by decide)
  have DP := DfC.r (f := fd) f4 hm (by rcases hfd with rfl | rfl <;> decide) DP
  have OS := OmS.r (f := of) f4 hm hof (by rcases hof with rfl | rfl <;> decide) OS
  refine w_aload_n d265_7 rfl ?_
  refine w_iconst d265_8 (by decide) ?_
  have OM4 := OM
  refine wf1685 d265_9 ok4 hm (by omega) (fun h9 e9 m9 => ?_)
  have f9 : Fr S m [1685] _ _ := Fr.wF ok4 m9 (FK.pI e9)
  have ok9 := f9.ok
  have FR9 := Fr.tr (F := [1683, 1685, 1686, 1687, 1688, 1698, 1699, 1700, 1689, 1690, 1691, 1692, 1693, 1694, 1695, 1696, 1697, 1681, 1682, 1684, 1677]) FR4 f9 (by decide) (by decide)
  have DP := DfC.r (f := fd) f9 hm (by rcases hfd with rfl | rfl <;> decide) DP
  have OS := OmS.r (f := of) f9 hm hof (by rcases hof with rfl | rfl <;> decide) OS
  have MK : MkR S h9 m [] [] := ⟨OM4.u ok4 f9.mo (kT1683 ok hm) (fun _ u => f9.no (by decide) (by decide) (by decide) u), by rw [e9, FI_sFI, if_pos ⟨rfl, rfl⟩]; rfl⟩
  refine w_aload_n d265_12 rfl ?_
  refine w_aload_n d265_13 rfl ?_
  refine w_iload_n d265_14 rfl ?_
  refine w_aload_n d265_15 rfl ?_
  refine w_callv4 d265_16 (by omega) rfl (ok9.kd hm) (by simp) (Nat.le_of_ble_eq_true rfl) ?_
  refine k_M_gather ok9 (by omega) hm DP OS hfd hof ht nom (fun h16 f16 AL BG => ?_)
  have ok16 := f16.ok
  have FR16 := Fr.tr (F := [1683, 1685, 1686, 1687, 1688, 1698, 1699, 1700, 1689, 1690, 1691, 1692, 1693, 1694, 1695, 1696, 1697, 1681, 1682, 1684, 1677]) FR9 f16 (by decide) (by decide)
  have DP := DfC.r (f := fd) f16 hm (by rcases hfd with rfl | rfl <;> decide) DP
  have OS := OmS.r (f := of) f16 hm hof (by rcases hof with rfl | rfl <;> decide) OS
  have MK := MK.r f16 hm
  refine w_aload_n d265_19 rfl ?_
  refine w_iconst d265_20 (by decide) ?_
  refine wf1688 d265_21 ok16 hm (by omega) (fun h21 e21 m21 => ?_)
  have f21 : Fr S m [1688] _ _ := Fr.wF ok16 m21 (FK.pI e21)
  have ok21 := f21.ok
  have FR21 := Fr.tr (F := [1683, 1685, 1686, 1687, 1688, 1698, 1699, 1700, 1689, 1690, 1691, 1692, 1693, 1694, 1695, 1696, 1697, 1681, 1682, 1684, 1677]) FR16 f21 (by decide) (by decide)
  have DP := DfC.r (f := fd) f21 hm (by rcases hfd with rfl | rfl <;> decide) DP
  have OS := OmS.r (f := of) f21 hm hof (by rcases hof with rfl | rfl <;> decide) OS
  have MK := MK.r f21 hm
  have AL := AL.r f21 hm
  have BG := BG.r f21 hm
  have LN : LnR S h21 m (inR P0.1 P0.2.2 bu t).flatten [] := ⟨by rw [e21, FI_sFI, if_pos ⟨rfl, rfl⟩]; rfl, by decide, fun k hk => absurd hk (Nat.not_lt_zero _)⟩
  refine w_aload_n d265_24 rfl ?_
  refine w_dloadS d265_25 (ok21.kd (hdK ok hm hfd)) (fr1421 ok21 (hdK ok hm hfd)) ?_
  refine w_iload_n d265_28 rfl ?_
  refine w_ialoadV (x := ((r : Nat) : Int)) d265_29 (gi1421 ok21 (hdK ok hm hfd) (by omega)) ((DP.2.2.2.2 t ht).2.2.2.2.1.trans hr) ?_
  refine w_bipush d265_30 (by decide) ?_
  refine w_icmpne d265_32 (fun c32 => ?_) (fun c32 => ?_)
  · refine w_aload_n d265_52 rfl ?_
    refine w_dloadS d265_53 (ok21.kd (hdK ok hm hfd)) (fr1421 ok21 (hdK ok hm hfd)) ?_
    refine w_iload_n d265_56 rfl ?_
    refine w_ialoadV (x := ((r : Nat) : Int)) d265_57 (gi1421 ok21 (hdK ok hm hfd) (by omega)) ((DP.2.2.2.2 t ht).2.2.2.2.1.trans hr) ?_
    refine w_iconst d265_58 (by decide) ?_
    refine w_icmpne d265_59 (fun c59 => ?_) (fun c59 => ?_)
    · have r1 : ¬ r = 1 := by omega
      refine w_aload_n d265_105 rfl ?_
      refine w_iconst d265_106 (by decide) ?_
      refine w_aload_n d265_107 rfl ?_
      refine w_getI (x := (((inR P0.1 P0.2.2 bu t).flatten.length : Nat) : Int)) d265_108 (ok21.kd hm) AL.1 ?_
      refine w_callv3 d265_111 (by omega) rfl (ok21.kd hm) (by simp) (Nat.le_of_ble_eq_true rfl) ?_
      refine k_M_addLines (f := 0) ok21 (by omega) hm LN AL ⟨Nat.zero_le _, Nat.le_refl _⟩ (Nat.le_refl _) (fun h111 f111 LN => ?_)
      have ok111 := f111.ok
      have FR111 := Fr.tr (F := [1683, 1685, 1686, 1687, 1688, 1698, 1699, 1700, 1689, 1690, 1691, 1692, 1693, 1694, 1695, 1696, 1697, 1681, 1682, 1684, 1677]) FR21 f111 (by decide) (by decide)
      have DP := DfC.r (f := fd) f111 hm (by rcases hfd with rfl | rfl <;> decide) DP
      have OS := OmS.r (f := of) f111 hm hof (by rcases hof with rfl | rfl <;> decide) OS
      have MK := MK.r f111 hm
      have AL := AL.r f111 hm
      have BG := BG.r f111 hm
      rw [List.nil_append, sl_all] at LN
      refine w_aload_n d265_114 rfl ?_
      refine w_aload_n d265_115 rfl ?_
      refine w_iload_n d265_116 rfl ?_
      have rok := ruM_ok (ins := (inR P0.1 P0.2.2 bu t)) (ls := (lns (inR P0.1 P0.2.2 bu t).flatten)) hr (by omega) ow (LN.b ok111 hm AL) (by rw [if_neg r1])
      refine w_callv3 d265_117 (by omega) rfl (ok111.kd hm) (by simp) (Nat.le_of_ble_eq_true rfl) ?_
      refine k_M_rule ok111 (by omega) hm MK LN AL DP tg hfd ht hr (fun h117 f117 MK => ?_)
      have ok117 := f117.ok
      have FR117 := Fr.tr (F := [1683, 1685, 1686, 1687, 1688, 1698, 1699, 1700, 1689, 1690, 1691, 1692, 1693, 1694, 1695, 1696, 1697, 1681, 1682, 1684, 1677]) FR111 f117 (by decide) (by decide)
      have DP := DfC.r (f := fd) f117 hm (by rcases hfd with rfl | rfl <;> decide) DP
      have OS := OmS.r (f := of) f117 hm hof (by rcases hof with rfl | rfl <;> decide) OS
      have AL := AL.r f117 hm
      have BG := BG.r f117 hm
      refine w_aload_n d265_120 rfl ?_
      refine w_getI (x := (b2i (decide (600 < (ruM r (tgW (tD P0.2.2 t)) (lns (inR P0.1 P0.2.2 bu t).flatten) (inR P0.1 P0.2.2 bu t).flatten).length)))) d265_121 (ok117.kd hm) MK.2 ?_
      refine w_ifeq d265_124 (fun c124 => ?_) (fun c124 => ?_)
      · have nb : ¬ (600 < (ruM r (tgW (tD P0.2.2 t)) (lns (inR P0.1 P0.2.2 bu t).flatten) (inR P0.1 P0.2.2 bu t).flatten).length) := fun z => by rw [decide_eq_true z] at c124; exact absurd c124 (by decide)
        have t6 : (ruM r (tgW (tD P0.2.2 t)) (lns (inR P0.1 P0.2.2 bu t).flatten) (inR P0.1 P0.2.2 bu t).flatten).take 600 = (ruM r (tgW (tD P0.2.2 t)) (lns (inR P0.1 P0.2.2 bu t).flatten) (inR P0.1 P0.2.2 bu t).flatten) := List.take_of_length_le (by omega)
        have MK1 := MK.1
        rw [t6] at MK1
        have ro := rok.2 (by have := rok.1; omega)
        refine w_aload_n d265_137 rfl ?_
        refine w_dloadS d265_138 (ok117.kd (hdK ok hm hfd)) (fr1421 ok117 (hdK ok hm hfd)) ?_
        refine w_iload_n d265_141 rfl ?_
        refine w_ialoadV (x := ((r : Nat) : Int)) d265_142 (gi1421 ok117 (hdK ok hm hfd) (by omega)) ((DP.2.2.2.2 t ht).2.2.2.2.1.trans hr) ?_
        refine w_bipush d265_143 (by decide) ?_
        refine w_icmpne d265_145 (fun c145 => ?_) (fun c145 => ?_)
        · refine w_aload_n d265_149 rfl ?_
          refine w_dloadS d265_150 (ok117.kd hm) (fr1683 ok117 hm) ?_
          refine w_aload_n d265_153 rfl ?_
          refine w_dloadS d265_154 (ok117.kd hm) (fr1683 ok117 hm) ?_
          refine w_getI (x := (((ruM r (tgW (tD P0.2.2 t)) (lns (inR P0.1 P0.2.2 bu t).flatten) (inR P0.1 P0.2.2 bu t).flatten).length : Nat) : Int)) d265_157 (ok117.kd (kT1683 ok117 hm)) MK1.1 ?_
          refine wf1539 d265_160 ok117 (kT1683 ok117 hm) (by omega) (fun h160 e160 m160 => ?_)
          have f160 : Fr S m [1683] _ _ := Fr.wB ok117 hm m160 (fun ζ e => ⟨1683, by decide, by decide, e ▸ U_refl⟩)
          have ok160 := f160.ok
          have FR160 := Fr.tr (F := [1683, 1685, 1686, 1687, 1688, 1698, 1699, 1700, 1689, 1690, 1691, 1692, 1693, 1694, 1695, 1696, 1697, 1681, 1682, 1684, 1677]) FR117 f160 (by decide) (by decide)
          have DP := DfC.r (f := fd) f160 hm (by rcases hfd with rfl | rfl <;> decide) DP
          have OS := OmS.r (f := of) f160 hm hof (by rcases hof with rfl | rfl <;> decide) OS
          have AL := AL.r f160 hm
          have BG := BG.r f160 hm
          refine w_iconst d265_163 (by decide) ?_
          refine w_istore4 d265_164 rfl ?_
          have L166 : ∀ (m166 : Nat) (g166 : Hp) (i : Nat), (ruM r (tgW (tD P0.2.2 t)) (lns (inR P0.1 P0.2.2 bu t).flatten) (inR P0.1 P0.2.2 bu t).flatten).length - i = m166 → Fr S m [1683, 1685, 1686, 1687, 1688, 1698, 1699, 1700, 1689, 1690, 1691, 1692, 1693, 1694, 1695, 1696, 1697, 1681, 1682, 1684, 1677] h g166 → (i ≤ (ruM r (tgW (tD P0.2.2 t)) (lns (inR P0.1 P0.2.2 bu t).flatten) (inR P0.1 P0.2.2 bu t).flatten).length) → (CpI S g166 (sT S 1683 m) (ruM r (tgW (tD P0.2.2 t)) (lns (inR P0.1 P0.2.2 bu t).flatten) (inR P0.1 P0.2.2 bu t).flatten).length i 0 ((ruM r (tgW (tD P0.2.2 t)) (lns (inR P0.1 P0.2.2 bu t).flatten) (inR P0.1 P0.2.2 bu t).flatten), (ruM r (tgW (tD P0.2.2 t)) (lns (inR P0.1 P0.2.2 bu t).flatten) (inR P0.1 P0.2.2 bu t).flatten), [])) → (AlR S g166 m (inR P0.1 P0.2.2 bu t).flatten) → Wp G d 265 166 [some (vR (some m)), some (vR (some (sT S fd m))), some (vI (t : Nat)), some (vR (some (sT S of m))), some (vI (i : Nat))] [] g166 Q := by
            intro m166
            induction m166 using Nat.strongRecOn with | ind m166 IH166 => ?_
            intro g166 i hm166 FRg166 il CI AL
            have okg166 := FRg166.ok
            have DP := DfC.r (f := fd) FRg166 hm (by rcases hfd with rfl | rfl <;> decide) DP_0
            have OS := OmS.r (f := of) FRg166 hm hof (by rcases hof with rfl | rfl <;> decide) OS_0
            refine w_iload d265_166 rfl ?_
            refine w_aload_n d265_168 rfl ?_
            refine w_dloadS d265_169 (okg166.kd hm) (fr1683 okg166 hm) ?_
            refine w_getI (x := (((ruM r (tgW (tD P0.2.2 t)) (lns (inR P0.1 P0.2.2 bu t).flatten) (inR P0.1 P0.2.2 bu t).flatten).length : Nat) : Int)) d265_172 (okg166.kd (kT1683 okg166 hm)) CI.1 ?_
            refine w_icmpge d265_175 (fun c175 => ?_) (fun c175 => ?_)
            · have hi : i = (ruM r (tgW (tD P0.2.2 t)) (lns (inR P0.1 P0.2.2 bu t).flatten) (inR P0.1 P0.2.2 bu t).flatten).length := by omega
              refine w_return d265_204 ?_
              obtain ⟨c1, c2, c3, c4, c5, c6⟩ := CI
              rw [hi] at c5
              rw [List.take_of_length_le (Nat.le_refl _)] at c4 c5
              refine kk g166 ((ruM r (tgW (tD P0.2.2 t)) (lns (inR P0.1 P0.2.2 bu t).flatten) (inR P0.1 P0.2.2 bu t).flatten), (ruM r (tgW (tD P0.2.2 t)) (lns (inR P0.1 P0.2.2 bu t).flatten) (inR P0.1 P0.2.2 bu t).flatten), []) FRg166 ⟨c1, c2, c3, c4, c5, c6⟩ ?_ AL
              rw [ro]
              unfold wrkV
              rw [if_neg (by omega)]
              unfold finV
              rw [if_neg (fun z => z rfl), if_neg (fun z => nb (rok.1.mpr z))]
              rfl
            · have hi : i < (ruM r (tgW (tD P0.2.2 t)) (lns (inR P0.1 P0.2.2 bu t).flatten) (inR P0.1 P0.2.2 bu t).flatten).length := by omega
              have rb := ra1536 okg166 (kT1683 ok hm) i
              have ov : AI g166 (sT S 1536 (sT S 1683 m)) i = (((ruM r (tgW (tD P0.2.2 t)) (lns (inR P0.1 P0.2.2 bu t).flatten) (inR P0.1 P0.2.2 bu t).flatten).getD i 0 : Nat) : Int) := by have c4 := CI.2.2.2.1; rw [List.take_of_length_le (Nat.le_refl _)] at c4; exact c4.at0 hi
              rw [ov] at rb
              refine w_aload_n d265_178 rfl ?_
              refine w_dloadS d265_179 (okg166.kd hm) (fr1683 okg166 hm) ?_
              refine w_dloadS d265_182 (okg166.kd (kT1683 okg166 hm)) (fr1538 okg166 (kT1683 okg166 hm)) ?_
              refine w_iload d265_185 rfl ?_
              refine w_aload_n d265_187 rfl ?_
              refine w_dloadS d265_188 (okg166.kd hm) (fr1683 okg166 hm) ?_
              refine w_dloadS d265_191 (okg166.kd (kT1683 okg166 hm)) (fr1536 okg166 (kT1683 okg166 hm)) ?_
              refine w_iload d265_194 rfl ?_
              refine w_ialoadV (x := (((ruM r (tgW (tD P0.2.2 t)) (lns (inR P0.1 P0.2.2 bu t).flatten) (inR P0.1 P0.2.2 bu t).flatten).getD i 0 : Nat) : Int)) d265_196 (gi1536 okg166 (kT1683 okg166 hm) (by omega)) ov ?_
              refine wa1538 d265_197 okg166 (kT1683 okg166 hm) (by omega) (by omega) (fun h197 e197 m197 => ?_)
              have e197 : h197 = sAI g166 (sT S 1538 (sT S 1683 m)) i (((ruM r (tgW (tD P0.2.2 t)) (lns (inR P0.1 P0.2.2 bu t).flatten) (inR P0.1 P0.2.2 bu t).flatten).getD i 0 : Nat) : Int) := e197
              have f197 : Fr S m [1683] _ _ := Fr.wB okg166 hm m197 (fun ζ e => ⟨1683, by decide, by decide, e ▸ (ok.so.uT (by decide) U_refl)⟩)
              have ok197 := f197.ok
              have FR197 := Fr.tr (F := [1683, 1685, 1686, 1687, 1688, 1698, 1699, 1700, 1689, 1690, 1691, 1692, 1693, 1694, 1695, 1696, 1697, 1681, 1682, 1684, 1677]) FRg166 f197 (by decide) (by decide)
              have AL := AL.r f197 hm
              have DP := DfC.r (f := fd) f197 hm (by rcases hfd with rfl | rfl <;> decide) DP
              have OS := OmS.r (f := of) f197 hm hof (by rcases hof with rfl | rfl <;> decide) OS
              refine w_iinc4 d265_198 rfl (by constructor <;> omega) ?_
              refine w_goto d265_201 ?_
              rw [show ((i : Nat) : Int) + 1 = ((i + 1 : Nat) : Int) by omega]
              have CI2 := CI.w2 okg166 (kT1683 ok hm) m197 e197 hi rfl (show (ruM r (tgW (tD P0.2.2 t)) (lns (inR P0.1 P0.2.2 bu t).flatten) (inR P0.1 P0.2.2 bu t).flatten).length ≤ 600 by omega)
              refine w_less ?_ (IH166 _ (by omega) h197 (i + 1) rfl FR197 (by omega) CI2 AL)
              exact ⟨Or.inr rfl, Or.inr rfl, Or.inr rfl, Or.inr rfl, Or.inr rfl, trivial⟩
          have CI : CpI S h160 (sT S 1683 m) (ruM r (tgW (tD P0.2.2 t)) (lns (inR P0.1 P0.2.2 bu t).flatten) (inR P0.1 P0.2.2 bu t).flatten).length 0 0 ((ruM r (tgW (tD P0.2.2 t)) (lns (inR P0.1 P0.2.2 bu t).flatten) (inR P0.1 P0.2.2 bu t).flatten), (ruM r (tgW (tD P0.2.2 t)) (lns (inR P0.1 P0.2.2 bu t).flatten) (inR P0.1 P0.2.2 bu t).flatten), []) := by
            obtain ⟨p1, p2, p3, p4, p5, p6⟩ := MK1
            have n1 : ∀ f, f < 4096 → ¬ sT S f (sT S 1683 m) = (sT S 1683 m) := fun f hf z => ok.so.pT (f := f) hf z
            refine ⟨?_, ?_, ?_, ?_, ?_, ?_⟩
            · rw [e160, FI_sFI, if_neg (by simp)]; exact p1
            · rw [e160, FI_sFI, if_pos ⟨rfl, rfl⟩]
            · rw [e160, FI_sFI, if_neg (by simp)]; exact p3
            · rw [List.take_of_length_le (Nat.le_refl _)]; exact p4.mo ok117 m160 (n1 1536 (by decide))
            · exact p5.mo ok117 m160 (n1 1538 (by decide))
            · exact p6.mo ok117 m160 (n1 1540 (by decide))
          refine w_less ?_ (L166 _ h160 0 rfl FR160 (Nat.zero_le _) CI AL)
          exact ⟨Or.inr rfl, Or.inr rfl, Or.inr rfl, Or.inr rfl, Or.inr rfl, trivial⟩
        · omega
      · have yb : 600 < (ruM r (tgW (tD P0.2.2 t)) (lns (inR P0.1 P0.2.2 bu t).flatten) (inR P0.1 P0.2.2 bu t).flatten).length := by
          by_cases z : 600 < (ruM r (tgW (tD P0.2.2 t)) (lns (inR P0.1 P0.2.2 bu t).flatten) (inR P0.1 P0.2.2 bu t).flatten).length
          · exact z
          · rw [decide_eq_false z] at c124; exact absurd rfl c124
        refine w_aload_n d265_127 rfl ?_
        refine w_dloadS d265_128 (ok117.kd hm) (fr1683 ok117 hm) ?_
        obtain ⟨g131, v131, s131⟩ := tg.al ok117 28 (by decide)
        refine w_getstaticS d265_131 v131 ?_
        refine w_callv2 d265_133 (by omega) rfl (ok117.kd (kT1683 ok117 hm)) (by simp) (Nat.le_of_ble_eq_true rfl) ?_
        refine k_O_fails ok117 (by omega) (kT1683 ok117 hm) s131 (by decide) (fun h133 m133 OM => ?_)
        have f133 : Fr S m [1683] _ _ := Fr.wB ok117 hm m133 (fun ζ u => ⟨1683, by decide, by decide, U_trans U_refl u⟩)
        have ok133 := f133.ok
        have FR133 := Fr.tr (F := [1683, 1685, 1686, 1687, 1688, 1698, 1699, 1700, 1689, 1690, 1691, 1692, 1693, 1694, 1695, 1696, 1697, 1681, 1682, 1684, 1677]) FR117 f133 (by decide) (by decide)
        have DP := DfC.r (f := fd) f133 hm (by rcases hfd with rfl | rfl <;> decide) DP
        have OS := OmS.r (f := of) f133 hm hof (by rcases hof with rfl | rfl <;> decide) OS
        have AL := AL.r f133 hm
        have BG := BG.r f133 hm
        refine w_return d265_136 ?_
        refine kk h133 ([], [], txt 28) FR133 OM ?_ AL
        unfold wrkV
        rw [if_neg (by omega)]
        unfold finV
        rw [if_neg (fun z => z rfl), if_pos (rok.1.mp yb)]
        rfl
    · have r1 : r = 1 := by omega
      refine w_iconst d265_62 (by decide) ?_
      refine w_istore4 d265_63 rfl ?_
      have L65 : ∀ (m65 : Nat) (g65 : Hp) (k : Nat), (tgI (tD P0.2.2 t)).length - k = m65 → Fr S m [1683, 1685, 1686, 1687, 1688, 1698, 1699, 1700, 1689, 1690, 1691, 1692, 1693, 1694, 1695, 1696, 1697, 1681, 1682, 1684, 1677] h g65 → (k ≤ (tgI (tD P0.2.2 t)).length) → (LnR S g65 m (inR P0.1 P0.2.2 bu t).flatten (lnK (inR P0.1 P0.2.2 bu t) k)) → (MkR S g65 m [] []) → (AlR S g65 m (inR P0.1 P0.2.2 bu t).flatten) → (BgR S g65 m (fun k => ((inR P0.1 P0.2.2 bu t).take k).flatten.length) ((tgI (tD P0.2.2 t)).length + 1)) → (DfC S g65 (sT S fd m) P0) → Wp G d 265 65 [some (vR (some m)), some (vR (some (sT S fd m))), some (vI (t : Nat)), some (vR (some (sT S of m))), some (vI (k : Nat))] [] g65 Q := by
        intro m65
        induction m65 using Nat.strongRecOn with | ind m65 IH65 => ?_
        intro g65 k hm65 FRg65 kl LN MK AL BG DP
        have okg65 := FRg65.ok
        have OS := OmS.r (f := of) FRg65 hm hof (by rcases hof with rfl | rfl <;> decide) OS_0
        refine w_iload d265_65 rfl ?_
        refine w_aload_n d265_67 rfl ?_
        refine w_dloadS d265_68 (okg65.kd (hdK ok hm hfd)) (fr1424 okg65 (hdK ok hm hfd)) ?_
        refine w_iload_n d265_71 rfl ?_
        refine w_ialoadV (x := ((tgI (tD P0.2.2 t)).length : Int)) d265_72 (gi1424 okg65 (hdK ok hm hfd) (by omega)) (DP.2.2.2.2 t ht).2.2.2.2.2.2.2.2.2.1 ?_
        refine w_icmpge d265_73 (fun c73 => ?_) (fun c73 => ?_)
        · have ek : k = (tgI (tD P0.2.2 t)).length := by omega
          rw [ek] at LN
          refine w_goto d265_102 ?_
          refine w_aload_n d265_114 rfl ?_
          refine w_aload_n d265_115 rfl ?_
          refine w_iload_n d265_116 rfl ?_
          have rok := ruM_ok (ins := (inR P0.1 P0.2.2 bu t)) (ls := (lnK (inR P0.1 P0.2.2 bu t) (tgI (tD P0.2.2 t)).length)) hr (by omega) ow (LN.b okg65 hm AL) (by rw [if_pos r1, ← inR_len (fs := P0.1) (bu := bu), lnK_n])
          refine w_callv3 d265_117 (by omega) rfl (okg65.kd hm) (by simp) (Nat.le_of_ble_eq_true rfl) ?_
          refine k_M_rule okg65 (by omega) hm MK LN AL DP tg hfd ht hr (fun h117 f117 MK => ?_)
          have ok117 := f117.ok
          have FR117 := Fr.tr (F := [1683, 1685, 1686, 1687, 1688, 1698, 1699, 1700, 1689, 1690, 1691, 1692, 1693, 1694, 1695, 1696, 1697, 1681, 1682, 1684, 1677]) FRg65 f117 (by decide) (by decide)
          have AL := AL.r f117 hm
          have BG := BG.r f117 hm
          have DP := DfC.r (f := fd) f117 hm (by rcases hfd with rfl | rfl <;> decide) DP
          have OS := OmS.r (f := of) f117 hm hof (by rcases hof with rfl | rfl <;> decide) OS
          refine w_aload_n d265_120 rfl ?_
          refine w_getI (x := (b2i (decide (600 < (ruM r (tgW (tD P0.2.2 t)) (lnK (inR P0.1 P0.2.2 bu t) (tgI (tD P0.2.2 t)).length) (inR P0.1 P0.2.2 bu t).flatten).length)))) d265_121 (ok117.kd hm) MK.2 ?_
          refine w_ifeq d265_124 (fun c124 => ?_) (fun c124 => ?_)
          · have nb : ¬ (600 < (ruM r (tgW (tD P0.2.2 t)) (lnK (inR P0.1 P0.2.2 bu t) (tgI (tD P0.2.2 t)).length) (inR P0.1 P0.2.2 bu t).flatten).length) := fun z => by rw [decide_eq_true z] at c124; exact absurd c124 (by decide)
            have t6 : (ruM r (tgW (tD P0.2.2 t)) (lnK (inR P0.1 P0.2.2 bu t) (tgI (tD P0.2.2 t)).length) (inR P0.1 P0.2.2 bu t).flatten).take 600 = (ruM r (tgW (tD P0.2.2 t)) (lnK (inR P0.1 P0.2.2 bu t) (tgI (tD P0.2.2 t)).length) (inR P0.1 P0.2.2 bu t).flatten) := List.take_of_length_le (by omega)
            have MK1 := MK.1
            rw [t6] at MK1
            have ro := rok.2 (by have := rok.1; omega)
            refine w_aload_n d265_137 rfl ?_
            refine w_dloadS d265_138 (ok117.kd (hdK ok hm hfd)) (fr1421 ok117 (hdK ok hm hfd)) ?_
            refine w_iload_n d265_141 rfl ?_
            refine w_ialoadV (x := ((r : Nat) : Int)) d265_142 (gi1421 ok117 (hdK ok hm hfd) (by omega)) ((DP.2.2.2.2 t ht).2.2.2.2.1.trans hr) ?_
            refine w_bipush d265_143 (by decide) ?_
            refine w_icmpne d265_145 (fun c145 => ?_) (fun c145 => ?_)
            · refine w_aload_n d265_149 rfl ?_
              refine w_dloadS d265_150 (ok117.kd hm) (fr1683 ok117 hm) ?_
              refine w_aload_n d265_153 rfl ?_
              refine w_dloadS d265_154 (ok117.kd hm) (fr1683 ok117 hm) ?_
              refine w_getI (x := (((ruM r (tgW (tD P0.2.2 t)) (lnK (inR P0.1 P0.2.2 bu t) (tgI (tD P0.2.2 t)).length) (inR P0.1 P0.2.2 bu t).flatten).length : Nat) : Int)) d265_157 (ok117.kd (kT1683 ok117 hm)) MK1.1 ?_
              refine wf1539 d265_160 ok117 (kT1683 ok117 hm) (by omega) (fun h160 e160 m160 => ?_)
              have f160 : Fr S m [1683] _ _ := Fr.wB ok117 hm m160 (fun ζ e => ⟨1683, by decide, by decide, e ▸ U_refl⟩)
              have ok160 := f160.ok
              have FR160 := Fr.tr (F := [1683, 1685, 1686, 1687, 1688, 1698, 1699, 1700, 1689, 1690, 1691, 1692, 1693, 1694, 1695, 1696, 1697, 1681, 1682, 1684, 1677]) FR117 f160 (by decide) (by decide)
              have AL := AL.r f160 hm
              have BG := BG.r f160 hm
              have DP := DfC.r (f := fd) f160 hm (by rcases hfd with rfl | rfl <;> decide) DP
              have OS := OmS.r (f := of) f160 hm hof (by rcases hof with rfl | rfl <;> decide) OS
              refine w_iconst d265_163 (by decide) ?_
              refine w_istore4 d265_164 rfl ?_
              have L166 : ∀ (m166 : Nat) (g166 : Hp) (i : Nat), (ruM r (tgW (tD P0.2.2 t)) (lnK (inR P0.1 P0.2.2 bu t) (tgI (tD P0.2.2 t)).length) (inR P0.1 P0.2.2 bu t).flatten).length - i = m166 → Fr S m [1683, 1685, 1686, 1687, 1688, 1698, 1699, 1700, 1689, 1690, 1691, 1692, 1693, 1694, 1695, 1696, 1697, 1681, 1682, 1684, 1677] h g166 → (i ≤ (ruM r (tgW (tD P0.2.2 t)) (lnK (inR P0.1 P0.2.2 bu t) (tgI (tD P0.2.2 t)).length) (inR P0.1 P0.2.2 bu t).flatten).length) → (CpI S g166 (sT S 1683 m) (ruM r (tgW (tD P0.2.2 t)) (lnK (inR P0.1 P0.2.2 bu t) (tgI (tD P0.2.2 t)).length) (inR P0.1 P0.2.2 bu t).flatten).length i 0 ((ruM r (tgW (tD P0.2.2 t)) (lnK (inR P0.1 P0.2.2 bu t) (tgI (tD P0.2.2 t)).length) (inR P0.1 P0.2.2 bu t).flatten), (ruM r (tgW (tD P0.2.2 t)) (lnK (inR P0.1 P0.2.2 bu t) (tgI (tD P0.2.2 t)).length) (inR P0.1 P0.2.2 bu t).flatten), [])) → (AlR S g166 m (inR P0.1 P0.2.2 bu t).flatten) → Wp G d 265 166 [some (vR (some m)), some (vR (some (sT S fd m))), some (vI (t : Nat)), some (vR (some (sT S of m))), some (vI (i : Nat))] [] g166 Q := by
                intro m166
                induction m166 using Nat.strongRecOn with | ind m166 IH166 => ?_
                intro g166 i hm166 FRg166 il CI AL
                have okg166 := FRg166.ok
                have DP := DfC.r (f := fd) FRg166 hm (by rcases hfd with rfl | rfl <;> decide) DP_0
                have OS := OmS.r (f := of) FRg166 hm hof (by rcases hof with rfl | rfl <;> decide) OS_0
                refine w_iload d265_166 rfl ?_
                refine w_aload_n d265_168 rfl ?_
                refine w_dloadS d265_169 (okg166.kd hm) (fr1683 okg166 hm) ?_
                refine w_getI (x := (((ruM r (tgW (tD P0.2.2 t)) (lnK (inR P0.1 P0.2.2 bu t) (tgI (tD P0.2.2 t)).length) (inR P0.1 P0.2.2 bu t).flatten).length : Nat) : Int)) d265_172 (okg166.kd (kT1683 okg166 hm)) CI.1 ?_
                refine w_icmpge d265_175 (fun c175 => ?_) (fun c175 => ?_)
                · have hi : i = (ruM r (tgW (tD P0.2.2 t)) (lnK (inR P0.1 P0.2.2 bu t) (tgI (tD P0.2.2 t)).length) (inR P0.1 P0.2.2 bu t).flatten).length := by omega
                  refine w_return d265_204 ?_
                  obtain ⟨c1, c2, c3, c4, c5, c6⟩ := CI
                  rw [hi] at c5
                  rw [List.take_of_length_le (Nat.le_refl _)] at c4 c5
                  refine kk g166 ((ruM r (tgW (tD P0.2.2 t)) (lnK (inR P0.1 P0.2.2 bu t) (tgI (tD P0.2.2 t)).length) (inR P0.1 P0.2.2 bu t).flatten), (ruM r (tgW (tD P0.2.2 t)) (lnK (inR P0.1 P0.2.2 bu t) (tgI (tD P0.2.2 t)).length) (inR P0.1 P0.2.2 bu t).flatten), []) FRg166 ⟨c1, c2, c3, c4, c5, c6⟩ ?_ AL
                  rw [ro]
                  unfold wrkV
                  rw [if_neg (by omega)]
                  unfold finV
                  rw [if_neg (fun z => z rfl), if_neg (fun z => nb (rok.1.mpr z))]
                  rfl
                · have hi : i < (ruM r (tgW (tD P0.2.2 t)) (lnK (inR P0.1 P0.2.2 bu t) (tgI (tD P0.2.2 t)).length) (inR P0.1 P0.2.2 bu t).flatten).length := by omega
                  have rb := ra1536 okg166 (kT1683 ok hm) i
                  have ov : AI g166 (sT S 1536 (sT S 1683 m)) i = (((ruM r (tgW (tD P0.2.2 t)) (lnK (inR P0.1 P0.2.2 bu t) (tgI (tD P0.2.2 t)).length) (inR P0.1 P0.2.2 bu t).flatten).getD i 0 : Nat) : Int) := by have c4 := CI.2.2.2.1; rw [List.take_of_length_le (Nat.le_refl _)] at c4; exact c4.at0 hi
                  rw [ov] at rb
                  refine w_aload_n d265_178 rfl ?_
                  refine w_dloadS d265_179 (okg166.kd hm) (fr1683 okg166 hm) ?_
                  refine w_dloadS d265_182 (okg166.kd (kT1683 okg166 hm)) (fr1538 okg166 (kT1683 okg166 hm)) ?_
                  refine w_iload d265_185 rfl ?_
                  refine w_aload_n d265_187 rfl ?_
                  refine w_dloadS d265_188 (okg166.kd hm) (fr1683 okg166 hm) ?_
                  refine w_dloadS d265_191 (okg166.kd (kT1683 okg166 hm)) (fr1536 okg166 (kT1683 okg166 hm)) ?_
                  refine w_iload d265_194 rfl ?_
                  refine w_ialoadV (x := (((ruM r (tgW (tD P0.2.2 t)) (lnK (inR P0.1 P0.2.2 bu t) (tgI (tD P0.2.2 t)).length) (inR P0.1 P0.2.2 bu t).flatten).getD i 0 : Nat) : Int)) d265_196 (gi1536 okg166 (kT1683 okg166 hm) (by omega)) ov ?_
                  refine wa1538 d265_197 okg166 (kT1683 okg166 hm) (by omega) (by omega) (fun h197 e197 m197 => ?_)
                  have e197 : h197 = sAI g166 (sT S 1538 (sT S 1683 m)) i (((ruM r (tgW (tD P0.2.2 t)) (lnK (inR P0.1 P0.2.2 bu t) (tgI (tD P0.2.2 t)).length) (inR P0.1 P0.2.2 bu t).flatten).getD i 0 : Nat) : Int) := e197
                  have f197 : Fr S m [1683] _ _ := Fr.wB okg166 hm m197 (fun ζ e => ⟨1683, by decide, by decide, e ▸ (ok.so.uT (by decide) U_refl)⟩)
                  have ok197 := f197.ok
                  have FR197 := Fr.tr (F := [1683, 1685, 1686, 1687, 1688, 1698, 1699, 1700, 1689, 1690, 1691, 1692, 1693, 1694, 1695, 1696, 1697, 1681, 1682, 1684, 1677]) FRg166 f197 (by decide) (by decide)
                  have AL := AL.r f197 hm
                  have DP := DfC.r (f := fd) f197 hm (by rcases hfd with rfl | rfl <;> decide) DP
                  have OS := OmS.r (f := of) f197 hm hof (by rcases hof with rfl | rfl <;> decide) OS
                  refine w_iinc4 d265_198 rfl (by constructor <;> omega) ?_
                  refine w_goto d265_201 ?_
                  rw [show ((i : Nat) : Int) + 1 = ((i + 1 : Nat) : Int) by omega]
                  have CI2 := CI.w2 okg166 (kT1683 ok hm) m197 e197 hi rfl (show (ruM r (tgW (tD P0.2.2 t)) (lnK (inR P0.1 P0.2.2 bu t) (tgI (tD P0.2.2 t)).length) (inR P0.1 P0.2.2 bu t).flatten).length ≤ 600 by omega)
                  refine w_less ?_ (IH166 _ (by omega) h197 (i + 1) rfl FR197 (by omega) CI2 AL)
                  exact ⟨Or.inr rfl, Or.inr rfl, Or.inr rfl, Or.inr rfl, Or.inr rfl, trivial⟩
              have CI : CpI S h160 (sT S 1683 m) (ruM r (tgW (tD P0.2.2 t)) (lnK (inR P0.1 P0.2.2 bu t) (tgI (tD P0.2.2 t)).length) (inR P0.1 P0.2.2 bu t).flatten).length 0 0 ((ruM r (tgW (tD P0.2.2 t)) (lnK (inR P0.1 P0.2.2 bu t) (tgI (tD P0.2.2 t)).length) (inR P0.1 P0.2.2 bu t).flatten), (ruM r (tgW (tD P0.2.2 t)) (lnK (inR P0.1 P0.2.2 bu t) (tgI (tD P0.2.2 t)).length) (inR P0.1 P0.2.2 bu t).flatten), []) := by
                obtain ⟨p1, p2, p3, p4, p5, p6⟩ := MK1
                have n1 : ∀ f, f < 4096 → ¬ sT S f (sT S 1683 m) = (sT S 1683 m) := fun f hf z => ok.so.pT (f := f) hf z
                refine ⟨?_, ?_, ?_, ?_, ?_, ?_⟩
                · rw [e160, FI_sFI, if_neg (by simp)]; exact p1
                · rw [e160, FI_sFI, if_pos ⟨rfl, rfl⟩]
                · rw [e160, FI_sFI, if_neg (by simp)]; exact p3
                · rw [List.take_of_length_le (Nat.le_refl _)]; exact p4.mo ok117 m160 (n1 1536 (by decide))
                · exact p5.mo ok117 m160 (n1 1538 (by decide))
                · exact p6.mo ok117 m160 (n1 1540 (by decide))
              refine w_less ?_ (L166 _ h160 0 rfl FR160 (Nat.zero_le _) CI AL)
              exact ⟨Or.inr rfl, Or.inr rfl, Or.inr rfl, Or.inr rfl, Or.inr rfl, trivial⟩
            · omega
          · have yb : 600 < (ruM r (tgW (tD P0.2.2 t)) (lnK (inR P0.1 P0.2.2 bu t) (tgI (tD P0.2.2 t)).length) (inR P0.1 P0.2.2 bu t).flatten).length := by
              by_cases z : 600 < (ruM r (tgW (tD P0.2.2 t)) (lnK (inR P0.1 P0.2.2 bu t) (tgI (tD P0.2.2 t)).length) (inR P0.1 P0.2.2 bu t).flatten).length
              · exact z
              · rw [decide_eq_false z] at c124; exact absurd rfl c124
            refine w_aload_n d265_127 rfl ?_
            refine w_dloadS d265_128 (ok117.kd hm) (fr1683 ok117 hm) ?_
            obtain ⟨g131, v131, s131⟩ := tg.al ok117 28 (by decide)
            refine w_getstaticS d265_131 v131 ?_
            refine w_callv2 d265_133 (by omega) rfl (ok117.kd (kT1683 ok117 hm)) (by simp) (Nat.le_of_ble_eq_true rfl) ?_
            refine k_O_fails ok117 (by omega) (kT1683 ok117 hm) s131 (by decide) (fun h133 m133 OM => ?_)
            have f133 : Fr S m [1683] _ _ := Fr.wB ok117 hm m133 (fun ζ u => ⟨1683, by decide, by decide, U_trans U_refl u⟩)
            have ok133 := f133.ok
            have FR133 := Fr.tr (F := [1683, 1685, 1686, 1687, 1688, 1698, 1699, 1700, 1689, 1690, 1691, 1692, 1693, 1694, 1695, 1696, 1697, 1681, 1682, 1684, 1677]) FR117 f133 (by decide) (by decide)
            have AL := AL.r f133 hm
            have BG := BG.r f133 hm
            have DP := DfC.r (f := fd) f133 hm (by rcases hfd with rfl | rfl <;> decide) DP
            have OS := OmS.r (f := of) f133 hm hof (by rcases hof with rfl | rfl <;> decide) OS
            refine w_return d265_136 ?_
            refine kk h133 ([], [], txt 28) FR133 OM ?_ AL
            unfold wrkV
            rw [if_neg (by omega)]
            unfold finV
            rw [if_neg (fun z => z rfl), if_pos (rok.1.mp yb)]
            rfl
        · have hk : k < (tgI (tD P0.2.2 t)).length := by omega
          have hk2 : k < (inR P0.1 P0.2.2 bu t).length := by rw [inR_len]; exact hk
          have sf := sl_flat hk2
          have b1 := flt_tot (ins := (inR P0.1 P0.2.2 bu t)) (k := k + 1)
          have b0 : ((inR P0.1 P0.2.2 bu t).take k).flatten.length ≤ ((inR P0.1 P0.2.2 bu t).take (k + 1)).flatten.length := by rw [flt_succ hk2, List.length_append]; omega
          refine w_aload_n d265_76 rfl ?_
          refine w_aload_n d265_77 rfl ?_
          refine w_dloadS d265_78 (okg65.kd hm) (fr1684 okg65 hm) ?_
          refine w_iload d265_81 rfl ?_
          refine w_ialoadV (x := ((((inR P0.1 P0.2.2 bu t).take k).flatten.length : Nat) : Int)) d265_83 (gi1684 okg65 hm (by omega)) (BG k (by omega)) ?_
          refine w_aload_n d265_84 rfl ?_
          refine w_dloadS d265_85 (okg65.kd hm) (fr1684 okg65 hm) ?_
          refine w_iload d265_88 rfl ?_
          refine w_iconst d265_90 (by decide) ?_
          refine w_iadd d265_91 (by constructor <;> omega) ?_
          rw [show ((k : Nat) : Int) + 1 = ((k + 1 : Nat) : Int) by omega]
          refine w_ialoadV (x := ((((inR P0.1 P0.2.2 bu t).take (k + 1)).flatten.length : Nat) : Int)) d265_92 (gi1684 okg65 hm (by omega)) (BG (k + 1) (by omega)) ?_
          refine w_callv3 d265_93 (by omega) rfl (okg65.kd hm) (by simp) (Nat.le_of_ble_eq_true rfl) ?_
          refine k_M_addLines okg65 (by omega) hm LN AL ⟨b0, b1⟩ (lnK_le (by omega)) (fun h93 f93 LN => ?_)
          have ok93 := f93.ok
          have FR93 := Fr.tr (F := [1683, 1685, 1686, 1687, 1688, 1698, 1699, 1700, 1689, 1690, 1691, 1692, 1693, 1694, 1695, 1696, 1697, 1681, 1682, 1684, 1677]) FRg65 f93 (by decide) (by decide)
          have MK := MK.r f93 hm
          have AL := AL.r f93 hm
          have BG := BG.r f93 hm
          have DP := DfC.r (f := fd) f93 hm (by rcases hfd with rfl | rfl <;> decide) DP
          have OS := OmS.r (f := of) f93 hm hof (by rcases hof with rfl | rfl <;> decide) OS
          rw [sf, ← lnK_s hk2] at LN
          refine w_iinc4 d265_96 rfl (by constructor <;> omega) ?_
          refine w_goto d265_99 ?_
          rw [show ((k : Nat) : Int) + 1 = ((k + 1 : Nat) : Int) by omega]
          refine w_less ?_ (IH65 _ (by omega) h93 (k + 1) rfl FR93 (by omega) LN MK AL BG DP)
          exact ⟨Or.inr rfl, Or.inr rfl, Or.inr rfl, Or.inr rfl, Or.inr rfl, trivial⟩
      refine w_less ?_ (L65 _ h21 0 rfl FR21 (Nat.zero_le _) LN MK AL BG DP)
      exact ⟨Or.inr rfl, Or.inr rfl, Or.inr rfl, Or.inr rfl, Or.inr rfl, trivial⟩
  · have r7 : r = 7 := by omega
    have hw7 : wrkV (tD P0.2.2 t) (inR P0.1 P0.2.2 bu t) = finV (wsT (cmW (tD P0.2.2 t) (inR P0.1 P0.2.2 bu t)).2.1 false (cmW (tD P0.2.2 t) (inR P0.1 P0.2.2 bu t)).2.1.length) (badT (cmW (tD P0.2.2 t) (inR P0.1 P0.2.2 bu t)).1) (wsT (cmW (tD P0.2.2 t) (inR P0.1 P0.2.2 bu t)).2.1 true (cmW (tD P0.2.2 t) (inR P0.1 P0.2.2 bu t)).2.1.length) := by unfold wrkV; rw [if_pos (by rw [hr, r7]; rfl)]
    refine w_aload_n d265_35 rfl ?_
    refine w_aload_n d265_36 rfl ?_
    refine w_iload_n d265_37 rfl ?_
    refine w_callv3 d265_38 (by omega) rfl (ok21.kd hm) (by simp) (Nat.le_of_ble_eq_true rfl) ?_
    refine k_M_compileC ok21 (by omega) hm MK AL BG DP tg hfd ht rfl inR_len hi6 hi1 (fun h38 f38 CO => ?_)
    have ok38 := f38.ok
    have FR38 := Fr.tr (F := [1683, 1685, 1686, 1687, 1688, 1698, 1699, 1700, 1689, 1690, 1691, 1692, 1693, 1694, 1695, 1696, 1697, 1681, 1682, 1684, 1677]) FR21 f38 (by decide) (by decide)
    have DP := DfC.r (f := fd) f38 hm (by rcases hfd with rfl | rfl <;> decide) DP
    have OS := OmS.r (f := of) f38 hm hof (by rcases hof with rfl | rfl <;> decide) OS
    have AL := AL.r f38 hm
    have BG := BG.r f38 hm
    obtain ⟨x, OX, CO⟩ := CO
    refine w_aload_n d265_41 rfl ?_
    refine w_dloadS d265_42 (ok38.kd hm) (fr1683 ok38 hm) ?_
    refine w_getI (x := ((x.2.2.length : Nat) : Int)) d265_45 (ok38.kd (kT1683 ok38 hm)) OX.2.2.1 ?_
    refine w_ifle d265_48 (fun c48 => ?_) (fun c48 => ?_)
    · have xe : x.2.2 = [] := List.length_eq_zero_iff.mp (by omega)
      obtain ⟨-, cn, X, MK, hX⟩ := CO.resolve_left (fun z => z.1 xe)
      refine w_aload_n d265_120 rfl ?_
      refine w_getI (x := (b2i (decide (600 < (wsT (cmW (tD P0.2.2 t) (inR P0.1 P0.2.2 bu t)).2.1 false (cmW (tD P0.2.2 t) (inR P0.1 P0.2.2 bu t)).2.1.length).length)))) d265_121 (ok38.kd hm) MK.2 ?_
      refine w_ifeq d265_124 (fun c124 => ?_) (fun c124 => ?_)
      · have nb : ¬ (600 < (wsT (cmW (tD P0.2.2 t) (inR P0.1 P0.2.2 bu t)).2.1 false (cmW (tD P0.2.2 t) (inR P0.1 P0.2.2 bu t)).2.1.length).length) := fun z => by rw [decide_eq_true z] at c124; exact absurd c124 (by decide)
        refine w_aload_n d265_137 rfl ?_
        refine w_dloadS d265_138 (ok38.kd (hdK ok hm hfd)) (fr1421 ok38 (hdK ok hm hfd)) ?_
        refine w_iload_n d265_141 rfl ?_
        refine w_ialoadV (x := ((r : Nat) : Int)) d265_142 (gi1421 ok38 (hdK ok hm hfd) (by omega)) ((DP.2.2.2.2 t ht).2.2.2.2.1.trans hr) ?_
        refine w_bipush d265_143 (by decide) ?_
        refine w_icmpne d265_145 (fun c145 => ?_) (fun c145 => ?_)
        · omega
        · refine w_return d265_148 ?_
          have MK1 := MK.1
          rw [show (wsT (cmW (tD P0.2.2 t) (inR P0.1 P0.2.2 bu t)).2.1 false (cmW (tD P0.2.2 t) (inR P0.1 P0.2.2 bu t)).2.1.length).take 600 = (wsT (cmW (tD P0.2.2 t) (inR P0.1 P0.2.2 bu t)).2.1 false (cmW (tD P0.2.2 t) (inR P0.1 P0.2.2 bu t)).2.1.length) from List.take_of_length_le (by omega)] at MK1
          refine kk h38 _ FR38 MK1 ?_ AL
          rw [hw7, cn, hX (by omega)]
          unfold finV badT
          rw [if_neg (fun z => z rfl), if_neg nb]
          rfl
      · have yb : 600 < (wsT (cmW (tD P0.2.2 t) (inR P0.1 P0.2.2 bu t)).2.1 false (cmW (tD P0.2.2 t) (inR P0.1 P0.2.2 bu t)).2.1.length).length := by
          by_cases z : 600 < (wsT (cmW (tD P0.2.2 t) (inR P0.1 P0.2.2 bu t)).2.1 false (cmW (tD P0.2.2 t) (inR P0.1 P0.2.2 bu t)).2.1.length).length
          · exact z
          · rw [decide_eq_false z] at c124; exact absurd rfl c124
        refine w_aload_n d265_127 rfl ?_
        refine w_dloadS d265_128 (ok38.kd hm) (fr1683 ok38 hm) ?_
        obtain ⟨g131, v131, s131⟩ := tg.al ok38 28 (by decide)
        refine w_getstaticS d265_131 v131 ?_
        refine w_callv2 d265_133 (by omega) rfl (ok38.kd (kT1683 ok38 hm)) (by simp) (Nat.le_of_ble_eq_true rfl) ?_
        refine k_O_fails ok38 (by omega) (kT1683 ok38 hm) s131 (by decide) (fun h133 m133 OM => ?_)
        have f133 : Fr S m [1683] _ _ := Fr.wB ok38 hm m133 (fun ζ u => ⟨1683, by decide, by decide, U_trans U_refl u⟩)
        have ok133 := f133.ok
        have FR133 := Fr.tr (F := [1683, 1685, 1686, 1687, 1688, 1698, 1699, 1700, 1689, 1690, 1691, 1692, 1693, 1694, 1695, 1696, 1697, 1681, 1682, 1684, 1677]) FR38 f133 (by decide) (by decide)
        have DP := DfC.r (f := fd) f133 hm (by rcases hfd with rfl | rfl <;> decide) DP
        have OS := OmS.r (f := of) f133 hm hof (by rcases hof with rfl | rfl <;> decide) OS
        have AL := AL.r f133 hm
        have BG := BG.r f133 hm
        refine w_return d265_136 ?_
        refine kk h133 ([], [], txt 28) FR133 OM ?_ AL
        rw [hw7, cn]
        unfold finV badT
        rw [if_neg (fun z => z rfl), if_pos yb]
        rfl
    · obtain ⟨-, z, cz, xz⟩ := CO.resolve_right (fun z => by rw [z.1] at c48; exact absurd c48 (by decide))
      refine w_return d265_51 ?_
      refine kk h38 x FR38 OX ?_ AL
      rw [hw7, xz, cz]
      unfold finV
      have bl : badT (some z) ≠ [] := fun e => by
        have : (badT (some z)).length = 0 := by rw [e]; rfl
        unfold badT at this
        rw [List.length_append, show (txt 27).length = 4 by decide] at this
        omega
      rw [if_pos bl]
      unfold oV
      rw [decide_eq_false bl]
