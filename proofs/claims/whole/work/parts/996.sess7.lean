/-! a session: go -/
/-- what a session's steps may change -/
def GA (S : Shp) (x z : Nat) : Prop := U S x z ∨ z = sT S 1288 (sX S) ∨ z = sT S 1153 (sT S 1288 (sX S)) ∨ z = sT S 1154 (sT S 1288 (sX S)) ∨ z = sT S 1155 (sT S 1288 (sX S)) ∨ z = sT S 1156 (sT S 1288 (sX S)) ∨ z = sT S 1157 (sT S 1288 (sX S)) ∨ z = sT S 1158 (sT S 1288 (sX S)) ∨ z = sT S 1159 (sT S 1288 (sX S)) ∨ z = sT S 1160 (sT S 1288 (sX S)) ∨ z = sT S 1161 (sT S 1288 (sX S)) ∨ z = sT S 1163 (sT S 1288 (sX S)) ∨ z = sT S 1164 (sT S 1288 (sX S))
def SesG (S : Shp) (h : Hp) (x : Nat) (P : PlV) (re : Nat → OutV) (ed : Nat → Nat → Nat) (nd : Nat → Nat) (s : GoV) (g : Bool) (k : Nat) (y : Bool) : Prop := SesC S h x P s.1 s.2.1 re ed s.2.2.1 s.2.2.2.1 (goR s) nd g k y
/-- the store's room -/
def stL (S : Shp) (x : Nat) : Nat := sL S (sT S 900 (sT S 769 x))
theorem goG_off {P : PlV} {nd : Nat → Nat} {L n : Nat} {s : GoV} {k : Nat} : goG P nd L n s false k = (s, false, k) := by
  rcases n with - | m
  · rfl
  · rw [goG, if_neg (by decide)]
theorem goG_on {P : PlV} {nd : Nat → Nat} {L n : Nat} {s : GoV} {k : Nat} (hn : 0 < n) : goG P nd L n s true k = goG P nd L (n - 1) (trs P nd L s 2) (onB P nd (trs P nd L s 2)) (k + 1) := by
  obtain ⟨m, rfl⟩ : ∃ m, n = m + 1 := ⟨n - 1, by omega⟩
  rw [goG, if_pos rfl]
  rfl
/-- what holds of a session between its turns -/
def TurI (S : Shp) (h : Hp) (x : Nat) (P : PlV) (re : Nat → OutV) (ed : Nat → Nat → Nat) (nd : Nat → Nat) (s : GoV) (g : Bool) (k : Nat) (y : Bool) (C : Nat → Nat) (c : Nat) : Prop := SesG S h x P re ed nd s g k y ∧ SesI P s.1 s.2.1 (goR s) 2 ∧ SesL (goR s) 2 ∧ (g = true → y = true → cho P nd (goR s) < 0) ∧ (∀ j, rC (goR s) j ≤ C j + c) ∧ rl h (sT S 1152 (sT S 1288 (sX S))) = []
theorem d99_0 : dc 99 0 = some (.iconst 0, 1) := by decide +kernel
theorem d99_1 : dc 99 1 = some (.istore_n 2, 2) := by decide +kernel
theorem d99_2 : dc 99 2 = some (.iload_n 2, 3) := by decide +kernel
theorem d99_3 : dc 99 3 = some (.iload_n 1, 4) := by decide +kernel
theorem d99_4 : dc 99 4 = some (.if_icmp .ge ((208 : Nat) : Int), 7) := by decide +kernel
theorem d99_7 : dc 99 7 = some (.aload_n 0, 8) := by decide +kernel
theorem d99_8 : dc 99 8 = some (.getfield 771, 11) := by decide +kernel
theorem d99_11 : dc 99 11 = some (.ifCond .eq ((208 : Nat) : Int), 14) := by decide +kernel
theorem d99_14 : dc 99 14 = some (.iconst 0, 15) := by decide +kernel
theorem d99_15 : dc 99 15 = some (.istore_n 3, 16) := by decide +kernel
theorem d99_16 : dc 99 16 = some (.iload_n 3, 17) := by decide +kernel
theorem d99_17 : dc 99 17 = some (.iconst 2, 18) := by decide +kernel
theorem d99_18 : dc 99 18 = some (.if_icmp .ge ((151 : Nat) : Int), 21) := by decide +kernel
theorem d99_21 : dc 99 21 = some (.aload_n 0, 22) := by decide +kernel
theorem d99_22 : dc 99 22 = some (.dload 775, 25) := by decide +kernel
theorem d99_25 : dc 99 25 = some (.iload_n 3, 26) := by decide +kernel
theorem d99_26 : dc 99 26 = some (.iaload, 27) := by decide +kernel
theorem d99_27 : dc 99 27 = some (.ifCond .ge ((46 : Nat) : Int), 30) := by decide +kernel
theorem d99_30 : dc 99 30 = some (.aload_n 0, 31) := by decide +kernel
theorem d99_31 : dc 99 31 = some (.getfield 783, 34) := by decide +kernel
theorem d99_34 : dc 99 34 = some (.ifCond .ne ((46 : Nat) : Int), 37) := by decide +kernel
theorem d99_37 : dc 99 37 = some (.aload_n 0, 38) := by decide +kernel
theorem d99_38 : dc 99 38 = some (.iload_n 3, 39) := by decide +kernel
theorem d99_39 : dc 99 39 = some (.aload_n 0, 40) := by decide +kernel
theorem d99_40 : dc 99 40 = some (.invokevirtual 100, 43) := by decide +kernel
theorem d99_43 : dc 99 43 = some (.invokevirtual 102, 46) := by decide +kernel
theorem d99_46 : dc 99 46 = some (.aload_n 0, 47) := by decide +kernel
theorem d99_47 : dc 99 47 = some (.dload 775, 50) := by decide +kernel
theorem d99_50 : dc 99 50 = some (.iload_n 3, 51) := by decide +kernel
theorem d99_51 : dc 99 51 = some (.iaload, 52) := by decide +kernel
theorem d99_52 : dc 99 52 = some (.ifCond .ge ((58 : Nat) : Int), 55) := by decide +kernel
theorem d99_55 : dc 99 55 = some (.goto ((145 : Nat) : Int), 58) := by decide +kernel
theorem d99_58 : dc 99 58 = some (.aload_n 0, 59) := by decide +kernel
theorem d99_59 : dc 99 59 = some (.dload 776, 62) := by decide +kernel
theorem d99_62 : dc 99 62 = some (.iload_n 3, 63) := by decide +kernel
theorem d99_63 : dc 99 63 = some (.dup2, 64) := by decide +kernel
theorem d99_64 : dc 99 64 = some (.iaload, 65) := by decide +kernel
theorem d99_65 : dc 99 65 = some (.iconst 1, 66) := by decide +kernel
theorem d99_66 : dc 99 66 = some (.isub, 67) := by decide +kernel
theorem d99_67 : dc 99 67 = some (.iastore, 68) := by decide +kernel
theorem d99_68 : dc 99 68 = some (.aload_n 0, 69) := by decide +kernel
theorem d99_69 : dc 99 69 = some (.dload 776, 72) := by decide +kernel
theorem d99_72 : dc 99 72 = some (.iload_n 3, 73) := by decide +kernel
theorem d99_73 : dc 99 73 = some (.iaload, 74) := by decide +kernel
theorem d99_74 : dc 99 74 = some (.ifCond .le ((80 : Nat) : Int), 77) := by decide +kernel
theorem d99_77 : dc 99 77 = some (.goto ((145 : Nat) : Int), 80) := by decide +kernel
theorem d99_80 : dc 99 80 = some (.aload_n 0, 81) := by decide +kernel
theorem d99_81 : dc 99 81 = some (.dload 777, 84) := by decide +kernel
theorem d99_84 : dc 99 84 = some (.iload_n 3, 85) := by decide +kernel
theorem d99_85 : dc 99 85 = some (.iaload, 86) := by decide +kernel
theorem d99_86 : dc 99 86 = some (.ifCond .ne ((140 : Nat) : Int), 89) := by decide +kernel
theorem d99_89 : dc 99 89 = some (.aload_n 0, 90) := by decide +kernel
theorem d99_90 : dc 99 90 = some (.dload 770, 93) := by decide +kernel
theorem d99_93 : dc 99 93 = some (.dload 392, 96) := by decide +kernel
theorem d99_96 : dc 99 96 = some (.aload_n 0, 97) := by decide +kernel
theorem d99_97 : dc 99 97 = some (.dload 775, 100) := by decide +kernel
theorem d99_100 : dc 99 100 = some (.iload_n 3, 101) := by decide +kernel
theorem d99_101 : dc 99 101 = some (.iaload, 102) := by decide +kernel
theorem d99_102 : dc 99 102 = some (.aaload, 103) := by decide +kernel
theorem d99_103 : dc 99 103 = some (.astore 4, 105) := by decide +kernel
theorem d99_105 : dc 99 105 = some (.aload_n 0, 106) := by decide +kernel
theorem d99_106 : dc 99 106 = some (.dload 768, 109) := by decide +kernel
theorem d99_109 : dc 99 109 = some (.aload_n 0, 110) := by decide +kernel
theorem d99_110 : dc 99 110 = some (.dload 770, 113) := by decide +kernel
theorem d99_113 : dc 99 113 = some (.aload_n 0, 114) := by decide +kernel
theorem d99_114 : dc 99 114 = some (.dload 769, 117) := by decide +kernel
theorem d99_117 : dc 99 117 = some (.dload 896, 120) := by decide +kernel
theorem d99_120 : dc 99 120 = some (.aload 4, 122) := by decide +kernel
theorem d99_122 : dc 99 122 = some (.invokevirtual 105, 125) := by decide +kernel
theorem d99_125 : dc 99 125 = some (.aload_n 0, 126) := by decide +kernel
theorem d99_126 : dc 99 126 = some (.dload 768, 129) := by decide +kernel
theorem d99_129 : dc 99 129 = some (.aload 4, 131) := by decide +kernel
theorem d99_131 : dc 99 131 = some (.aload_n 0, 132) := by decide +kernel
theorem d99_132 : dc 99 132 = some (.dload 778, 135) := by decide +kernel
theorem d99_135 : dc 99 135 = some (.iload_n 3, 136) := by decide +kernel
theorem d99_136 : dc 99 136 = some (.aaload, 137) := by decide +kernel
theorem d99_137 : dc 99 137 = some (.invokevirtual 114, 140) := by decide +kernel
theorem d99_140 : dc 99 140 = some (.aload_n 0, 141) := by decide +kernel
theorem d99_141 : dc 99 141 = some (.iload_n 3, 142) := by decide +kernel
theorem d99_142 : dc 99 142 = some (.invokevirtual 132, 145) := by decide +kernel
theorem d99_145 : dc 99 145 = some (.iinc 3 1, 148) := by decide +kernel
theorem d99_148 : dc 99 148 = some (.goto ((16 : Nat) : Int), 151) := by decide +kernel
theorem d99_151 : dc 99 151 = some (.aload_n 0, 152) := by decide +kernel
theorem d99_152 : dc 99 152 = some (.dup, 153) := by decide +kernel
theorem d99_153 : dc 99 153 = some (.getfield 772, 156) := by decide +kernel
theorem d99_156 : dc 99 156 = some (.iconst 1, 157) := by decide +kernel
theorem d99_157 : dc 99 157 = some (.iadd, 158) := by decide +kernel
theorem d99_158 : dc 99 158 = some (.putfield 772, 161) := by decide +kernel
theorem d99_161 : dc 99 161 = some (.aload_n 0, 162) := by decide +kernel
theorem d99_162 : dc 99 162 = some (.aload_n 0, 163) := by decide +kernel
theorem d99_163 : dc 99 163 = some (.dload 775, 166) := by decide +kernel
theorem d99_166 : dc 99 166 = some (.iconst 0, 167) := by decide +kernel
theorem d99_167 : dc 99 167 = some (.iaload, 168) := by decide +kernel
theorem d99_168 : dc 99 168 = some (.ifCond .ge ((194 : Nat) : Int), 171) := by decide +kernel
theorem d99_171 : dc 99 171 = some (.aload_n 0, 172) := by decide +kernel
theorem d99_172 : dc 99 172 = some (.dload 775, 175) := by decide +kernel
theorem d99_175 : dc 99 175 = some (.iconst 1, 176) := by decide +kernel
theorem d99_176 : dc 99 176 = some (.iaload, 177) := by decide +kernel
theorem d99_177 : dc 99 177 = some (.ifCond .ge ((194 : Nat) : Int), 180) := by decide +kernel
theorem d99_180 : dc 99 180 = some (.aload_n 0, 181) := by decide +kernel
theorem d99_181 : dc 99 181 = some (.getfield 783, 184) := by decide +kernel
theorem d99_184 : dc 99 184 = some (.ifCond .ne ((198 : Nat) : Int), 187) := by decide +kernel
theorem d99_187 : dc 99 187 = some (.aload_n 0, 188) := by decide +kernel
theorem d99_188 : dc 99 188 = some (.invokevirtual 100, 191) := by decide +kernel
theorem d99_191 : dc 99 191 = some (.ifCond .lt ((198 : Nat) : Int), 194) := by decide +kernel
theorem d99_194 : dc 99 194 = some (.iconst 1, 195) := by decide +kernel
theorem d99_195 : dc 99 195 = some (.goto ((199 : Nat) : Int), 198) := by decide +kernel
theorem d99_198 : dc 99 198 = some (.iconst 0, 199) := by decide +kernel
theorem d99_199 : dc 99 199 = some (.putstatic 771, 202) := by decide +kernel
theorem d99_202 : dc 99 202 = some (.iinc 2 1, 205) := by decide +kernel
theorem d99_205 : dc 99 205 = some (.goto ((2 : Nat) : Int), 208) := by decide +kernel
theorem d99_208 : dc 99 208 = some (.return_, 209) := by decide +kernel
theorem k_Se_go {S : Shp} {G : Nat → Option Nat} {d : Nat} {h : Hp} {Q : Option MV → Hp → Prop} {x : Nat} {m : Nat}  (ok : Ok S h) (h1 : 9 ≤ d) (hx : sK S x = 7) (tg : Tg S G) {P : PlV} {re : Nat → OutV} {ed : Nat → Nat → Nat} {nd : Nat → Nat} {s0 : GoV} {g0 y0 : Bool} {k0 : Nat} {C : Nat → Nat} (I0 : TurI S h x P re ed nd s0 g0 k0 y0 C 0) (hxw : ∀ z, U S x z → ¬ U S (sT S 1288 (sX S)) z) (hC : ∀ j, C j + 2 * m < 2147483647) (hm : k0 + m < 2147483647)
    (kk : ∀ h' y' c, Mo S (GA S x) h h' → c ≤ m → TurI S h' x P re ed nd (goG P nd (stL S x) m s0 g0 k0).1 (goG P nd (stL S x) m s0 g0 k0).2.1 (goG P nd (stL S x) m s0 g0 k0).2.2 y' C (2 * c) → (goG P nd (stL S x) m s0 g0 k0).2.2 ≤ k0 + c → Q none h') : Cl G d 99 [vR (some x), vI (m : Nat)] h Q := by
  show Wp G d 99 0 [some (vR (some x)), some (vI (m : Nat)), none, none, none] [] h Q
  have nU53 : ¬ U S x (sT S 1153 (sT S 1288 (sX S))) := fun z => hxw _ z (ok.so.uT (by decide) U_refl)
  have nno : ∀ {B : Nat → Prop}, (∀ z, B z → U S x z ∨ z = sT S 1153 (sT S 1288 (sX S)) ∨ z = sT S 1156 (sT S 1288 (sX S))) → ¬ B (sT S 1152 (sT S 1288 (sX S))) := fun H q => by
    rcases H _ q with z | z | z
    · exact hxw _ z (ok.so.uT (by decide) U_refl)
    · exact ok.so.ou (by decide) (by decide) (Or.inl (by decide)) z
    · exact ok.so.ou (by decide) (by decide) (Or.inl (by decide)) z
  refine w_iconst d99_0 (by decide) ?_
  refine w_istore2 d99_1 rfl ?_
  have L2 : ∀ (m2 : Nat) (g : Hp) (i : Nat) (s : GoV) (gg : Bool) (k : Nat) (y : Bool), m - i = m2 → Mo S (fun ζ => U S x ζ ∨ ζ = (sT S 1288 (sX S)) ∨ ζ = (sT S 1153 (sT S 1288 (sX S))) ∨ ζ = (sT S 1154 (sT S 1288 (sX S))) ∨ ζ = (sT S 1155 (sT S 1288 (sX S))) ∨ ζ = (sT S 1156 (sT S 1288 (sX S))) ∨ ζ = (sT S 1157 (sT S 1288 (sX S))) ∨ ζ = (sT S 1158 (sT S 1288 (sX S))) ∨ ζ = (sT S 1159 (sT S 1288 (sX S))) ∨ ζ = (sT S 1160 (sT S 1288 (sX S))) ∨ ζ = (sT S 1161 (sT S 1288 (sX S))) ∨ ζ = (sT S 1163 (sT S 1288 (sX S))) ∨ ζ = (sT S 1164 (sT S 1288 (sX S)))) h g → (i ≤ m) → (TurI S g x P re ed nd s gg k y C (2 * i)) → (k ≤ k0 + i) → (goG P nd (stL S x) m s0 g0 k0 = goG P nd (stL S x) (m - i) s gg k) → Wp G d 99 2 [some (vR (some x)), some (vI (m : Nat)), some (vI (i : Nat)), none, none] [] g Q := by
    intro m2
    induction m2 using Nat.strongRecOn with | ind m2 IH2 => ?_
    intro g i s gg k y hm2 Mg i1 I i3 i4
    have okg := Mg.ok
    refine w_iload_n d99_2 rfl ?_
    refine w_iload_n d99_3 rfl ?_
    refine w_icmpge d99_4 (fun c4 => ?_) (fun c4 => ?_)
    · have iE : goG P nd (stL S x) m s0 g0 k0 = (s, gg, k) := by rw [i4, show m - i = 0 by omega]; rfl
      refine w_return d99_208 ?_
      exact kk g y i Mg i1 (by rw [iE]; exact I) (by rw [iE]; exact i3)
    · refine w_aload_n d99_7 rfl ?_
      refine w_getI (x := (b2i gg)) d99_8 (okg.kd hx) I.1.2.2.2.2.1 ?_
      refine w_ifeq d99_11 (fun c11 => ?_) (fun c11 => ?_)
      · have gf : gg = false := by cases z : gg with
          | true => rw [z] at c11; exact absurd c11 (by decide)
          | false => rfl
        have iE : goG P nd (stL S x) m s0 g0 k0 = (s, gg, k) := by rw [i4, gf]; exact goG_off
        refine w_return d99_208 ?_
        exact kk g y i Mg i1 (by rw [iE]; exact I) (by rw [iE]; exact i3)
      · have gt : gg = true := by cases z : gg with
          | true => rfl
          | false => rw [z] at c11; exact absurd rfl c11
        refine w_iconst d99_14 (by decide) ?_
        refine w_istore3 d99_15 rfl ?_
        have L16 : ∀ (m16 : Nat) (g2 : Hp) (w : Nat) (y2 : Bool), 2 - w = m16 → Mo S (fun ζ => U S x ζ ∨ ζ = (sT S 1288 (sX S)) ∨ ζ = (sT S 1153 (sT S 1288 (sX S))) ∨ ζ = (sT S 1154 (sT S 1288 (sX S))) ∨ ζ = (sT S 1155 (sT S 1288 (sX S))) ∨ ζ = (sT S 1156 (sT S 1288 (sX S))) ∨ ζ = (sT S 1157 (sT S 1288 (sX S))) ∨ ζ = (sT S 1158 (sT S 1288 (sX S))) ∨ ζ = (sT S 1159 (sT S 1288 (sX S))) ∨ ζ = (sT S 1160 (sT S 1288 (sX S))) ∨ ζ = (sT S 1161 (sT S 1288 (sX S))) ∨ ζ = (sT S 1163 (sT S 1288 (sX S))) ∨ ζ = (sT S 1164 (sT S 1288 (sX S)))) h g2 → (w ≤ 2) → (TurI S g2 x P re ed nd (trs P nd (stL S x) s w) gg k y2 C (2 * i + w)) → Wp G d 99 16 [some (vR (some x)), some (vI (m : Nat)), some (vI (i : Nat)), some (vI (w : Nat)), none] [] g2 Q := by
          intro m16
          induction m16 using Nat.strongRecOn with | ind m16 IH16 => ?_
          intro g2 w y2 hm16 Mg2 j1 J
          have okg2 := Mg2.ok
          have J0 := J
          generalize hs2 : trs P nd (stL S x) s w = s2 at J
          obtain ⟨f774, f775, f776, f777, f778, f780, f781, f782, f784, fl⟩ := id J.1.2.2.1
          refine w_iload_n d99_16 rfl ?_
          refine w_iconst d99_17 (by decide) ?_
          refine w_icmpge d99_18 (fun c18 => ?_) (fun c18 => ?_)
          · have w2 : w = 2 := by omega
            subst w2
            obtain ⟨sfJ, rcJ, dyJ⟩ := SesC.sf J.1
            refine w_aload_n d99_151 rfl ?_
            refine w_dupR d99_152 ?_
            refine w_getI (x := ((k : Nat) : Int)) d99_153 (okg2.kd hx) sfJ.2.2.2.2 ?_
            refine w_iconst d99_156 (by decide) ?_
            refine w_iadd d99_157 (by constructor <;> omega) ?_
            rw [show ((k : Nat) : Int) + 1 = ((k + 1 : Nat) : Int) by omega]
            refine wf772 d99_158 okg2 hx (by omega) (fun h158 e158 m158 => ?_)
            have ok158 := m158.ok
            have M158 := Mo.tr ok Mg2 m158 (fun ζ e => (Or.inl (e ▸ U_refl)))
            have s158 : SfC S h158 x P s2.1 s2.2.1 re ed s2.2.2.1 s2.2.2.2.1 nd gg (k + 1) := ⟨sfJ.1.u okg2 m158 (kT770 ok hx) (fun z u q => ok.so.nU (f := 770) (by decide) (q ▸ u)), sfJ.2.1.u okg2 m158 (kT769 ok hx) (fun z u q => ok.so.nU (f := 769) (by decide) (q ▸ u)), fun u hu => by rw [e158]; exact sfJ.2.2.1 u hu, by rw [e158, FI_sFI, if_neg (fun z => absurd z.1 (by decide))]; exact sfJ.2.2.2.1, by rw [e158, FI_sFI, if_pos ⟨rfl, rfl⟩]⟩
            have r158 := rcJ.own okg2 hx m158 (by rw [e158, FI_sFI, if_neg (fun z => absurd z.1 (by decide))]) (by rw [e158, FI_sFI, if_neg (fun z => absurd z.1 (by decide))])
            have y158 : FI h158 783 x = b2i y2 := by rw [e158, FI_sFI, if_neg (fun z => absurd z.1 (by decide))]; exact dyJ
            have n158 : rl h158 (sT S 1152 (sT S 1288 (sX S))) = [] := (m158.rb okg2 (kT1152 ok ok.kW) (fun z => by have k5 := kT1152 ok ok.kW; rw [z] at k5; omega)).trans J.2.2.2.2.2
            refine w_aload_n d99_161 rfl ?_
            refine w_aload_n d99_162 rfl ?_
            refine w_dloadS d99_163 (ok158.kd hx) (fr775 ok158 hx) ?_
            refine w_iconst d99_166 (by decide) ?_
            refine w_ialoadV (x := (rH (goR s2) 0)) d99_167 (gi775 ok158 hx (by omega)) (r158.2.1 0 (by decide)) ?_
            refine w_ifge d99_168 (fun c168 => ?_) (fun c168 => ?_)
            · have ob : onB P nd s2 = true := decide_eq_true (Or.inl (by omega))
              refine w_iconst d99_194 (by decide) ?_
              refine w_goto d99_195 ?_
              refine wf771 d99_199 ok158 hx (Or.inr rfl) (fun h199 e199 m199 => ?_)
              have ok199 := m199.ok
              have M199 := Mo.tr ok M158 m199 (fun ζ e => (Or.inl (e ▸ U_refl)))
              have s199 : SfC S h199 x P s2.1 s2.2.1 re ed s2.2.2.1 s2.2.2.2.1 nd (onB P nd s2) (k + 1) := ⟨s158.1.u ok158 m199 (kT770 ok hx) (fun z u q => ok.so.nU (f := 770) (by decide) (q ▸ u)), s158.2.1.u ok158 m199 (kT769 ok hx) (fun z u q => ok.so.nU (f := 769) (by decide) (q ▸ u)), fun u hu => by rw [e199]; exact s158.2.2.1 u hu, by rw [e199, FI_sFI, if_pos ⟨rfl, rfl⟩, ob]; first | done | rfl, by rw [e199, FI_sFI, if_neg (fun z => absurd z.1 (by decide))]; exact s158.2.2.2.2⟩
              have r199 := r158.own ok158 hx m199 (by rw [e199, FI_sFI, if_neg (fun z => absurd z.1 (by decide))]) (by rw [e199, FI_sFI, if_neg (fun z => absurd z.1 (by decide))])
              have I199 : TurI S h199 x P re ed nd (trs P nd (stL S x) s 2) (onB P nd (trs P nd (stL S x) s 2)) (k + 1) y2 C (2 * (i + 1)) := by
                rw [hs2]
                exact ⟨s199.ses r199 (by rw [e199, FI_sFI, if_neg (fun z => absurd z.1 (by decide))]; exact y158), J.2.1, J.2.2.1, (fun _ => J.2.2.2.1 gt), fun j => Nat.le_trans (J.2.2.2.2.1 j) (by omega), (m199.rb ok158 (kT1152 ok ok.kW) (fun z => by have k5 := kT1152 ok ok.kW; rw [z] at k5; omega)).trans n158⟩
              refine w_iinc2 d99_202 rfl (by constructor <;> omega) ?_
              refine w_goto d99_205 ?_
              refine w_less ?_ (IH2 _ (by omega) h199 (i + 1) (trs P nd (stL S x) s 2) (onB P nd (trs P nd (stL S x) s 2)) (k + 1) y2 rfl M199 (by omega) I199 (by omega) (by rw [i4, gt, goG_on (by omega), show m - i - 1 = m - (i + 1) by omega]))
              exact ⟨Or.inr rfl, Or.inr rfl, Or.inr rfl, Or.inl rfl, Or.inl rfl, trivial⟩
            · refine w_aload_n d99_171 rfl ?_
              refine w_dloadS d99_172 (ok158.kd hx) (fr775 ok158 hx) ?_
              refine w_iconst d99_175 (by decide) ?_
              refine w_ialoadV (x := (rH (goR s2) 1)) d99_176 (gi775 ok158 hx (by omega)) (r158.2.1 1 (by decide)) ?_
              refine w_ifge d99_177 (fun c177 => ?_) (fun c177 => ?_)
              · have ob : onB P nd s2 = true := decide_eq_true (Or.inr (Or.inl (by omega)))
                refine w_iconst d99_194 (by decide) ?_
                refine w_goto d99_195 ?_
                refine wf771 d99_199 ok158 hx (Or.inr rfl) (fun h199 e199 m199 => ?_)
                have ok199 := m199.ok
                have M199 := Mo.tr ok M158 m199 (fun ζ e => (Or.inl (e ▸ U_refl)))
                have s199 : SfC S h199 x P s2.1 s2.2.1 re ed s2.2.2.1 s2.2.2.2.1 nd (onB P nd s2) (k + 1) := ⟨s158.1.u ok158 m199 (kT770 ok hx) (fun z u q => ok.so.nU (f := 770) (by decide) (q ▸ u)), s158.2.1.u ok158 m199 (kT769 ok hx) (fun z u q => ok.so.nU (f := 769) (by decide) (q ▸ u)), fun u hu => by rw [e199]; exact s158.2.2.1 u hu, by rw [e199, FI_sFI, if_pos ⟨rfl, rfl⟩, ob]; first | done | rfl, by rw [e199, FI_sFI, if_neg (fun z => absurd z.1 (by decide))]; exact s158.2.2.2.2⟩
                have r199 := r158.own ok158 hx m199 (by rw [e199, FI_sFI, if_neg (fun z => absurd z.1 (by decide))]) (by rw [e199, FI_sFI, if_neg (fun z => absurd z.1 (by decide))])
                have I199 : TurI S h199 x P re ed nd (trs P nd (stL S x) s 2) (onB P nd (trs P nd (stL S x) s 2)) (k + 1) y2 C (2 * (i + 1)) := by
                  rw [hs2]
                  exact ⟨s199.ses r199 (by rw [e199, FI_sFI, if_neg (fun z => absurd z.1 (by decide))]; exact y158), J.2.1, J.2.2.1, (fun _ => J.2.2.2.1 gt), fun j => Nat.le_trans (J.2.2.2.2.1 j) (by omega), (m199.rb ok158 (kT1152 ok ok.kW) (fun z => by have k5 := kT1152 ok ok.kW; rw [z] at k5; omega)).trans n158⟩
                refine w_iinc2 d99_202 rfl (by constructor <;> omega) ?_
                refine w_goto d99_205 ?_
                refine w_less ?_ (IH2 _ (by omega) h199 (i + 1) (trs P nd (stL S x) s 2) (onB P nd (trs P nd (stL S x) s 2)) (k + 1) y2 rfl M199 (by omega) I199 (by omega) (by rw [i4, gt, goG_on (by omega), show m - i - 1 = m - (i + 1) by omega]))
                exact ⟨Or.inr rfl, Or.inr rfl, Or.inr rfl, Or.inl rfl, Or.inl rfl, trivial⟩
              · refine w_aload_n d99_180 rfl ?_
                refine w_getI (x := (b2i y2)) d99_181 (ok158.kd hx) y158 ?_
                refine w_ifne d99_184 (fun c184 => ?_) (fun c184 => ?_)
                · have yt : y2 = true := by cases z : y2 with
                    | true => rfl
                    | false => rw [z] at c184; exact absurd rfl c184
                  have ob : onB P nd s2 = false := decide_eq_false (fun z => by have := J.2.2.2.1 gt yt; omega)
                  refine w_iconst d99_198 (by decide) ?_
                  refine wf771 d99_199 ok158 hx (Or.inl rfl) (fun h199 e199 m199 => ?_)
                  have ok199 := m199.ok
                  have M199 := Mo.tr ok M158 m199 (fun ζ e => (Or.inl (e ▸ U_refl)))
                  have s199 : SfC S h199 x P s2.1 s2.2.1 re ed s2.2.2.1 s2.2.2.2.1 nd (onB P nd s2) (k + 1) := ⟨s158.1.u ok158 m199 (kT770 ok hx) (fun z u q => ok.so.nU (f := 770) (by decide) (q ▸ u)), s158.2.1.u ok158 m199 (kT769 ok hx) (fun z u q => ok.so.nU (f := 769) (by decide) (q ▸ u)), fun u hu => by rw [e199]; exact s158.2.2.1 u hu, by rw [e199, FI_sFI, if_pos ⟨rfl, rfl⟩, ob]; first | done | rfl, by rw [e199, FI_sFI, if_neg (fun z => absurd z.1 (by decide))]; exact s158.2.2.2.2⟩
                  have r199 := r158.own ok158 hx m199 (by rw [e199, FI_sFI, if_neg (fun z => absurd z.1 (by decide))]) (by rw [e199, FI_sFI, if_neg (fun z => absurd z.1 (by decide))])
                  have I199 : TurI S h199 x P re ed nd (trs P nd (stL S x) s 2) (onB P nd (trs P nd (stL S x) s 2)) (k + 1) y2 C (2 * (i + 1)) := by
                    rw [hs2]
                    exact ⟨s199.ses r199 (by rw [e199, FI_sFI, if_neg (fun z => absurd z.1 (by decide))]; exact y158), J.2.1, J.2.2.1, (fun _ => J.2.2.2.1 gt), fun j => Nat.le_trans (J.2.2.2.2.1 j) (by omega), (m199.rb ok158 (kT1152 ok ok.kW) (fun z => by have k5 := kT1152 ok ok.kW; rw [z] at k5; omega)).trans n158⟩
                  refine w_iinc2 d99_202 rfl (by constructor <;> omega) ?_
                  refine w_goto d99_205 ?_
                  refine w_less ?_ (IH2 _ (by omega) h199 (i + 1) (trs P nd (stL S x) s 2) (onB P nd (trs P nd (stL S x) s 2)) (k + 1) y2 rfl M199 (by omega) I199 (by omega) (by rw [i4, gt, goG_on (by omega), show m - i - 1 = m - (i + 1) by omega]))
                  exact ⟨Or.inr rfl, Or.inr rfl, Or.inr rfl, Or.inl rfl, Or.inl rfl, trivial⟩
                · refine w_aload_n d99_187 rfl ?_
                  refine w_callv1 d99_188 (by omega) rfl (ok158.kd hx) (by simp) (Nat.le_of_ble_eq_true rfl) ?_
                  refine k_Se_choose ok158 (by omega) hx s158.1 r158 s158.2.2.1 ?_
                  rw [show chs P.2.2 nd (rE (goR s2)) (rH (goR s2)) = cho P nd (goR s2) from rfl]
                  refine w_iflt d99_191 (fun c191 => ?_) (fun c191 => ?_)
                  · have ob : onB P nd s2 = false := decide_eq_false (fun z => by omega)
                    refine w_iconst d99_198 (by decide) ?_
                    refine wf771 d99_199 ok158 hx (Or.inl rfl) (fun h199 e199 m199 => ?_)
                    have ok199 := m199.ok
                    have M199 := Mo.tr ok M158 m199 (fun ζ e => (Or.inl (e ▸ U_refl)))
                    have s199 : SfC S h199 x P s2.1 s2.2.1 re ed s2.2.2.1 s2.2.2.2.1 nd (onB P nd s2) (k + 1) := ⟨s158.1.u ok158 m199 (kT770 ok hx) (fun z u q => ok.so.nU (f := 770) (by decide) (q ▸ u)), s158.2.1.u ok158 m199 (kT769 ok hx) (fun z u q => ok.so.nU (f := 769) (by decide) (q ▸ u)), fun u hu => by rw [e199]; exact s158.2.2.1 u hu, by rw [e199, FI_sFI, if_pos ⟨rfl, rfl⟩, ob]; first | done | rfl, by rw [e199, FI_sFI, if_neg (fun z => absurd z.1 (by decide))]; exact s158.2.2.2.2⟩
                    have r199 := r158.own ok158 hx m199 (by rw [e199, FI_sFI, if_neg (fun z => absurd z.1 (by decide))]) (by rw [e199, FI_sFI, if_neg (fun z => absurd z.1 (by decide))])
                    have I199 : TurI S h199 x P re ed nd (trs P nd (stL S x) s 2) (onB P nd (trs P nd (stL S x) s 2)) (k + 1) y2 C (2 * (i + 1)) := by
                      rw [hs2]
                      exact ⟨s199.ses r199 (by rw [e199, FI_sFI, if_neg (fun z => absurd z.1 (by decide))]; exact y158), J.2.1, J.2.2.1, (fun _ => J.2.2.2.1 gt), fun j => Nat.le_trans (J.2.2.2.2.1 j) (by omega), (m199.rb ok158 (kT1152 ok ok.kW) (fun z => by have k5 := kT1152 ok ok.kW; rw [z] at k5; omega)).trans n158⟩
                    refine w_iinc2 d99_202 rfl (by constructor <;> omega) ?_
                    refine w_goto d99_205 ?_
                    refine w_less ?_ (IH2 _ (by omega) h199 (i + 1) (trs P nd (stL S x) s 2) (onB P nd (trs P nd (stL S x) s 2)) (k + 1) y2 rfl M199 (by omega) I199 (by omega) (by rw [i4, gt, goG_on (by omega), show m - i - 1 = m - (i + 1) by omega]))
                    exact ⟨Or.inr rfl, Or.inr rfl, Or.inr rfl, Or.inl rfl, Or.inl rfl, trivial⟩
                  · have ob : onB P nd s2 = true := decide_eq_true (Or.inr (Or.inr (by omega)))
                    refine w_iconst d99_194 (by decide) ?_
                    refine w_goto d99_195 ?_
                    refine wf771 d99_199 ok158 hx (Or.inr rfl) (fun h199 e199 m199 => ?_)
                    have ok199 := m199.ok
                    have M199 := Mo.tr ok M158 m199 (fun ζ e => (Or.inl (e ▸ U_refl)))
                    have s199 : SfC S h199 x P s2.1 s2.2.1 re ed s2.2.2.1 s2.2.2.2.1 nd (onB P nd s2) (k + 1) := ⟨s158.1.u ok158 m199 (kT770 ok hx) (fun z u q => ok.so.nU (f := 770) (by decide) (q ▸ u)), s158.2.1.u ok158 m199 (kT769 ok hx) (fun z u q => ok.so.nU (f := 769) (by decide) (q ▸ u)), fun u hu => by rw [e199]; exact s158.2.2.1 u hu, by rw [e199, FI_sFI, if_pos ⟨rfl, rfl⟩, ob]; first | done | rfl, by rw [e199, FI_sFI, if_neg (fun z => absurd z.1 (by decide))]; exact s158.2.2.2.2⟩
                    have r199 := r158.own ok158 hx m199 (by rw [e199, FI_sFI, if_neg (fun z => absurd z.1 (by decide))]) (by rw [e199, FI_sFI, if_neg (fun z => absurd z.1 (by decide))])
                    have I199 : TurI S h199 x P re ed nd (trs P nd (stL S x) s 2) (onB P nd (trs P nd (stL S x) s 2)) (k + 1) y2 C (2 * (i + 1)) := by
                      rw [hs2]
                      exact ⟨s199.ses r199 (by rw [e199, FI_sFI, if_neg (fun z => absurd z.1 (by decide))]; exact y158), J.2.1, J.2.2.1, (fun _ => J.2.2.2.1 gt), fun j => Nat.le_trans (J.2.2.2.2.1 j) (by omega), (m199.rb ok158 (kT1152 ok ok.kW) (fun z => by have k5 := kT1152 ok ok.kW; rw [z] at k5; omega)).trans n158⟩
                    refine w_iinc2 d99_202 rfl (by constructor <;> omega) ?_
                    refine w_goto d99_205 ?_
                    refine w_less ?_ (IH2 _ (by omega) h199 (i + 1) (trs P nd (stL S x) s 2) (onB P nd (trs P nd (stL S x) s 2)) (k + 1) y2 rfl M199 (by omega) I199 (by omega) (by rw [i4, gt, goG_on (by omega), show m - i - 1 = m - (i + 1) by omega]))
                    exact ⟨Or.inr rfl, Or.inr rfl, Or.inr rfl, Or.inl rfl, Or.inl rfl, trivial⟩
          · have kb := kE778 ok hx (j := w) (by omega)
            have hw : w < 2 := by omega
            have hPp : ∀ q, (U S (sT S 770 x) q ∨ U S (sT S 769 x) q) → ¬ U S (sT S 1288 (sX S)) q ∧ ¬ U S (sE S (sT S 778 x) w) q := fun q u => by
              have ux : U S x q := u.elim (fun u => U_trans (ok.so.uT (by decide) U_refl) u) (fun u => U_trans (ok.so.uT (by decide) U_refl) u)
              refine ⟨hxw q ux, fun v => ?_⟩
              have v2 : U S (sT S 778 x) q := U_trans (ok.so.uE (by omega) U_refl) v
              rcases u with u | u
              · exact ok.so.sib (by decide) (by decide) (by decide) u v2
              · exact ok.so.sib (by decide) (by decide) (by decide) u v2
            have L46 : ∀ (m46 : Nat) (g3 : Hp) (y3 : Bool), 0 = m46 → Mo S (fun ζ => U S x ζ ∨ ζ = (sT S 1288 (sX S)) ∨ ζ = (sT S 1153 (sT S 1288 (sX S))) ∨ ζ = (sT S 1154 (sT S 1288 (sX S))) ∨ ζ = (sT S 1155 (sT S 1288 (sX S))) ∨ ζ = (sT S 1156 (sT S 1288 (sX S))) ∨ ζ = (sT S 1157 (sT S 1288 (sX S))) ∨ ζ = (sT S 1158 (sT S 1288 (sX S))) ∨ ζ = (sT S 1159 (sT S 1288 (sX S))) ∨ ζ = (sT S 1160 (sT S 1288 (sX S))) ∨ ζ = (sT S 1161 (sT S 1288 (sX S))) ∨ ζ = (sT S 1163 (sT S 1288 (sX S))) ∨ ζ = (sT S 1164 (sT S 1288 (sX S)))) h g3 → (TurI S g3 x P re ed nd (tn1 P nd w s2) gg k y3 C (2 * i + w)) → Wp G d 99 46 [some (vR (some x)), some (vI (m : Nat)), some (vI (i : Nat)), some (vI (w : Nat)), none] [] g3 Q := by
              intro m46
              induction m46 using Nat.strongRecOn with | ind m46 IH46 => ?_
              intro g3 y3 hm46 Mg3 K
              have okg3 := Mg3.ok
              generalize hs3 : tn1 P nd w s2 = s3 at K
              obtain ⟨v774, v775, v776, v777, v778, v780, v781, v782, v784, vl⟩ := id K.1.2.2.1
              refine w_aload_n d99_46 rfl ?_
              refine w_dloadS d99_47 (okg3.kd hx) (fr775 okg3 hx) ?_
              refine w_iload_n d99_50 rfl ?_
              refine w_ialoadV (x := (rH (goR s3) w)) d99_51 (gi775 okg3 hx (by omega)) (v775 w hw) ?_
              refine w_ifge d99_52 (fun c52 => ?_) (fun c52 => ?_)
              · obtain ⟨t, ht⟩ : ∃ t : Nat, rH (goR s3) w = t := ⟨_, (Int.toNat_of_nonneg (by omega)).symm⟩
                have htt : (rH (goR s3) w).toNat = t := by omega
                have tl : t < P.2.2.length := by have := (K.2.1.1 w hw).2; omega
                have l14 := K.1.1.2.2.2.1
                have l1 := K.2.2.1 w hw (by omega) (by omega)
                obtain ⟨b0, b2_, b3_⟩ := K.2.1.2.1 w hw (by omega) (by omega)
                have lr := (ra776 okg3 hx w).2
                rw [v776 w hw] at lr
                refine w_aload_n d99_58 rfl ?_
                refine w_dloadS d99_59 (okg3.kd hx) (fr776 okg3 hx) ?_
                refine w_iload_n d99_62 rfl ?_
                refine w_dup2 d99_63 ?_
                refine w_ialoadV (x := (rL (goR s3) w)) d99_64 (gi776 okg3 hx (by omega)) (v776 w hw) ?_
                refine w_iconst d99_65 (by decide) ?_
                refine w_isub d99_66 (by constructor <;> omega) ?_
                refine wa776 d99_67 okg3 hx (by omega) (by omega) (fun h67 e67 m67 => ?_)
                have e67 : h67 = sAI g3 (sT S 776 x) w ((rL (goR s3) w) - 1) := e67
                have ok67 := m67.ok
                have M67 := Mo.tr ok Mg3 m67 (fun ζ e => (Or.inl (e ▸ (ok.so.uT (by decide) U_refl))))
                obtain ⟨sf3, rc3, dy3⟩ := SesC.sf K.1
                have s67 := sf3.t okg3 m67 hx (by decide) (by decide)
                have r67 : RunC S h67 x (ltR (goR s3) w) := rc3.w776 (v := rL (goR s3) w - 1) okg3 hx e67 m67
                have y67 : FI h67 783 x = b2i y3 := (m67.fi okg3 (by omega) (fun z => ok.so.pT (by decide) z.symm) 783).trans dy3
                have n67 : rl h67 (sT S 1152 (sT S 1288 (sX S))) = [] := (m67.rb okg3 (kT1152 ok ok.kW) (fun z => by have k5 := kT1152 ok ok.kW; have k6 := kT776 ok hx; rw [z] at k5; omega)).trans K.2.2.2.2.2
                have I67 : 0 < rL (goR s3) w - 1 → TurI S h67 x P re ed nd (ltG w s3) gg k y3 C (2 * i + (w + 1)) := fun q => ⟨s67.ses r67 y67, K.2.1, fun v hv he z => by
                    show 1 ≤ up (rL (goR s3)) w (rL (goR s3) w - 1) v
                    by_cases q2 : v = w
                    · rw [q2, up_at]; omega
                    · rw [up_ne q2]; exact K.2.2.1 v hv he z, K.2.2.2.1, fun j => Nat.le_trans (K.2.2.2.2.1 j) (by omega), n67⟩
                refine w_aload_n d99_68 rfl ?_
                refine w_dloadS d99_69 (ok67.kd hx) (fr776 ok67 hx) ?_
                refine w_iload_n d99_72 rfl ?_
                refine w_ialoadV (x := (rL (goR s3) w - 1)) d99_73 (gi776 ok67 hx (by omega)) ((r67.2.2.1 w hw).trans up_at) ?_
                refine w_ifle d99_74 (fun c74 => ?_) (fun c74 => ?_)
                · have L140 : ∀ (m140 : Nat) (b : Hp) , 0 = m140 → Mo S (fun ζ => U S x ζ ∨ ζ = (sT S 1288 (sX S)) ∨ ζ = (sT S 1153 (sT S 1288 (sX S))) ∨ ζ = (sT S 1154 (sT S 1288 (sX S))) ∨ ζ = (sT S 1155 (sT S 1288 (sX S))) ∨ ζ = (sT S 1156 (sT S 1288 (sX S))) ∨ ζ = (sT S 1157 (sT S 1288 (sX S))) ∨ ζ = (sT S 1158 (sT S 1288 (sX S))) ∨ ζ = (sT S 1159 (sT S 1288 (sX S))) ∨ ζ = (sT S 1160 (sT S 1288 (sX S))) ∨ ζ = (sT S 1161 (sT S 1288 (sX S))) ∨ ζ = (sT S 1163 (sT S 1288 (sX S))) ∨ ζ = (sT S 1164 (sT S 1288 (sX S)))) h b → (SesG S b x P re ed nd (wrG P w t (ltG w s3)) gg k y3) → (rl b (sT S 1152 (sT S 1288 (sX S))) = []) → Wp G d 99 140 [some (vR (some x)), some (vI (m : Nat)), some (vI (i : Nat)), some (vI (w : Nat)), none] [] b Q := by
                    intro m140
                    induction m140 using Nat.strongRecOn with | ind m140 IH140 => ?_
                    intro b  hm140 Mb B1 B2
                    have okb := Mb.ok
                    generalize hs5 : wrG P w t (ltG w s3) = s5 at B1
                    have q5 : (goR s5).1 = (goR s3).1 ∧ rH (goR s5) = rH (goR s3) ∧ rL (goR s5) = rL (ltR (goR s3) w) ∧ rW (goR s5) = rW (goR s3) ∧ (∀ v, v ≠ w → rB (goR s5) v = rB (goR s3) v) ∧ (rB (goR s5) w).2 = (rB (goR s3) w).2 ∧ (rW (goR s3) w ≠ 0 → (rB (goR s5) w).1 = (rB (goR s3) w).1) ∧ rR (goR s5) = rR (goR s3) ∧ rC (goR s5) = rC (goR s3) ∧ rF (goR s5) = rF (goR s3) ∧ s5.1 = s3.1 ∧ s5.2.1 = s3.2.1 := by
                      rw [← hs5]
                      unfold wrG
                      split
                      · rename_i z
                        refine ⟨rfl, rfl, rfl, rfl, fun v hv => upO_ne hv, ?_, fun z2 => absurd z z2, rfl, rfl, rfl, rfl, rfl⟩
                        show (upO (rB (goR s3)) w _ w).2 = _
                        rw [upO_at]
                        rfl
                      · exact ⟨rfl, rfl, rfl, rfl, fun v hv => rfl, rfl, fun _ => rfl, rfl, rfl, rfl, rfl, rfl⟩
                    obtain ⟨qE, qH, qL, qW, qB, qB2, qB1, qR, qC, qF, qu, qp⟩ := q5
                    have I5 : SesI P s5.1 s5.2.1 (goR s5) w := ⟨by rw [qH]; exact K.2.1.1, fun v hv he z => by rw [qH] at z; rw [qW, qB v he]; exact K.2.1.2.1 v hv (by omega) z, by rw [qu, qp]; exact K.2.1.2.2.1, by rw [qF]; exact K.2.1.2.2.2.1, by rw [qR]; exact K.2.1.2.2.2.2⟩
                    have L5 : SesL (goR s5) w := fun v hv he z => by rw [qH] at z; rw [qL]; show 1 ≤ up (rL (goR s3)) w _ v; rw [up_ne he]; exact K.2.2.1 v hv (by omega) z
                    have hb5 : (rB (goR s5) w).1.1 = true → 0 < (rB (goR s5) w).2.1.length := fun z => by
                      rw [qB2]
                      refine b3_ (fun z2 => ?_)
                      rw [qB1 (by omega), b2_ z2] at z
                      exact absurd z (by decide)
                    obtain ⟨fI, fL, fC⟩ := fnR_I (t := t) I5 hw tl hb5
                    refine w_aload_n d99_140 rfl ?_
                    refine w_iload_n d99_141 rfl ?_
                    refine w_callv2 d99_142 (by omega) rfl (okb.kd hx) (by simp) (Nat.le_of_ble_eq_true rfl) ?_
                    have cb : rC (goR s5) (rW (goR s5) w) < 2147483647 := by have q1 := K.2.2.2.2.1 (rW (goR s5) w); have q2 := hC (rW (goR s5) w); rw [qC]; omega
                    refine k_Se_finish (w := w) (t := t) okb (by omega) hx B1 hw (by rw [qH]; exact ht) tl cb (fun h142 m142 e142_1 => ?_)
                    have ok142 := m142.ok
                    have M142 := Mo.tr ok Mb m142 (fun ζ u => (Or.inl (U_trans U_refl u)))
                    have cC : ∀ j, rC (fnR (goR s5) w t) j ≤ C j + (2 * i + (w + 1)) := fun j => by
                      have q1 := fC j
                      have q2 := K.2.2.2.2.1 j
                      rw [qC] at q1
                      omega
                    have I142 : TurI S h142 x P re ed nd (fnG (stL S x) w t s5) gg k false C (2 * i + (w + 1)) := ⟨e142_1, fI, fL L5, (fun _ z => absurd z (by decide)), cC, (m142.rb okb (kT1152 ok ok.kW) (fun u => hxw _ u (ok.so.uT (by decide) U_refl))).trans B2⟩
                    rw [← hs5] at I142
                    refine w_iinc3 d99_145 rfl (by constructor <;> omega) ?_
                    refine w_goto d99_148 ?_
                    refine w_less ?_ (IH16 _ (by omega) h142 (w + 1) false rfl M142 (by omega) (by rw [trs, hs2]; unfold trn tn2; rw [hs3, if_neg (by omega), if_neg (by omega), htt]; exact I142))
                    exact ⟨Or.inr rfl, Or.inr rfl, Or.inr rfl, Or.inr rfl, Or.inl rfl, trivial⟩
                  refine w_aload_n d99_80 rfl ?_
                  refine w_dloadS d99_81 (ok67.kd hx) (fr777 ok67 hx) ?_
                  refine w_iload_n d99_84 rfl ?_
                  refine w_ialoadV (x := ((rW (goR s3) w : Nat) : Int)) d99_85 (gi777 ok67 hx (by omega)) (r67.2.2.2.1 w hw) ?_
                  refine w_ifne d99_86 (fun c86 => ?_) (fun c86 => ?_)
                  · have nw0 : ¬ rW (goR s3) w = 0 := by omega
                    have e5 : wrG P w t (ltG w s3) = ltG w s3 := by unfold wrG; rw [if_neg (show ¬ rW (goR (ltG w s3)) w = 0 from nw0)]
                    refine w_less ?_ (L140 _ h67  rfl M67 (by rw [e5]; exact s67.ses r67 y67) n67)
                    exact ⟨Or.inr rfl, Or.inr rfl, Or.inr rfl, Or.inr rfl, Or.inl rfl, trivial⟩
                  · have w0 : rW (goR s3) w = 0 := by omega
                    have e5 : wrG P w t (ltG w s3) = (s3.1, s3.2.1, s3.2.2.1, s3.2.2.2.1, wrR P s3.1 (ltR (goR s3) w) w t) := by unfold wrG; rw [if_pos (show rW (goR (ltG w s3)) w = 0 from w0)]; rfl
                    have kpl := kT770 ok hx
                    have kst := kT769 ok hx
                    have kd := kE392 ok kpl (j := t) (by omega)
                    refine w_aload_n d99_89 rfl ?_
                    refine w_dloadS d99_90 (ok67.kd hx) (fr770 ok67 hx) ?_
                    refine w_dloadS d99_93 (ok67.kd (kT770 ok67 hx)) (fr392 ok67 (kT770 ok67 hx)) ?_
                    refine w_aload_n d99_96 rfl ?_
                    refine w_dloadS d99_97 (ok67.kd hx) (fr775 ok67 hx) ?_
                    refine w_iload_n d99_100 rfl ?_
                    refine w_ialoadV (x := ((t : Nat) : Int)) d99_101 (gi775 ok67 hx (by omega)) ((r67.2.1 w hw).trans ht) ?_
                    have k102 := kE392 ok67 (kT770 ok67 hx) (j := t) (by omega)
                    refine w_aaloadSN d99_102 (gi392 ok67 (kT770 ok67 hx) (by omega)) (er392 ok67 (kT770 ok67 hx) (by omega)) ?_
                    refine w_astore4 d99_103 rfl ?_
                    refine w_aload_n d99_105 rfl ?_
                    refine w_dloadS d99_106 (ok67.kd hx) (ok67.frW hx) ?_
                    refine w_aload_n d99_109 rfl ?_
                    refine w_dloadS d99_110 (ok67.kd hx) (fr770 ok67 hx) ?_
                    refine w_aload_n d99_113 rfl ?_
                    refine w_dloadS d99_114 (ok67.kd hx) (fr769 ok67 hx) ?_
                    refine w_dloadS d99_117 (ok67.kd (kT769 ok67 hx)) (fr896 ok67 (kT769 ok67 hx)) ?_
                    refine w_aload d99_120 rfl ?_
                    refine w_callv4 d99_122 (by omega) rfl (ok67.kd ok67.kW) (by simp) (Nat.le_of_ble_eq_true rfl) ?_
                    have Dd67 := (s67.1.2.2.2.2 t tl).2.1
                    refine k_Wk_load (s := (sT S 769 x)) (t := tD P.2.2 t) ok67 (by omega) ok67.kW kpl kd kst s67.1.1 s67.1.2.2 s67.2.1.1 Dd67 n67 (fun z u v => hxw z (U_trans (ok.so.uT (by decide) U_refl) u) v) (fun z u v => hxw z (U_trans (ok.so.uT (by decide) U_refl) u) v) (fun h122 m122 e122_1 => ?_)
                    have ok122 := m122.ok
                    have M122 := Mo.tr ok M67 m122 (fun ζ e => (Or.inr (Or.inr (Or.inl e))))
                    have s122 := s67.b ok67 m122 hx hw (fun z q => Or.inr (q ▸ nU53))
                    have r122 := r67.far ok67 m122 hx (fun z q => q ▸ nU53)
                    have y122 : FI h122 783 x = b2i y3 := (m122.fi ok67 (by omega) (fun z => nU53 (z ▸ U_refl)) 783).trans y67
                    have n122 : rl h122 (sT S 1152 (sT S 1288 (sX S))) = [] := (m122.rb ok67 (kT1152 ok ok.kW) (ok.so.ou (by decide) (by decide) (Or.inl (by decide)))).trans n67
                    have hin : (tkI P s3.1 t).length = (tgI (tD P.2.2 t)).length := inpL_len _ _ _ _
                    refine w_aload_n d99_125 rfl ?_
                    refine w_dloadS d99_126 (ok122.kd hx) (ok122.frW hx) ?_
                    refine w_aload d99_129 rfl ?_
                    refine w_aload_n d99_131 rfl ?_
                    refine w_dloadS d99_132 (ok122.kd hx) (fr778 ok122 hx) ?_
                    refine w_iload_n d99_135 rfl ?_
                    have k136 := kE778 ok122 hx (j := w) (by omega)
                    refine w_aaloadSN d99_136 (gi778 ok122 hx (by omega)) (er778 ok122 hx (by omega)) ?_
                    refine w_callv3 d99_137 (by omega) rfl (ok122.kd ok122.kW) (by simp) (Nat.le_of_ble_eq_true rfl) ?_
                    have Dd122 := (s122.1.2.2.2.2 t tl).2.1
                    have nb122 := r122.2.2.2.2.1 w hw
                    have ob122 : OuC S h122 (sE S (sT S 778 x) w) (false, [], [], []) := by have q := nb122.1; change OuC S h122 _ (rB (goR s3) w).1 at q; rw [b0 w0] at q; exact q
                    refine k_Wk_work (t := tD P.2.2 t) (ins := tkI P s3.1 t) ok122 (by omega) ok122.kW kd kb Dd122 e122_1 hin hPp (fun u => hxw _ (ok.so.uE (by omega) (ok.so.uT (by decide) U_refl) : U S x (sE S (sT S 778 x) w)) u) (fun z u => ⟨hxw z (U_trans (ok.so.uE (by omega) (ok.so.uT (by decide) (ok.so.uT (by decide) U_refl))) u), fun v => ok.so.sib (f := 770) (g := 778) (by decide) (by decide) (by decide) (U_trans (ok.so.uE (by omega) (ok.so.uT (by decide) U_refl)) u) (U_trans (ok.so.uE (by omega) U_refl) v)⟩) ob122 tg (fun h137 m137 e137_1 e137_2 e137_3 e137_4 => ?_)
                    have ok137 := m137.ok
                    have M137 := Mo.tr ok M122 m137 (fun z q => by rcases q with q | q | q | q | q | q | q | q | q | q | q | q | q | q | q <;> first | (left; rw [q]; first | exact (ok.so.uE (by omega) (ok.so.uT (by decide) U_refl)) | exact (ok.so.uT (by decide) (ok.so.uE (by omega) (ok.so.uT (by decide) U_refl)))) | simp [q])
                    have subW : ∀ z, WA S (sT S 1288 (sX S)) (sE S (sT S 778 x) w) z → OA S (sE S (sT S 778 x) w) z ∨ ¬ U S x z := fun z q => by
                      have far : ∀ {f : Nat}, f < 4096 → ¬ U S x (sT S f (sT S 1288 (sX S))) := fun hf u => hxw _ u (ok.so.uT hf U_refl)
                      rcases q with q | q | q | q | q | q | q | q | q | q | q | q | q | q | q
                      · right; rw [q]; exact fun u => hxw _ u U_refl
                      iterate 10 right; rw [q]; exact far (by decide)
                      · exact Or.inl (Or.inl q)
                      · exact Or.inl (Or.inr (Or.inl q))
                      · exact Or.inl (Or.inr (Or.inr (Or.inl q)))
                      · exact Or.inl (Or.inr (Or.inr (Or.inr (Or.inl q))))
                    have s137 := s122.b ok122 m137 hx hw subW
                    have nx137 : ¬ WA S (sT S 1288 (sX S)) (sE S (sT S 778 x) w) x := fun q => (subW x q).elim (fun z => absurd (z.kind ok kb) (by omega)) (fun z => z U_refl)
                    have y137 : FI h137 783 x = b2i y3 := (m137.fi ok122 (by omega) nx137 783).trans y122
                    have n137 : rl h137 (sT S 1152 (sT S 1288 (sX S))) = [] := e137_4.trans n122
                    have r137 : RunC S h137 x (wrR P s3.1 (ltR (goR s3) w) w t) := r122.bb ok122 m137 hx hw subW ⟨e137_1, e137_2 _ nb122.2.1, e137_3.trans nb122.2.2⟩
                    refine w_less ?_ (L140 _ h137  rfl M137 (by rw [e5]; exact s137.ses r137 y137) n137)
                    exact ⟨Or.inr rfl, Or.inr rfl, Or.inr rfl, Or.inr rfl, Or.inl rfl, trivial⟩
                · refine w_goto d99_77 ?_
                  refine w_iinc3 d99_145 rfl (by constructor <;> omega) ?_
                  refine w_goto d99_148 ?_
                  refine w_less ?_ (IH16 _ (by omega) h67 (w + 1) y3 rfl M67 (by omega) (by rw [trs, hs2]; unfold trn tn2; rw [hs3, if_neg (by omega), if_pos (by omega)]; exact I67 (by omega)))
                  exact ⟨Or.inr rfl, Or.inr rfl, Or.inr rfl, Or.inr rfl, Or.inl rfl, trivial⟩
              · refine w_goto d99_55 ?_
                refine w_iinc3 d99_145 rfl (by constructor <;> omega) ?_
                refine w_goto d99_148 ?_
                refine w_less ?_ (IH16 _ (by omega) g3 (w + 1) y3 rfl Mg3 (by omega) (by rw [trs, hs2]; unfold trn tn2; rw [hs3, if_pos (by omega)]; exact ⟨K.1, K.2.1, K.2.2.1, K.2.2.2.1, fun j => Nat.le_trans (K.2.2.2.2.1 j) (by omega), K.2.2.2.2.2⟩))
                exact ⟨Or.inr rfl, Or.inr rfl, Or.inr rfl, Or.inr rfl, Or.inl rfl, trivial⟩
            refine w_aload_n d99_21 rfl ?_
            refine w_dloadS d99_22 (okg2.kd hx) (fr775 okg2 hx) ?_
            refine w_iload_n d99_25 rfl ?_
            refine w_ialoadV (x := (rH (goR s2) w)) d99_26 (gi775 okg2 hx (by omega)) (f775 w (by omega)) ?_
            refine w_ifge d99_27 (fun c27 => ?_) (fun c27 => ?_)
            · have e1 : tn1 P nd w s2 = s2 := by unfold tn1; rw [if_neg (fun z => by omega)]
              refine w_less ?_ (L46 _ g2 y2 rfl Mg2 (by rw [e1]; exact J))
              exact ⟨Or.inr rfl, Or.inr rfl, Or.inr rfl, Or.inr rfl, Or.inl rfl, trivial⟩
            · refine w_aload_n d99_30 rfl ?_
              refine w_getI (x := (b2i y2)) d99_31 (okg2.kd hx) J.1.2.2.2.2.2.2 ?_
              refine w_ifne d99_34 (fun c34 => ?_) (fun c34 => ?_)
              · have yt : y2 = true := by cases z : y2 with
                  | true => rfl
                  | false => rw [z] at c34; exact absurd rfl c34
                have e1 : tn1 P nd w s2 = s2 := by unfold tn1; rw [if_neg (fun z => by have := J.2.2.2.1 gt yt; omega)]
                refine w_less ?_ (L46 _ g2 y2 rfl Mg2 (by rw [e1]; exact J))
                exact ⟨Or.inr rfl, Or.inr rfl, Or.inr rfl, Or.inr rfl, Or.inl rfl, trivial⟩
              · have yf2 : y2 = false := by cases z : y2 with
                  | true => rw [z] at c34; exact absurd c34 (by decide)
                  | false => rfl
                refine w_aload_n d99_37 rfl ?_
                refine w_iload_n d99_38 rfl ?_
                refine w_aload_n d99_39 rfl ?_
                refine w_callv1 d99_40 (by omega) rfl (okg2.kd hx) (by simp) (Nat.le_of_ble_eq_true rfl) ?_
                refine k_Se_choose okg2 (by omega) hx J.1.1 J.1.2.2.1 J.1.2.2.2.1 ?_
                rw [show chs P.2.2 nd (rE (goR s2)) (rH (goR s2)) = cho P nd (goR s2) from rfl]
                refine w_callv3 d99_43 (by omega) rfl (okg2.kd hx) (by simp) (Nat.le_of_ble_eq_true rfl) ?_
                have cr := chs_rg P.2.2 nd (rE (goR s2)) (rH (goR s2))
                refine k_Se_take (w := w) (t := cho P nd (goR s2)) okg2 (by omega) hx tg J.1 hw cr J.2.1.2.2.1 hxw J.2.2.2.2.2 (fun h43 y3 m43 e43_1 => ?_)
                have ok43 := m43.ok
                have M43 := Mo.tr ok Mg2 m43 (fun z q => by rcases q with q | q | q <;> simp [q])
                have T43 : TurI S h43 x P re ed nd (tn1 P nd w s2) gg k y3 C (2 * i + w) := by
                  have rn := (m43.rb okg2 (kT1152 ok ok.kW) (nno (fun z q => q))).trans J.2.2.2.2.2
                  rcases e43_1 with ⟨c1, c2, c3⟩ | ⟨c1, c2, c3⟩
                  · have e1 : tn1 P nd w s2 = s2 := by unfold tn1; rw [if_neg (fun z => by omega)]
                    rw [e1, c2]
                    exact ⟨c3, J.2.1, J.2.2.1, fun _ _ => c1, J.2.2.2.2.1, rn⟩
                  · have e1 : tn1 P nd w s2 = tkG P w (cho P nd (goR s2)).toNat s2 := by unfold tn1; rw [if_pos ⟨by omega, c1⟩]
                    rw [e1]
                    obtain ⟨a1, a2, a3, a4⟩ := tkR_I (ks := s2.2.2.2.1) (w := w) J.2.1 (n := (cho P nd (goR s2)).toNat) (by have : cho P nd (goR s2) < P.2.2.length := cr.2; omega)
                    have yf : y3 = true → cho P nd (goR (tkG P w (cho P nd (goR s2)).toNat s2)) < 0 := fun z => by rw [c2, yf2] at z; exact absurd z (by decide)
                    rw [← c2] at c3
                    exact ⟨c3, a1, a2 J.2.2.1, fun _ => yf, fun j => by show rC (tkR P _ _ _ _ _) j ≤ _; rw [a4]; exact J.2.2.2.2.1 j, rn⟩
                refine w_less ?_ (L46 _ h43 y3 rfl M43 T43)
                exact ⟨Or.inr rfl, Or.inr rfl, Or.inr rfl, Or.inr rfl, Or.inl rfl, trivial⟩
        refine w_less ?_ (L16 _ g 0 y rfl Mg (by omega) I)
        exact ⟨Or.inr rfl, Or.inr rfl, Or.inr rfl, Or.inr rfl, Or.inl rfl, trivial⟩
  have M0_ := Mo.refl (A := (fun ζ => U S x ζ ∨ ζ = (sT S 1288 (sX S)) ∨ ζ = (sT S 1153 (sT S 1288 (sX S))) ∨ ζ = (sT S 1154 (sT S 1288 (sX S))) ∨ ζ = (sT S 1155 (sT S 1288 (sX S))) ∨ ζ = (sT S 1156 (sT S 1288 (sX S))) ∨ ζ = (sT S 1157 (sT S 1288 (sX S))) ∨ ζ = (sT S 1158 (sT S 1288 (sX S))) ∨ ζ = (sT S 1159 (sT S 1288 (sX S))) ∨ ζ = (sT S 1160 (sT S 1288 (sX S))) ∨ ζ = (sT S 1161 (sT S 1288 (sX S))) ∨ ζ = (sT S 1163 (sT S 1288 (sX S))) ∨ ζ = (sT S 1164 (sT S 1288 (sX S))))) ok
  refine w_less ?_ (L2 _ h 0 s0 g0 k0 y0 rfl M0_ (by omega) I0 (by omega) rfl)
  exact ⟨Or.inr rfl, Or.inr rfl, Or.inr rfl, Or.inl rfl, Or.inl rfl, trivial⟩
