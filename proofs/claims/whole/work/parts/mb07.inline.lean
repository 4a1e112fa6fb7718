/-! the reference: a line of a face, of a source -/
theorem pk_inj8 {a b c d e f g i a' b' c' d' e' f' g' i' : Nat} (ha : a < 256) (hb : b < 256) (hc : c < 256) (hd : d < 256) (he : e < 256) (hf : f < 256) (hg : g < 256) (hi : i < 256) (ha' : a' < 256) (hb' : b' < 256) (hc' : c' < 256) (hd' : d' < 256) (he' : e' < 256) (hf' : f' < 256) (hg' : g' < 256) (hi' : i' < 256) (h : pk [a, b, c, d, e, f, g, i] = pk [a', b', c', d', e', f', g', i']) : a = a' ∧ b = b' ∧ c = c' ∧ d = d' ∧ e = e' ∧ f = f' ∧ g = g' ∧ i = i' := by
  have h1 := pk8 ha hb hc hd he hf hg hi
  have h2 := pk8 ha' hb' hc' hd' he' hf' hg' hi'
  rw [h] at h1
  rw [h1] at h2
  omega
theorem nameV_inj {l k : List Nat} {a b n : Nat} (hn : n ≤ 8) (hl : ∀ j, l.getD j 0 < 256) (hk : ∀ j, k.getD j 0 < 256) : nameV l a (a + n) = nameV k b (b + n) ↔ ∀ j, j < n → l.getD (a + j) 0 = k.getD (b + j) 0 := by
  have p : ∀ (x : List Nat) (c : Nat), (∀ j, x.getD j 0 < 256) → ∀ j, (if c + j < c + n then x.getD (c + j) 0 else 0) < 256 := fun x c hx j => by
    have := hx (c + j)
    split <;> omega
  constructor
  · intro h j hj
    unfold nameV at h
    rw [pad8_eq, pad8_eq] at h
    have q := pk_inj8 (p l a hl 0) (p l a hl 1) (p l a hl 2) (p l a hl 3) (p l a hl 4) (p l a hl 5) (p l a hl 6) (p l a hl 7) (p k b hk 0) (p k b hk 1) (p k b hk 2) (p k b hk 3) (p k b hk 4) (p k b hk 5) (p k b hk 6) (p k b hk 7) h
    have all : ∀ i, i < 8 → (if a + i < a + n then l.getD (a + i) 0 else 0) = (if b + i < b + n then k.getD (b + i) 0 else 0) := fun i hi => by
      obtain ⟨q0, q1, q2, q3, q4, q5, q6, q7⟩ := q
      rcases i with _ | _ | _ | _ | _ | _ | _ | _ | i
      · exact q0
      · exact q1
      · exact q2
      · exact q3
      · exact q4
      · exact q5
      · exact q6
      · exact q7
      · omega
    have := all j (by omega)
    rwa [if_pos (by omega), if_pos (by omega)] at this
  · intro h
    unfold nameV pad8
    congr 1
    refine List.map_congr_left (fun j _ => ?_)
    by_cases q : j < n
    · rw [if_pos (by omega), if_pos (by omega)]; exact h j q
    · rw [if_neg (by omega), if_neg (by omega)]
theorem opB_iff {y : List Nat} (hy : ∀ j, y.getD j 0 < 256) : opB y 0 = true ↔ y.getD 0 0 = 112 ∧ y.getD 1 0 = 117 ∧ y.getD 2 0 = 98 ∧ y.getD 3 0 = 32 := by
  unfold opB
  rw [decide_eq_true_iff, show (8103490994101551104 : Int64) = nameV [112, 117, 98, 32] 0 (0 + 4) by decide, nameV_inj (by decide) hy (fun j => by
    rcases j with _ | _ | _ | _ | j <;> simp [List.getD_eq_getElem?_getD])]
  constructor
  · intro h
    have h0 := h 0 (by decide)
    have h1 := h 1 (by decide)
    have h2 := h 2 (by decide)
    have h3 := h 3 (by decide)
    exact ⟨h0, h1, h2, h3⟩
  · rintro ⟨h0, h1, h2, h3⟩ j hj
    rcases j with _ | _ | _ | _ | j
    · exact h0
    · exact h1
    · exact h2
    · exact h3
    · omega
theorem Yin.lt {S : Shp} {h : Hp} {m f : Nat} {l y : List Nat} (hy : Yin l f y) (ok : Ok S h) (hm : sK S m = 14) (AL : AlR S h m l) (j : Nat) : y.getD j 0 < 256 := by
  rcases Nat.lt_or_ge j y.length with q | q
  · rw [← hy.2 j q]
    have := lt256 ok hm AL (i := f + j) (by have := hy.1; omega)
    omega
  · rw [List.getD_eq_getElem?_getD, List.getElem?_eq_none q]
    decide
theorem word_fail {y : List Nat} {p : Nat} (h : wordE y p 8 48 = p ∨ nsAt y (wordE y p 8 48)) : wordE y p 8 48 = p ∨ atv y (wordE y p 8 48 : Nat) ≠ 61 := by
  rcases h with h | h
  · exact Or.inl h
  · refine Or.inr (fun e => ?_)
    rw [atvI, if_pos h.1] at e
    have e : y.getD (wordE y p 8 48) 0 = 61 := by omega
    have := h.2
    rw [e] at this
    exact absurd this (by decide)
/-- a name and the sign behind it -/
def nmOk (y : List Nat) (p : Nat) : Prop := wordE y p 8 48 ≠ p ∧ atv y (wordE y p 8 48 : Nat) = 61
theorem d271_0 : dc 271 0 = some (.aload_n 0, 1) := by decide +kernel
theorem d271_1 : dc 271 1 = some (.iload_n 1, 2) := by decide +kernel
theorem d271_2 : dc 271 2 = some (.putfield 1698, 5) := by decide +kernel
theorem d271_5 : dc 271 5 = some (.aload_n 0, 6) := by decide +kernel
theorem d271_6 : dc 271 6 = some (.iload_n 2, 7) := by decide +kernel
theorem d271_7 : dc 271 7 = some (.putfield 1699, 10) := by decide +kernel
theorem d271_10 : dc 271 10 = some (.aload_n 0, 11) := by decide +kernel
theorem d271_11 : dc 271 11 = some (.iconst 0, 12) := by decide +kernel
theorem d271_12 : dc 271 12 = some (.putstatic 1700, 15) := by decide +kernel
theorem d271_15 : dc 271 15 = some (.aload_n 0, 16) := by decide +kernel
theorem d271_16 : dc 271 16 = some (.invokevirtual 272, 19) := by decide +kernel
theorem d271_19 : dc 271 19 = some (.istore_n 3, 20) := by decide +kernel
theorem d271_20 : dc 271 20 = some (.aload_n 0, 21) := by decide +kernel
theorem d271_21 : dc 271 21 = some (.bipush 61, 23) := by decide +kernel
theorem d271_23 : dc 271 23 = some (.invokevirtual 274, 26) := by decide +kernel
theorem d271_26 : dc 271 26 = some (.aload_n 0, 27) := by decide +kernel
theorem d271_27 : dc 271 27 = some (.getfield 1700, 30) := by decide +kernel
theorem d271_30 : dc 271 30 = some (.ifCond .eq ((37 : Nat) : Int), 33) := by decide +kernel
theorem d271_33 : dc 271 33 = some (.iconst 0, 34) := by decide +kernel
theorem d271_34 : dc 271 34 = some (.goto ((41 : Nat) : Int), 37) := by decide +kernel
theorem d271_37 : dc 271 37 = some (.aload_n 0, 38) := by decide +kernel
theorem d271_38 : dc 271 38 = some (.invokevirtual 275, 41) := by decide +kernel
theorem d271_41 : dc 271 41 = some (.istore 4, 43) := by decide +kernel
theorem d271_43 : dc 271 43 = some (.aload_n 0, 44) := by decide +kernel
theorem d271_44 : dc 271 44 = some (.getfield 1700, 47) := by decide +kernel
theorem d271_47 : dc 271 47 = some (.ifCond .ne ((61 : Nat) : Int), 50) := by decide +kernel
theorem d271_50 : dc 271 50 = some (.aload_n 0, 51) := by decide +kernel
theorem d271_51 : dc 271 51 = some (.getfield 1698, 54) := by decide +kernel
theorem d271_54 : dc 271 54 = some (.aload_n 0, 55) := by decide +kernel
theorem d271_55 : dc 271 55 = some (.getfield 1699, 58) := by decide +kernel
theorem d271_58 : dc 271 58 = some (.if_icmp .eq ((63 : Nat) : Int), 61) := by decide +kernel
theorem d271_61 : dc 271 61 = some (.iconst 0, 62) := by decide +kernel
theorem d271_62 : dc 271 62 = some (.freturn, 63) := by decide +kernel
theorem d271_63 : dc 271 63 = some (.aload_n 0, 64) := by decide +kernel
theorem d271_64 : dc 271 64 = some (.dload 1694, 67) := by decide +kernel
theorem d271_67 : dc 271 67 = some (.aload_n 0, 68) := by decide +kernel
theorem d271_68 : dc 271 68 = some (.getfield 1697, 71) := by decide +kernel
theorem d271_71 : dc 271 71 = some (.iload_n 1, 72) := by decide +kernel
theorem d271_72 : dc 271 72 = some (.iastore, 73) := by decide +kernel
theorem d271_73 : dc 271 73 = some (.aload_n 0, 74) := by decide +kernel
theorem d271_74 : dc 271 74 = some (.dload 1695, 77) := by decide +kernel
theorem d271_77 : dc 271 77 = some (.aload_n 0, 78) := by decide +kernel
theorem d271_78 : dc 271 78 = some (.getfield 1697, 81) := by decide +kernel
theorem d271_81 : dc 271 81 = some (.iload_n 3, 82) := by decide +kernel
theorem d271_82 : dc 271 82 = some (.iastore, 83) := by decide +kernel
theorem d271_83 : dc 271 83 = some (.aload_n 0, 84) := by decide +kernel
theorem d271_84 : dc 271 84 = some (.dload 1696, 87) := by decide +kernel
theorem d271_87 : dc 271 87 = some (.aload_n 0, 88) := by decide +kernel
theorem d271_88 : dc 271 88 = some (.getfield 1697, 91) := by decide +kernel
theorem d271_91 : dc 271 91 = some (.iload 4, 93) := by decide +kernel
theorem d271_93 : dc 271 93 = some (.iastore, 94) := by decide +kernel
theorem d271_94 : dc 271 94 = some (.aload_n 0, 95) := by decide +kernel
theorem d271_95 : dc 271 95 = some (.dup, 96) := by decide +kernel
theorem d271_96 : dc 271 96 = some (.getfield 1697, 99) := by decide +kernel
theorem d271_99 : dc 271 99 = some (.iconst 1, 100) := by decide +kernel
theorem d271_100 : dc 271 100 = some (.iadd, 101) := by decide +kernel
theorem d271_101 : dc 271 101 = some (.putfield 1697, 104) := by decide +kernel
theorem d271_104 : dc 271 104 = some (.iconst 1, 105) := by decide +kernel
theorem d271_105 : dc 271 105 = some (.freturn, 106) := by decide +kernel
theorem k_M_faceLine {S : Shp} {G : Nat → Option Nat} {d : Nat} {h : Hp} {Q : Option MV → Hp → Prop} {m : Nat} {f : Nat} {e_ : Nat} {y l : List Nat} {fs : List FaV} (ok : Ok S h) (h1 : 3 ≤ d) (hm : sK S m = 14) (AL : AlR S h m l) (FC : FcM S h m l fs) (hy : Yin l f y) (he : e_ = f + y.length) (hn : fs.length < 906)
    (kk : ∀ h', Fr S m [1698, 1699, 1700, 1694, 1695, 1696, 1697] h h' → FcM S h' m l (rfL y 0 y.length fs) → Q (some (vI (b2i (rfK y 0 y.length fs.length)))) h') : Cl G d 271 [vR (some m), vI (f : Nat), vI (e_ : Nat)] h Q := by
  show Wp G d 271 0 [some (vR (some m)), some (vI (f : Nat)), some (vI (e_ : Nat)), none, none] [] h Q
  have AL_0 := AL
  have FC_0 := FC
  subst he
  have l3 : l.length ≤ 3600 := by have sl := sLT ok (f := 1681) (n := 3600) hm (by decide) rfl (by decide); have := AL.2.2.1; omega
  have hyl := hy.1
  have wrd := wordE_rg (l := y) (a := 0) (m := 8) (lo := 48) (Nat.zero_le _)
  refine w_aload_n d271_0 rfl ?_
  refine w_iload_n d271_1 rfl ?_
  refine wf1698 d271_2 ok hm (by omega) (fun h2 e2 m2 => ?_)
  have f2 : Fr S m [1698] _ _ := Fr.wF ok m2 (FK.pI e2)
  have ok2 := f2.ok
  have FR2 := Fr.le (F := [1698, 1699, 1700, 1694, 1695, 1696, 1697]) f2 (by decide)
  have AL := AL.r f2 hm
  have FC := FC.r f2 hm
  refine w_aload_n d271_5 rfl ?_
  refine w_iload_n d271_6 rfl ?_
  refine wf1699 d271_7 ok2 hm (by omega) (fun h7 e7 m7 => ?_)
  have f7 : Fr S m [1699] _ _ := Fr.wF ok2 m7 (FK.pI e7)
  have ok7 := f7.ok
  have FR7 := Fr.tr (F := [1698, 1699, 1700, 1694, 1695, 1696, 1697]) FR2 f7 (by decide) (by decide)
  have AL := AL.r f7 hm
  have FC := FC.r f7 hm
  refine w_aload_n d271_10 rfl ?_
  refine w_iconst d271_11 (by decide) ?_
  refine wf1700 d271_12 ok7 hm (by omega) (fun h12 e12 m12 => ?_)
  have f12 : Fr S m [1700] _ _ := Fr.wF ok7 m12 (FK.pI e12)
  have ok12 := f12.ok
  have FR12 := Fr.tr (F := [1698, 1699, 1700, 1694, 1695, 1696, 1697]) FR7 f12 (by decide) (by decide)
  have AL := AL.r f12 hm
  have FC := FC.r f12 hm
  have AT : AtR S h12 m f y 0 false := ⟨by rw [f12.i 1698, f7.i 1698, e2, FI_sFI, if_pos ⟨rfl, rfl⟩]; omega, by rw [f12.i 1699, e7, FI_sFI, if_pos ⟨rfl, rfl⟩], by rw [e12, FI_sFI, if_pos ⟨rfl, rfl⟩]; rfl⟩
  refine w_aload_n d271_15 rfl ?_
  refine w_callv1 d271_16 (by omega) rfl (ok12.kd hm) (by simp) (Nat.le_of_ble_eq_true rfl) ?_
  refine k_M_lineName ok12 (by omega) hm AT AL hy (Nat.zero_le _) (fun h16 q16 w16 f16 AT aq16 ac16 => ?_)
  have ok16 := f16.ok
  have FR16 := Fr.tr (F := [1698, 1699, 1700, 1694, 1695, 1696, 1697]) FR12 f16 (by decide) (by decide)
  have AL := AL.r f16 hm
  have FC := FC.r f16 hm
  refine w_istore3 d271_19 rfl ?_
  refine w_aload_n d271_20 rfl ?_
  refine w_bipush d271_21 (by decide) ?_
  refine w_callv2 d271_23 (by omega) rfl (ok16.kd hm) (by simp) (Nat.le_of_ble_eq_true rfl) ?_
  refine k_M_expectInLine (c := 61) ok16 (by omega) hm AT AL hy aq16.2 (fun h23 p23 w23 f23 AT ac23 => ?_)
  have ok23 := f23.ok
  have FR23 := Fr.tr (F := [1698, 1699, 1700, 1694, 1695, 1696, 1697]) FR16 f23 (by decide) (by decide)
  have AL := AL.r f23 hm
  have FC := FC.r f23 hm
  refine w_aload_n d271_26 rfl ?_
  refine w_getI (x := (b2i w23)) d271_27 (ok23.kd hm) AT.2.2 ?_
  refine w_ifeq d271_30 (fun c30 => ?_) (fun c30 => ?_)
  · have wf2 : w23 = false := by
      cases hz : w23 with
      | true => rw [hz] at c30; exact absurd c30 (by decide)
      | false => rfl
    have eg : p23 = q16 + 1 ∧ q16 < y.length ∧ w16 = false ∧ atv y (q16 : Nat) = 61 := by
      rcases ac23 with z | z
      · exact ⟨z.1, z.2.1, z.2.2.1.symm.trans wf2, z.2.2.2⟩
      · rw [wf2] at z; exact absurd z.2.1 (by decide)
    obtain ⟨pe, ql, wf, a61⟩ := eg
    have ag : q16 = wordE y 0 8 48 ∧ q16 ≠ 0 := by
      rcases ac16 with z | z
      · exact z.2
      · rw [wf] at z; exact absurd z.1 (by decide)
    subst pe
    subst wf2
    refine w_aload_n d271_37 rfl ?_
    refine w_callv1 d271_38 (by omega) rfl (ok23.kd hm) (by simp) (Nat.le_of_ble_eq_true rfl) ?_
    refine k_M_lineNumber ok23 (by omega) hm AT AL hy (by omega) (fun h38 q38 w38 v38 f38 AT aq38 av38 ac38 => ?_)
    have ok38 := f38.ok
    have FR38 := Fr.tr (F := [1698, 1699, 1700, 1694, 1695, 1696, 1697]) FR23 f38 (by decide) (by decide)
    have AL := AL.r f38 hm
    have FC := FC.r f38 hm
    refine w_istore4 d271_41 rfl ?_
    refine w_aload_n d271_43 rfl ?_
    refine w_getI (x := (b2i w38)) d271_44 (ok38.kd hm) AT.2.2 ?_
    refine w_ifne d271_47 (fun c47 => ?_) (fun c47 => ?_)
    · have wt3 : w38 = true := by
        cases hz : w38 with
        | true => rfl
        | false => rw [hz] at c47; exact absurd rfl c47
      have e : rfK y 0 y.length fs.length = false := decide_eq_false (fun z => by
        rw [← ag.1] at z
        rcases ac38 with u | u
        · rw [wt3] at u; exact absurd u.1 (by decide)
        · rcases u.2 with u | u
          · exact z.2.2.1 u
          · have := u.1; omega)
      have el : rfL y 0 y.length fs = fs := if_neg (by rw [e]; decide)
      rw [e, el] at kk
      refine w_iconst d271_61 (by decide) ?_
      refine w_zreturn d271_62 (by decide) ?_
      exact kk h38 FR38 FC
    · have wf3 : w38 = false := by
        cases hz : w38 with
        | true => rw [hz] at c47; exact absurd c47 (by decide)
        | false => rfl
      have an : q38 = numE y (q16 + 1) ∧ q38 ≠ q16 + 1 ∧ v38 = numV (sl y (q16 + 1) q38) := by
        rcases ac38 with z | z
        · exact z.2
        · rw [wf3] at z; exact absurd z.1 (by decide)
      refine w_aload_n d271_50 rfl ?_
      refine w_getI (x := ((f + q38 : Nat) : Int)) d271_51 (ok38.kd hm) AT.1 ?_
      refine w_aload_n d271_54 rfl ?_
      refine w_getI (x := ((f + y.length : Nat) : Int)) d271_55 (ok38.kd hm) AT.2.1 ?_
      refine w_icmpeq d271_58 (fun c58 => ?_) (fun c58 => ?_)
      · have e : rfK y 0 y.length fs.length = true := decide_eq_true (by
          rw [← ag.1, ← an.1]
          exact ⟨ag.2, a61, an.2.1, by omega, hn⟩)
        have FC_b := FC
        have n1 := FC.1
        have n2 := FC.2.1
        refine w_aload_n d271_63 rfl ?_
        refine w_dloadS d271_64 (ok38.kd hm) (fr1694 ok38 hm) ?_
        refine w_aload_n d271_67 rfl ?_
        refine w_getI (x := ((fs.length : Nat) : Int)) d271_68 (ok38.kd hm) n1 ?_
        refine w_iload_n d271_71 rfl ?_
        refine wa1694 d271_72 ok38 hm (by omega) (by omega) (fun h72 e72 m72 => ?_)
        have e72 : h72 = sAI h38 (sT S 1694 m) fs.length ((f : Nat) : Int) := e72
        have f72 : Fr S m [1694] _ _ := Fr.wB ok38 hm m72 (fun ζ e => ⟨1694, by decide, by decide, e ▸ U_refl⟩)
        have ok72 := f72.ok
        have FR72 := Fr.tr (F := [1698, 1699, 1700, 1694, 1695, 1696, 1697]) FR38 f72 (by decide) (by decide)
        have AL := AL.r f72 hm
        refine w_aload_n d271_73 rfl ?_
        refine w_dloadS d271_74 (ok72.kd hm) (fr1695 ok72 hm) ?_
        refine w_aload_n d271_77 rfl ?_
        refine w_getI (x := ((fs.length : Nat) : Int)) d271_78 (ok72.kd hm) ((f72.i 1697).trans n1) ?_
        refine w_iload_n d271_81 rfl ?_
        refine wa1695 d271_82 ok72 hm (by omega) (by omega) (fun h82 e82 m82 => ?_)
        have e82 : h82 = sAI h72 (sT S 1695 m) fs.length (((q16 - 0) : Nat) : Int) := e82
        have f82 : Fr S m [1695] _ _ := Fr.wB ok72 hm m82 (fun ζ e => ⟨1695, by decide, by decide, e ▸ U_refl⟩)
        have ok82 := f82.ok
        have FR82 := Fr.tr (F := [1698, 1699, 1700, 1694, 1695, 1696, 1697]) FR72 f82 (by decide) (by decide)
        have AL := AL.r f82 hm
        refine w_aload_n d271_83 rfl ?_
        refine w_dloadS d271_84 (ok82.kd hm) (fr1696 ok82 hm) ?_
        refine w_aload_n d271_87 rfl ?_
        refine w_getI (x := ((fs.length : Nat) : Int)) d271_88 (ok82.kd hm) ((f82.i 1697).trans ((f72.i 1697).trans n1)) ?_
        refine w_iload d271_91 rfl ?_
        refine wa1696 d271_93 ok82 hm (by omega) (by omega) (fun h93 e93 m93 => ?_)
        have e93 : h93 = sAI h82 (sT S 1696 m) fs.length ((v38 : Nat) : Int) := e93
        have f93 : Fr S m [1696] _ _ := Fr.wB ok82 hm m93 (fun ζ e => ⟨1696, by decide, by decide, e ▸ U_refl⟩)
        have ok93 := f93.ok
        have FR93 := Fr.tr (F := [1698, 1699, 1700, 1694, 1695, 1696, 1697]) FR82 f93 (by decide) (by decide)
        have AL := AL.r f93 hm
        refine w_aload_n d271_94 rfl ?_
        refine w_dupR d271_95 ?_
        refine w_getI (x := ((fs.length : Nat) : Int)) d271_96 (ok93.kd hm) ((f93.i 1697).trans ((f82.i 1697).trans ((f72.i 1697).trans n1))) ?_
        refine w_iconst d271_99 (by decide) ?_
        refine w_iadd d271_100 (by constructor <;> omega) ?_
        refine wf1697 d271_101 ok93 hm (by omega) (fun h101 e101 m101 => ?_)
        have f101 : Fr S m [1697] _ _ := Fr.wF ok93 m101 (FK.pI e101)
        have ok101 := f101.ok
        have FR101 := Fr.tr (F := [1698, 1699, 1700, 1694, 1695, 1696, 1697]) FR93 f101 (by decide) (by decide)
        have AL := AL.r f101 hm
        refine w_iconst d271_104 (by decide) ?_
        refine w_zreturn d271_105 (by decide) ?_
        have rl_ : rfL y 0 y.length fs = fs ++ [(nameV y 0 (wordE y 0 8 48), numV (sl y (wordE y 0 8 48 + 1) (numE y (wordE y 0 8 48 + 1))))] := if_pos e
        rw [rl_, e] at kk
        obtain ⟨n1, n2, n3⟩ := id FC_b
        have a72 : ∀ i, AI h101 (sT S 1694 m) i = if i = fs.length then (f : Int) else AI h38 (sT S 1694 m) i := fun i => by rw [f101.ai (by have := kT1694 ok hm; omega) (by decide) (by decide) (by decide), f93.ai (by have := kT1694 ok hm; omega) (by decide) (by decide) (by decide), f82.ai (by have := kT1694 ok hm; omega) (by decide) (by decide) (by decide), e72]; show up2 _ _ _ _ _ _ = _; rw [up2_at]
        have a82 : ∀ i, AI h101 (sT S 1695 m) i = if i = fs.length then ((q16 - 0 : Nat) : Int) else AI h38 (sT S 1695 m) i := fun i => by rw [f101.ai (by have := kT1695 ok hm; omega) (by decide) (by decide) (by decide), f93.ai (by have := kT1695 ok hm; omega) (by decide) (by decide) (by decide), e82]; show up2 _ _ _ _ _ _ = _; rw [up2_at, f72.ai (by have := kT1695 ok hm; omega) (by decide) (by decide) (by decide)]
        have a93 : ∀ i, AI h101 (sT S 1696 m) i = if i = fs.length then ((v38 : Nat) : Int) else AI h38 (sT S 1696 m) i := fun i => by rw [f101.ai (by have := kT1696 ok hm; omega) (by decide) (by decide) (by decide), e93]; show up2 _ _ _ _ _ _ = _; rw [up2_at, f82.ai (by have := kT1696 ok hm; omega) (by decide) (by decide) (by decide), f72.ai (by have := kT1696 ok hm; omega) (by decide) (by decide) (by decide)]
        refine kk h101 FR101 ⟨by rw [e101, FI_sFI, if_pos ⟨rfl, rfl⟩]; simp, by simp; omega, fun k hk => ?_⟩
        rw [List.length_append, List.length_singleton] at hk
        rw [a72, a82, a93]
        unfold fN fV
        rw [getD_snoc]
        by_cases z : k = fs.length
        · rw [if_pos z, if_pos z, if_pos z, if_pos z]
          have es := hy.sl (a := 0) (b := q16) aq16
          rw [Nat.add_zero] at es
          have wr := wordE_rg (l := y) (a := 0) (m := 8) (lo := 48) (Nat.zero_le _)
          refine ⟨f, q16 - 0, rfl, rfl, by have := hy.1; omega, ?_, ?_, ?_, ?_⟩
          · rw [Nat.sub_zero, es, ag.1]; exact okN_word (Nat.zero_le _)
          · rw [Nat.sub_zero, es, ag.1]; exact hd_sl wr.2.1 wr.1
          · rw [← ag.1, ← an.1]; exact congrArg _ an.2.2
          · rw [← ag.1, ← an.1]; show numV _ ≤ _; rw [← an.2.2]; exact av38
        · rw [if_neg z, if_neg z, if_neg z, if_neg z]
          obtain ⟨a, n, s1, s2, s3, s4, s5, s6, s7⟩ := n3 k (by omega)
          exact ⟨a, n, s1, s2, s3, s4, s5, s6, s7⟩
      · have e : rfK y 0 y.length fs.length = false := decide_eq_false (fun z => by
          rw [← ag.1, ← an.1] at z
          have := z.2.2.2.1
          omega)
        have el : rfL y 0 y.length fs = fs := if_neg (by rw [e]; decide)
        rw [e, el] at kk
        refine w_iconst d271_61 (by decide) ?_
        refine w_zreturn d271_62 (by decide) ?_
        exact kk h38 FR38 FC
  · have wt2 : w23 = true := by
      cases hz : w23 with
      | true => rfl
      | false => rw [hz] at c30; exact absurd rfl c30
    have e : rfK y 0 y.length fs.length = false := decide_eq_false (fun z => by
      rcases ac23 with u | u
      · have wt := u.2.2.1.symm.trans wt2
        rcases ac16 with x | x
        · rw [wt] at x; exact absurd x.1 (by decide)
        · rcases word_fail x.2 with x | x
          · exact z.1 x
          · exact x z.2.1
      · rcases ac16 with x | x
        · rw [x.2.1] at u; exact u.2.2 z.2.1
        · rcases word_fail x.2 with x | x
          · exact z.1 x
          · exact x z.2.1)
    have el : rfL y 0 y.length fs = fs := if_neg (by rw [e]; decide)
    rw [e, el] at kk
    refine w_iconst d271_33 (by decide) ?_
    refine w_goto d271_34 ?_
    refine w_istore4 d271_41 rfl ?_
    refine w_aload_n d271_43 rfl ?_
    refine w_getI (x := (b2i w23)) d271_44 (ok23.kd hm) AT.2.2 ?_
    refine w_ifne d271_47 (fun c47 => ?_) (fun c47 => ?_)
    · refine w_iconst d271_61 (by decide) ?_
      refine w_zreturn d271_62 (by decide) ?_
      exact kk h23 FR23 FC
    · rw [wt2] at c47; exact absurd c47 (by decide)
