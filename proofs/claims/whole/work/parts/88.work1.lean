/-! the workshop: what an action sees -/
theorem wa1153 {S : Shp} {G : Nat → Option Nat} {h : Hp} {d k pc pc' w i r : Nat} {ls : List (Option MV)} {st : List MV} {Q : Option MV → Hp → Prop} (hd : dc k pc = some (.aastore, pc')) (ok : Ok S h) (hw : sK S w = 10) (hi : i < 6) (hr : sK S r = 6)
    (kk : ∀ h', h' = sAR h (sT S 1153 w) i (some r) → Mo S (fun y => y = sT S 1153 w) h h' → Wp G d k pc' ls st h' Q) : Wp G d k pc ls (vR (some r) :: vI (i : Nat) :: vR (some (sT S 1153 w)) :: st) h Q :=
  w_aastore hd ⟨⟨by rw [ok.kd (kT1153 ok hw)]; decide, by rw [ok.kd (kT1153 ok hw)]; decide, by rw [ok.kd (kT1153 ok hw), ok.kd hr]⟩, (gi1153 ok hw (i := (i : Nat)) ⟨by omega, by omega⟩).2⟩ (kk _ rfl (Mo.pAW ok hw hr))
/-- what an input gives -/
def inpV (fl : List (List Nat × List Nat)) (ts : List (Bool × TgV)) (pu : Nat → OutV) (c : Bool) (v : InV) : List Nat := if v.1 = true then (if 0 ≤ tat ts v.2 then (if c = true then oF (pu (tat ts v.2).toNat) else oO (pu (tat ts v.2).toNat)) else []) else (if 0 ≤ fix fl v.2 then fB fl (fix fl v.2).toNat else [])
def inpL (fl : List (List Nat × List Nat)) (ts : List (Bool × TgV)) (pu : Nat → OutV) (t : TgV) : List (List Nat) := (tgI t).map (inpV fl ts pu (decide (rix (tgR t) = 7)))
/-- the rows of the inputs -/
def InsC (S : Shp) (h : Hp) (w : Nat) (P : Nat → Prop) (ins : List (List Nat)) : Prop := ins.length ≤ 6 ∧ ∀ i, i < ins.length → ∃ r, AR h (sT S 1153 w) i = some r ∧ sK S r = 6 ∧ rl h r = ins.getD i [] ∧ (r = sT S 1152 w ∨ P r) ∧ (ins.getD i []).length ≤ 600
/-- files' bytes have room -/
def flB (fl : List (List Nat × List Nat)) : Prop := ∀ i, (fB fl i).length ≤ 600
theorem getD_map {α β : Type} (f : α → β) (l : List α) (i : Nat) (a : α) (b : β) (h : i < l.length) : (l.map f).getD i b = f (l.getD i a) := by
  rw [List.getD_eq_getElem?_getD, List.getD_eq_getElem?_getD, List.getElem?_map, List.getElem?_eq_getElem h]
  rfl
theorem inpL_at {fl : List (List Nat × List Nat)} {ts : List (Bool × TgV)} {pu : Nat → OutV} {t : TgV} {i : Nat} (h : i < (tgI t).length) : (inpL fl ts pu t).getD i [] = inpV fl ts pu (decide (rix (tgR t) = 7)) (inB (tgI t) i, inN (tgI t) i) := getD_map _ _ _ (false, []) _ h
theorem inpL_len (fl : List (List Nat × List Nat)) (ts : List (Bool × TgV)) (pu : Nat → OutV) (t : TgV) : (inpL fl ts pu t).length = (tgI t).length := List.length_map ..
theorem tatJ_eq {ts : List (Bool × TgV)} {n : List Nat} (hl : ∀ i, i < ts.length → okN (tgN (tD ts i))) (o : okN n) : tatJ ts (hd n) = tat ts n := by
  unfold tatJ tat
  rw [tixJ_eq hl o]
theorem inpV_len {S : Shp} {h : Hp} {p s : Nat} {fl : List (List Nat × List Nat)} {ts : List (Bool × TgV)} {pu : Nat → OutV} {pp : Nat → List Int64} {c : Bool} {v : InV} (l14 : ts.length ≤ 14) (fc : FilC S h p fl) (pc : PutC S h s pu pp) : (inpV fl ts pu c v).length ≤ 600 := by
  have tr := tat_rg ts v.2
  have fr := fix_rg fl v.2
  unfold inpV
  split
  · split
    · have D := (pc (tat ts v.2).toNat (by omega)).1
      split
      · exact D.2.2.2.2.2.1
      · exact D.2.2.2.2.1
    · exact Nat.zero_le _
  · split
    · obtain ⟨σ, s1, s2, s3, s4, s5⟩ := fc
      have := (s5 (fix fl v.2).toNat (by omega)).2.2.2.2
      omega
    · exact Nat.zero_le _
theorem d105_0 : dc 105 0 = some (.iconst 0, 1) := by decide +kernel
theorem d105_1 : dc 105 1 = some (.istore 4, 3) := by decide +kernel
theorem d105_3 : dc 105 3 = some (.iload 4, 5) := by decide +kernel
theorem d105_5 : dc 105 5 = some (.aload_n 3, 6) := by decide +kernel
theorem d105_6 : dc 105 6 = some (.getfield 133, 9) := by decide +kernel
theorem d105_9 : dc 105 9 = some (.if_icmp .ge ((139 : Nat) : Int), 12) := by decide +kernel
theorem d105_12 : dc 105 12 = some (.aload_n 0, 13) := by decide +kernel
theorem d105_13 : dc 105 13 = some (.dload 1153, 16) := by decide +kernel
theorem d105_16 : dc 105 16 = some (.iload 4, 18) := by decide +kernel
theorem d105_18 : dc 105 18 = some (.aload_n 0, 19) := by decide +kernel
theorem d105_19 : dc 105 19 = some (.dload 1152, 22) := by decide +kernel
theorem d105_22 : dc 105 22 = some (.aastore, 23) := by decide +kernel
theorem d105_23 : dc 105 23 = some (.aload_n 3, 24) := by decide +kernel
theorem d105_24 : dc 105 24 = some (.dload 134, 27) := by decide +kernel
theorem d105_27 : dc 105 27 = some (.iload 4, 29) := by decide +kernel
theorem d105_29 : dc 105 29 = some (.baload, 30) := by decide +kernel
theorem d105_30 : dc 105 30 = some (.ifCond .eq ((94 : Nat) : Int), 33) := by decide +kernel
theorem d105_33 : dc 105 33 = some (.aload_n 1, 34) := by decide +kernel
theorem d105_34 : dc 105 34 = some (.aload_n 3, 35) := by decide +kernel
theorem d105_35 : dc 105 35 = some (.dload 135, 38) := by decide +kernel
theorem d105_38 : dc 105 38 = some (.iload 4, 40) := by decide +kernel
theorem d105_40 : dc 105 40 = some (.laload, 41) := by decide +kernel
theorem d105_41 : dc 105 41 = some (.invokevirtual 79, 44) := by decide +kernel
theorem d105_44 : dc 105 44 = some (.istore 5, 46) := by decide +kernel
theorem d105_46 : dc 105 46 = some (.iload 5, 48) := by decide +kernel
theorem d105_48 : dc 105 48 = some (.ifCond .lt ((91 : Nat) : Int), 51) := by decide +kernel
theorem d105_51 : dc 105 51 = some (.iload 5, 53) := by decide +kernel
theorem d105_53 : dc 105 53 = some (.aload_n 2, 54) := by decide +kernel
theorem d105_54 : dc 105 54 = some (.arraylength, 55) := by decide +kernel
theorem d105_55 : dc 105 55 = some (.if_icmp .ge ((91 : Nat) : Int), 58) := by decide +kernel
theorem d105_58 : dc 105 58 = some (.aload_n 0, 59) := by decide +kernel
theorem d105_59 : dc 105 59 = some (.dload 1153, 62) := by decide +kernel
theorem d105_62 : dc 105 62 = some (.iload 4, 64) := by decide +kernel
theorem d105_64 : dc 105 64 = some (.aload_n 3, 65) := by decide +kernel
theorem d105_65 : dc 105 65 = some (.getfield 131, 68) := by decide +kernel
theorem d105_68 : dc 105 68 = some (.bipush 7, 70) := by decide +kernel
theorem d105_70 : dc 105 70 = some (.if_icmp .ne ((83 : Nat) : Int), 73) := by decide +kernel
theorem d105_73 : dc 105 73 = some (.aload_n 2, 74) := by decide +kernel
theorem d105_74 : dc 105 74 = some (.iload 5, 76) := by decide +kernel
theorem d105_76 : dc 105 76 = some (.aaload, 77) := by decide +kernel
theorem d105_77 : dc 105 77 = some (.dload 258, 80) := by decide +kernel
theorem d105_80 : dc 105 80 = some (.goto ((90 : Nat) : Int), 83) := by decide +kernel
theorem d105_83 : dc 105 83 = some (.aload_n 2, 84) := by decide +kernel
theorem d105_84 : dc 105 84 = some (.iload 5, 86) := by decide +kernel
theorem d105_86 : dc 105 86 = some (.aaload, 87) := by decide +kernel
theorem d105_87 : dc 105 87 = some (.dload 257, 90) := by decide +kernel
theorem d105_90 : dc 105 90 = some (.aastore, 91) := by decide +kernel
theorem d105_91 : dc 105 91 = some (.goto ((133 : Nat) : Int), 94) := by decide +kernel
theorem d105_94 : dc 105 94 = some (.aload_n 1, 95) := by decide +kernel
theorem d105_95 : dc 105 95 = some (.aload_n 3, 96) := by decide +kernel
theorem d105_96 : dc 105 96 = some (.dload 135, 99) := by decide +kernel
theorem d105_99 : dc 105 99 = some (.iload 4, 101) := by decide +kernel
theorem d105_101 : dc 105 101 = some (.laload, 102) := by decide +kernel
theorem d105_102 : dc 105 102 = some (.aload_n 3, 103) := by decide +kernel
theorem d105_103 : dc 105 103 = some (.dload 136, 106) := by decide +kernel
theorem d105_106 : dc 105 106 = some (.iload 4, 108) := by decide +kernel
theorem d105_108 : dc 105 108 = some (.laload, 109) := by decide +kernel
theorem d105_109 : dc 105 109 = some (.invokevirtual 69, 112) := by decide +kernel
theorem d105_112 : dc 105 112 = some (.istore 5, 114) := by decide +kernel
theorem d105_114 : dc 105 114 = some (.iload 5, 116) := by decide +kernel
theorem d105_116 : dc 105 116 = some (.ifCond .lt ((133 : Nat) : Int), 119) := by decide +kernel
theorem d105_119 : dc 105 119 = some (.aload_n 0, 120) := by decide +kernel
theorem d105_120 : dc 105 120 = some (.dload 1153, 123) := by decide +kernel
theorem d105_123 : dc 105 123 = some (.iload 4, 125) := by decide +kernel
theorem d105_125 : dc 105 125 = some (.aload_n 1, 126) := by decide +kernel
theorem d105_126 : dc 105 126 = some (.dload 387, 129) := by decide +kernel
theorem d105_129 : dc 105 129 = some (.iload 5, 131) := by decide +kernel
theorem d105_131 : dc 105 131 = some (.aaload, 132) := by decide +kernel
theorem d105_132 : dc 105 132 = some (.aastore, 133) := by decide +kernel
theorem d105_133 : dc 105 133 = some (.iinc 4 1, 136) := by decide +kernel
theorem d105_136 : dc 105 136 = some (.goto ((3 : Nat) : Int), 139) := by decide +kernel
theorem d105_139 : dc 105 139 = some (.return_, 140) := by decide +kernel
theorem k_Wk_load {S : Shp} {G : Nat → Option Nat} {d : Nat} {h : Hp} {Q : Option MV → Hp → Prop} {w : Nat} {p : Nat} {dd : Nat} {s : Nat} (ok : Ok S h) (h1 : 1 ≤ d) (hw : sK S w = 10) (hp : sK S p = 4) (hdd : sK S dd = 2) (hs : sK S s = 8) {fl : List (List Nat × List Nat)} {ts : List (Bool × TgV)} {t : TgV} {tx : List Nat} {pu : Nat → OutV} {pp : Nat → List Int64} (fc0 : FilC S h p fl) (tc0 : TsC S h p ts) (pc0 : PutC S h s pu pp) (D : DefC S h dd t tx) (hno : rl h (sT S 1152 w) = []) (hpw : ∀ y, U S p y → ¬ U S w y) (hsw : ∀ y, U S s y → ¬ U S w y)
    (kk : ∀ h', Mo S (fun y => y = sT S 1153 w) h h' → InsC S h' w (fun r => U S p r ∨ U S s r) (inpL fl ts pu t) → Q none h') : Cl G d 105 [vR (some w), vR (some p), vR (some (sT S 896 s)), vR (some dd)] h Q := by
  show Wp G d 105 0 [some (vR (some w)), some (vR (some p)), some (vR (some (sT S 896 s))), some (vR (some dd)), none, none] [] h Q
  have K53 := kT1153 ok hw
  have uw : U S w (sT S 1153 w) := ok.so.uT (by decide) U_refl
  obtain ⟨D1, D2, D3, D4, D5, D6, D7, D8, D9, D10, D11, D12, D13, D14, D15⟩ := D
  have K34 := kT134 ok hdd
  have K35 := kT135 ok hdd
  have K36 := kT136 ok hdd
  obtain ⟨σ, s1, s2, s3, s4, s5⟩ := id fc0
  have tl14 := tc0.2.1
  have i6 : (tgI t).length ≤ 6 := D13.1
  have K52 := kT1152 ok hw
  have fokp := fc0.okp
  have K87 := kT387 ok hp
  have nd : ∀ y, sK S y ≠ 55 → ¬ y = sT S 1153 w := fun y hy z => hy (z ▸ K53)
  refine w_iconst d105_0 (by decide) ?_
  refine w_istore4 d105_1 rfl ?_
  have L3 : ∀ (m3 : Nat) (g : Hp) (i : Nat), (tgI t).length - i = m3 → Mo S (fun x => x = (sT S 1153 w)) h g → (i ≤ (tgI t).length) → (∀ j, j < i → ∃ r, AR g (sT S 1153 w) j = some r ∧ sK S r = 6 ∧ rl h r = inpV fl ts pu (decide (rix (tgR t) = 7)) (inB (tgI t) j, inN (tgI t) j) ∧ (r = sT S 1152 w ∨ U S p r ∨ U S s r)) → Wp G d 105 3 [some (vR (some w)), some (vR (some p)), some (vR (some (sT S 896 s))), some (vR (some dd)), some (vI (i : Nat)), none] [] g Q := by
    intro m3
    induction m3 using Nat.strongRecOn with | ind m3 IH3 => ?_
    intro g i hm3 Mg i1 i2
    have okg := Mg.ok
    refine w_iload d105_3 rfl ?_
    refine w_aload_n d105_5 rfl ?_
    refine w_getI (x := (((tgI t).length : Nat) : Int)) d105_6 (okg.kd hdd) ((Mg.fi ok (by omega) (nd dd (by omega)) 133).trans D5) ?_
    refine w_icmpge d105_9 (fun c9 => ?_) (fun c9 => ?_)
    · refine w_return d105_139 ?_
      refine kk g Mg ⟨by rw [inpL_len]; exact i6, fun j hj => ?_⟩
      rw [inpL_len] at hj
      obtain ⟨r, r1, r2, r3, r4⟩ := i2 j (by omega)
      have e5 : rl g r = rl h r := Mg.rb ok r2 (fun z => by rw [z] at r2; omega)
      refine ⟨r, r1, r2, by rw [e5, inpL_at hj]; exact r3, r4, ?_⟩
      rw [inpL_at hj]
      exact inpV_len tl14 fc0 pc0
    · have hi : i < (tgI t).length := by omega
      obtain ⟨E1, E2, E3⟩ := D6 i hi
      obtain ⟨O1, O2⟩ := D13.2 i hi
      refine w_aload_n d105_12 rfl ?_
      refine w_dloadS d105_13 (okg.kd hw) (fr1153 okg hw) ?_
      refine w_iload d105_16 rfl ?_
      refine w_aload_n d105_18 rfl ?_
      refine w_dloadS d105_19 (okg.kd hw) (fr1152 okg hw) ?_
      refine wa1153 d105_22 okg hw (i := i) (r := sT S 1152 w) (by omega) K52 (fun h22 e22 m22 => ?_)
      have e22 : h22 = sAR g (sT S 1153 w) i (some (sT S 1152 w)) := e22
      have ok22 := m22.ok
      have M22 := Mo.tr ok Mg m22 (fun x e => e)
      refine w_aload_n d105_23 rfl ?_
      refine w_dloadS d105_24 (ok22.kd hdd) (fr134 ok22 hdd) ?_
      refine w_iload d105_27 rfl ?_
      refine w_baloadV (x := (b2i (inB (tgI t) i))) d105_29 (gi134 ok22 hdd (by omega)) ((congrFun (M22.ai ok ⟨by omega, by omega⟩ (nd _ (by omega))) i).trans E1) ?_
      refine w_ifeq d105_30 (fun c30 => ?_) (fun c30 => ?_)
      · have bf : inB (tgI t) i = false := by cases z : inB (tgI t) i with
          | false => rfl
          | true => rw [z] at c30; exact absurd c30 (by decide)
        refine w_aload_n d105_94 rfl ?_
        refine w_aload_n d105_95 rfl ?_
        refine w_dloadS d105_96 (ok22.kd hdd) (fr135 ok22 hdd) ?_
        refine w_iload d105_99 rfl ?_
        refine w_laloadV (x := (hd (inN (tgI t) i))) d105_101 (gi135 ok22 hdd (by omega)) ((congrFun (M22.al ok (by omega) (nd _ (by omega))) i).trans E2) ?_
        refine w_aload_n d105_102 rfl ?_
        refine w_dloadS d105_103 (ok22.kd hdd) (fr136 ok22 hdd) ?_
        refine w_iload d105_106 rfl ?_
        refine w_laloadV (x := (tl (inN (tgI t) i))) d105_108 (gi136 ok22 hdd (by omega)) ((congrFun (M22.al ok (by omega) (nd _ (by omega))) i).trans E3) ?_
        refine w_callv3 d105_109 (by omega) rfl (ok22.kd hp) (by simp) (Nat.le_of_ble_eq_true rfl) ?_
        have fcg := fc0.mo ok M22 hp (fun y u z => hpw y u (z ▸ uw))
        have fr := fix_rg fl (inN (tgI t) i)
        refine k_Plan_fileAt ok22 (by omega) hp fcg ?_
        rw [fixJ_eq fokp O1]
        refine w_istore5 d105_112 rfl ?_
        refine w_iload d105_114 rfl ?_
        refine w_iflt d105_116 (fun c116 => ?_) (fun c116 => ?_)
        · have iv : inpV fl ts pu (decide (rix (tgR t) = 7)) (inB (tgI t) i, inN (tgI t) i) = [] := by unfold inpV; rw [if_neg (by show ¬ inB (tgI t) i = true; rw [bf]; decide), if_neg (by show ¬ 0 ≤ fix fl (inN (tgI t) i); omega)]
          refine w_iinc4 d105_133 rfl (by constructor <;> omega) ?_
          refine w_goto d105_136 ?_
          refine w_less ?_ (IH3 _ (by omega) h22 (i + 1) rfl M22 (by omega) (fun j hj => by
                  by_cases q : j = i
                  · exact ⟨(sT S 1152 w), by rw [e22, AR_sAR, if_pos ⟨rfl, q⟩], (kT1152 ok hw), (by rw [q, iv]; exact hno), (Or.inl rfl)⟩
                  · obtain ⟨r, r1, r2, r3, r4⟩ := i2 j (by omega)
                    exact ⟨r, by rw [e22, AR_sAR, if_neg (fun z => q z.2)]; exact r1, r2, r3, r4⟩))
          exact ⟨Or.inr rfl, Or.inr rfl, Or.inr rfl, Or.inr rfl, Or.inr rfl, Or.inl rfl, trivial⟩
        · obtain ⟨f, hf⟩ : ∃ f : Nat, fix fl (inN (tgI t) i) = f := ⟨(fix fl (inN (tgI t) i)).toNat, (Int.toNat_of_nonneg (by omega)).symm⟩
          rw [hf]
          have iv : inpV fl ts pu (decide (rix (tgR t) = 7)) (inB (tgI t) i, inN (tgI t) i) = fB fl f := by unfold inpV; rw [if_neg (by show ¬ inB (tgI t) i = true; rw [bf]; decide)]; show (if 0 ≤ fix fl (inN (tgI t) i) then _ else _) = _; rw [hf, if_pos (by omega)]; rfl
          have f16 : f < 16 := by omega
          have sf := (s1 f f16).1
          refine w_aload_n d105_119 rfl ?_
          refine w_dloadS d105_120 (ok22.kd hw) (fr1153 ok22 hw) ?_
          refine w_iload d105_123 rfl ?_
          refine w_aload_n d105_125 rfl ?_
          refine w_dloadS d105_126 (ok22.kd hp) (fr387 ok22 hp) ?_
          refine w_iload d105_129 rfl ?_
          refine w_aaloadSN d105_131 (gi387 ok22 hp (by omega)) ((congrFun (M22.ar ok (by omega) (ok.so.ou (by decide) (by decide) (Or.inl (by decide)))) f).trans (s1 f f16).2) ?_
          refine wa1153 d105_132 ok22 hw (i := i) (by omega) (kE387 ok hp sf) (fun h132 e132 m132 => ?_)
          have e132 : h132 = sAR h22 (sT S 1153 w) i (some (sE S (sT S 387 p) ((σ f)))) := e132
          have ok132 := m132.ok
          have M132 := Mo.tr ok M22 m132 (fun x e => e)
          refine w_iinc4 d105_133 rfl (by constructor <;> omega) ?_
          refine w_goto d105_136 ?_
          refine w_less ?_ (IH3 _ (by omega) h132 (i + 1) rfl M132 (by omega) (fun j hj => by
                  by_cases q : j = i
                  · exact ⟨(sE S (sT S 387 p) (σ f)), by rw [e132, AR_sAR, if_pos ⟨rfl, q⟩], (kE387 ok hp (s1 f (by omega)).1), (by rw [q, iv]; exact (s5 f (by omega)).2.2.1), (Or.inr (Or.inl (ok.so.uE (by have := (s1 f (by omega)).1; omega) (ok.so.uT (by decide) U_refl))))⟩
                  · obtain ⟨r, r1, r2, r3, r4⟩ := i2 j (by omega)
                    exact ⟨r, by rw [e132, AR_sAR, if_neg (fun z => q z.2), e22, AR_sAR, if_neg (fun z => q z.2)]; exact r1, r2, r3, r4⟩))
          exact ⟨Or.inr rfl, Or.inr rfl, Or.inr rfl, Or.inr rfl, Or.inr rfl, Or.inl rfl, trivial⟩
      · have bt : inB (tgI t) i = true := by cases z : inB (tgI t) i with
          | true => rfl
          | false => rw [z] at c30; exact absurd rfl c30
        refine w_aload_n d105_33 rfl ?_
        refine w_aload_n d105_34 rfl ?_
        refine w_dloadS d105_35 (ok22.kd hdd) (fr135 ok22 hdd) ?_
        refine w_iload d105_38 rfl ?_
        refine w_laloadV (x := (hd (inN (tgI t) i))) d105_40 (gi135 ok22 hdd (by omega)) ((congrFun (M22.al ok (by omega) (nd _ (by omega))) i).trans E2) ?_
        refine w_callv2 d105_41 (by omega) rfl (ok22.kd hp) (by simp) (Nat.le_of_ble_eq_true rfl) ?_
        have tcg := tc0.mo ok M22 hp (fun y u z => hpw y u (z ▸ uw))
        have tr := tat_rg ts (inN (tgI t) i)
        refine k_Plan_targetAt ok22 (by omega) hp tcg ?_
        rw [show tatJ ts (hd (inN (tgI t) i)) = tat ts (inN (tgI t) i) from tatJ_eq tc0.okn (O2 bt)]
        refine w_istore5 d105_44 rfl ?_
        refine w_iload d105_46 rfl ?_
        refine w_iflt d105_48 (fun c48 => ?_) (fun c48 => ?_)
        · have iv : inpV fl ts pu (decide (rix (tgR t) = 7)) (inB (tgI t) i, inN (tgI t) i) = [] := by unfold inpV; rw [if_pos bt, if_neg (by show ¬ 0 ≤ tat ts (inN (tgI t) i); omega)]
          refine w_goto d105_91 ?_
          refine w_iinc4 d105_133 rfl (by constructor <;> omega) ?_
          refine w_goto d105_136 ?_
          refine w_less ?_ (IH3 _ (by omega) h22 (i + 1) rfl M22 (by omega) (fun j hj => by
                  by_cases q : j = i
                  · exact ⟨(sT S 1152 w), by rw [e22, AR_sAR, if_pos ⟨rfl, q⟩], (kT1152 ok hw), (by rw [q, iv]; exact hno), (Or.inl rfl)⟩
                  · obtain ⟨r, r1, r2, r3, r4⟩ := i2 j (by omega)
                    exact ⟨r, by rw [e22, AR_sAR, if_neg (fun z => q z.2)]; exact r1, r2, r3, r4⟩))
          exact ⟨Or.inr rfl, Or.inr rfl, Or.inr rfl, Or.inr rfl, Or.inr rfl, Or.inl rfl, trivial⟩
        · obtain ⟨u, hu⟩ : ∃ u : Nat, tat ts (inN (tgI t) i) = u := ⟨(tat ts (inN (tgI t) i)).toNat, (Int.toNat_of_nonneg (by omega)).symm⟩
          rw [hu]
          have u14 : u < 14 := by omega
          refine w_iload d105_51 rfl ?_
          refine w_aload_n d105_53 rfl ?_
          refine wl896 d105_54 ok22 hs ?_
          refine w_icmpge d105_55 (fun c55 => ?_) (fun c55 => ?_)
          · omega
          · refine w_aload_n d105_58 rfl ?_
            refine w_dloadS d105_59 (ok22.kd hw) (fr1153 ok22 hw) ?_
            refine w_iload d105_62 rfl ?_
            refine w_aload_n d105_64 rfl ?_
            refine w_getI (x := (rix (tgR t))) d105_65 (ok22.kd hdd) ((M22.fi ok (by omega) (nd dd (by omega)) 131).trans D3) ?_
            refine w_bipush d105_68 (by decide) ?_
            refine w_icmpne d105_70 (fun c70 => ?_) (fun c70 => ?_)
            · have iv : inpV fl ts pu (decide (rix (tgR t) = 7)) (inB (tgI t) i, inN (tgI t) i) = oO (pu u) := by unfold inpV; rw [if_pos bt]; show (if 0 ≤ tat ts (inN (tgI t) i) then _ else _) = _; rw [hu, if_pos (by omega), if_neg (by rw [decide_eq_true_eq]; exact c70)]; rfl
              refine w_aload_n d105_83 rfl ?_
              refine w_iload d105_84 rfl ?_
              have k86 := kE896 ok22 hs (j := u) (by omega)
              refine w_aaloadSN d105_86 (gi896 ok22 hs (by omega)) (er896 ok22 hs (by omega)) ?_
              refine w_dloadS d105_87 (ok22.kd k86) (fr257 ok22 k86) ?_
              refine wa1153 d105_90 ok22 hw (i := i) (by omega) (by first | exact kT258 ok (kE896 ok hs u14) | exact kT257 ok (kE896 ok hs u14)) (fun h90 e90 m90 => ?_)
              have e90 : h90 = sAR h22 (sT S 1153 w) i (some (sT S 257 (sE S (sT S 896 s) u))) := e90
              have ok90 := m90.ok
              have M90 := Mo.tr ok M22 m90 (fun x e => e)
              refine w_goto d105_91 ?_
              refine w_iinc4 d105_133 rfl (by constructor <;> omega) ?_
              refine w_goto d105_136 ?_
              refine w_less ?_ (IH3 _ (by omega) h90 (i + 1) rfl M90 (by omega) (fun j hj => by
                      by_cases q : j = i
                      · exact ⟨(sT S 257 (sE S (sT S 896 s) u)), by rw [e90, AR_sAR, if_pos ⟨rfl, q⟩], (kT257 ok (kE896 ok hs (j := u) (by omega))), (by rw [q, iv]; exact (pc0 u (by omega)).1.2.1), (Or.inr (Or.inr (ok.so.uT (by decide) (ok.so.uE (by omega) (ok.so.uT (by decide) U_refl)))))⟩
                      · obtain ⟨r, r1, r2, r3, r4⟩ := i2 j (by omega)
                        exact ⟨r, by rw [e90, AR_sAR, if_neg (fun z => q z.2), e22, AR_sAR, if_neg (fun z => q z.2)]; exact r1, r2, r3, r4⟩))
              exact ⟨Or.inr rfl, Or.inr rfl, Or.inr rfl, Or.inr rfl, Or.inr rfl, Or.inl rfl, trivial⟩
            · have iv : inpV fl ts pu (decide (rix (tgR t) = 7)) (inB (tgI t) i, inN (tgI t) i) = oF (pu u) := by unfold inpV; rw [if_pos bt]; show (if 0 ≤ tat ts (inN (tgI t) i) then _ else _) = _; rw [hu, if_pos (by omega), if_pos (by rw [decide_eq_true_eq]; omega)]; rfl
              refine w_aload_n d105_73 rfl ?_
              refine w_iload d105_74 rfl ?_
              have k76 := kE896 ok22 hs (j := u) (by omega)
              refine w_aaloadSN d105_76 (gi896 ok22 hs (by omega)) (er896 ok22 hs (by omega)) ?_
              refine w_dloadS d105_77 (ok22.kd k76) (fr258 ok22 k76) ?_
              refine w_goto d105_80 ?_
              refine wa1153 d105_90 ok22 hw (i := i) (by omega) (by first | exact kT258 ok (kE896 ok hs u14) | exact kT257 ok (kE896 ok hs u14)) (fun h90 e90 m90 => ?_)
              have e90 : h90 = sAR h22 (sT S 1153 w) i (some (sT S 258 (sE S (sT S 896 s) u))) := e90
              have ok90 := m90.ok
              have M90 := Mo.tr ok M22 m90 (fun x e => e)
              refine w_goto d105_91 ?_
              refine w_iinc4 d105_133 rfl (by constructor <;> omega) ?_
              refine w_goto d105_136 ?_
              refine w_less ?_ (IH3 _ (by omega) h90 (i + 1) rfl M90 (by omega) (fun j hj => by
                      by_cases q : j = i
                      · exact ⟨(sT S 258 (sE S (sT S 896 s) u)), by rw [e90, AR_sAR, if_pos ⟨rfl, q⟩], (kT258 ok (kE896 ok hs (j := u) (by omega))), (by rw [q, iv]; exact (pc0 u (by omega)).1.2.2.1), (Or.inr (Or.inr (ok.so.uT (by decide) (ok.so.uE (by omega) (ok.so.uT (by decide) U_refl)))))⟩
                      · obtain ⟨r, r1, r2, r3, r4⟩ := i2 j (by omega)
                        exact ⟨r, by rw [e90, AR_sAR, if_neg (fun z => q z.2), e22, AR_sAR, if_neg (fun z => q z.2)]; exact r1, r2, r3, r4⟩))
              exact ⟨Or.inr rfl, Or.inr rfl, Or.inr rfl, Or.inr rfl, Or.inr rfl, Or.inl rfl, trivial⟩
  have M0_ := Mo.refl (A := (fun x => x = (sT S 1153 w))) ok
  refine w_less ?_ (L3 _ h 0 rfl M0_ (by omega) (fun j hj => absurd hj (Nat.not_lt_zero _)))
  exact ⟨Or.inr rfl, Or.inr rfl, Or.inr rfl, Or.inr rfl, Or.inr rfl, Or.inl rfl, trivial⟩
