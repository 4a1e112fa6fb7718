/-! the reference: its tape -/
theorem byI_sh {x : Int} {s : Nat} (hs : s ≤ 24) : (i32 ((i32 x >>> (i32 ((s : Nat) : Int) &&& 31)).toInt) &&& i32 255).toInt = (byI x s : Int) := by
  rw [show i32 ((i32 x >>> (i32 ((s : Nat) : Int) &&& 31)).toInt) = i32 x >>> (i32 ((s : Nat) : Int) &&& 31) from Int32.ofInt_toInt _]
  have hsh : ((i32 ((s : Nat) : Int) &&& 31).toBitVec.smod 32#32).toNat = s := by
    have g : ∀ k : Fin 25, ((i32 ((k.val : Nat) : Int) &&& 31).toBitVec.smod 32#32).toNat = k.val := by decide
    exact g ⟨s, by omega⟩
  show BitVec.toInt ((i32 x).toBitVec.sshiftRight ((i32 ((s : Nat) : Int) &&& 31).toBitVec.smod 32#32).toNat &&& 255#32) = _
  rw [hsh]
  have e : (i32 x).toBitVec = BitVec.ofInt 32 x := rfl
  have en : (i32 x).toBitVec.toNat = (x % 4294967296).toNat := by rw [e, BitVec.toNat_ofInt]; rfl
  have h1 : ((i32 x).toBitVec.sshiftRight s &&& 255#32).toNat = byI x s := by
    unfold byI
    rw [← en]
    refine Nat.eq_of_testBit_eq (fun i => ?_)
    rw [show (256 : Nat) = 2 ^ 8 by decide, Nat.testBit_mod_two_pow, Nat.testBit_div_two_pow, BitVec.testBit_toNat, BitVec.testBit_toNat, BitVec.getLsbD_and, BitVec.getLsbD_sshiftRight, BitVec.getLsbD_ofNat, show (255 : Nat) = 2 ^ 8 - 1 by decide, Nat.testBit_two_pow_sub_one]
    by_cases q : i < 8
    · have a1 : i < 32 := by omega
      have a2 : s + i < 32 := by omega
      have a3 : ¬ 32 ≤ i := by omega
      simp [q, a1, a2, a3, Nat.add_comm]
    · simp [q]
  rw [BitVec.toInt_eq_toNat_of_lt (by rw [h1]; have : byI x s < 256 := Nat.mod_lt _ (by decide); omega), h1]
/-- which number a byte is of -/
def pk5 (a b c e f : Int) (i : Nat) : Int := if i < 4 then a else if i < 8 then b else if i < 12 then c else if i < 16 then e else f
theorem by20 (a b c e f : Int) : ∀ i, i < 20 → (by4 a ++ (by4 b ++ (by4 c ++ (by4 e ++ by4 f)))).getD i 0 = byI (pk5 a b c e f i) (24 - 8 * (i % 4)) := fun i hi =>
  match i, hi with
    | 0, _ => rfl
    | 1, _ => rfl
    | 2, _ => rfl
    | 3, _ => rfl
    | 4, _ => rfl
    | 5, _ => rfl
    | 6, _ => rfl
    | 7, _ => rfl
    | 8, _ => rfl
    | 9, _ => rfl
    | 10, _ => rfl
    | 11, _ => rfl
    | 12, _ => rfl
    | 13, _ => rfl
    | 14, _ => rfl
    | 15, _ => rfl
    | 16, _ => rfl
    | 17, _ => rfl
    | 18, _ => rfl
    | 19, _ => rfl
    | n + 20, h => absurd h (by omega)
/-- the tape -/
def TpR (S : Shp) (h : Hp) (m : Nat) (tp : List Nat) : Prop := FI h 1729 m = ((tp.length : Nat) : Int) ∧ tp.length ≤ 4000 ∧ ArI S h m 1728 (fun i => ((tp.getD i 0 : Nat) : Int)) tp.length
theorem TpR.r {S : Shp} {h h' : Hp} {m : Nat} {tp : List Nat} {F : List Nat} (D : TpR S h m tp) (fr : Fr S m F h h') (hm : sK S m = 14) (h1 : 1728 ∉ F ∧ 1729 ∉ F ∧ ltF4 F := by decide) : TpR S h' m tp := ⟨(fr.i 1729 h1.2.1).trans D.1, D.2.1, D.2.2.r fr hm ⟨h1.1, h1.2.2, by decide⟩⟩
theorem feT_len {tp : List Nat} {a b c e f : Int} (h : tp.length + 20 ≤ 4000) : (feT tp a b c e f).length = tp.length + 20 := by
  unfold feT
  rw [if_pos h]
  simp [by4_len]
theorem TpR.fe {S : Shp} {h : Hp} {m : Nat} {tp : List Nat} {a b c e f : Int} (h4 : tp.length + 20 ≤ 4000) (C : FI h 1729 m = ((tp.length + 20 : Nat) : Int)) (A : ArI S h m 1728 (fun i => ((tp.getD i 0 : Nat) : Int)) tp.length) (B : ∀ j, j < 20 → AI h (sT S 1728 m) (tp.length + j) = ((byI (pk5 a b c e f j) (24 - 8 * (j % 4)) : Nat) : Int)) : TpR S h m (feT tp a b c e f) := by
  have el := feT_len (a := a) (b := b) (c := c) (e := e) (f := f) h4
  refine ⟨by rw [el]; exact C, by rw [el]; exact h4, fun i hi => ?_⟩
  rw [el] at hi
  show _ = (((feT tp a b c e f).getD i 0 : Nat) : Int)
  unfold feT
  rw [if_pos h4, List.getD_eq_getElem?_getD]
  by_cases q : i < tp.length
  · rw [List.getElem?_append_left q, ← List.getD_eq_getElem?_getD]; exact A i q
  · rw [List.getElem?_append_right (by omega), ← List.getD_eq_getElem?_getD, by20 a b c e f (i - tp.length) (by omega), ← B (i - tp.length) (by omega), show tp.length + (i - tp.length) = i by omega]
theorem d194_0 : dc 194 0 = some (.aload_n 0, 1) := by decide +kernel
theorem d194_1 : dc 194 1 = some (.getfield 1729, 4) := by decide +kernel
theorem d194_4 : dc 194 4 = some (.bipush 20, 6) := by decide +kernel
theorem d194_6 : dc 194 6 = some (.iadd, 7) := by decide +kernel
theorem d194_7 : dc 194 7 = some (.sipush 4000, 10) := by decide +kernel
theorem d194_10 : dc 194 10 = some (.if_icmp .le ((15 : Nat) : Int), 13) := by decide +kernel
theorem d194_13 : dc 194 13 = some (.iconst (-1), 14) := by decide +kernel
theorem d194_14 : dc 194 14 = some (.ireturn, 15) := by decide +kernel
theorem d194_15 : dc 194 15 = some (.iconst 0, 16) := by decide +kernel
theorem d194_16 : dc 194 16 = some (.istore 6, 18) := by decide +kernel
theorem d194_18 : dc 194 18 = some (.iload 6, 20) := by decide +kernel
theorem d194_20 : dc 194 20 = some (.bipush 20, 22) := by decide +kernel
theorem d194_22 : dc 194 22 = some (.if_icmp .ge ((108 : Nat) : Int), 25) := by decide +kernel
theorem d194_25 : dc 194 25 = some (.iload 6, 27) := by decide +kernel
theorem d194_27 : dc 194 27 = some (.iconst 4, 28) := by decide +kernel
theorem d194_28 : dc 194 28 = some (.if_icmp .ge ((35 : Nat) : Int), 31) := by decide +kernel
theorem d194_31 : dc 194 31 = some (.iload_n 1, 32) := by decide +kernel
theorem d194_32 : dc 194 32 = some (.goto ((71 : Nat) : Int), 35) := by decide +kernel
theorem d194_35 : dc 194 35 = some (.iload 6, 37) := by decide +kernel
theorem d194_37 : dc 194 37 = some (.bipush 8, 39) := by decide +kernel
theorem d194_39 : dc 194 39 = some (.if_icmp .ge ((46 : Nat) : Int), 42) := by decide +kernel
theorem d194_42 : dc 194 42 = some (.iload_n 2, 43) := by decide +kernel
theorem d194_43 : dc 194 43 = some (.goto ((71 : Nat) : Int), 46) := by decide +kernel
theorem d194_46 : dc 194 46 = some (.iload 6, 48) := by decide +kernel
theorem d194_48 : dc 194 48 = some (.bipush 12, 50) := by decide +kernel
theorem d194_50 : dc 194 50 = some (.if_icmp .ge ((57 : Nat) : Int), 53) := by decide +kernel
theorem d194_53 : dc 194 53 = some (.iload_n 3, 54) := by decide +kernel
theorem d194_54 : dc 194 54 = some (.goto ((71 : Nat) : Int), 57) := by decide +kernel
theorem d194_57 : dc 194 57 = some (.iload 6, 59) := by decide +kernel
theorem d194_59 : dc 194 59 = some (.bipush 16, 61) := by decide +kernel
theorem d194_61 : dc 194 61 = some (.if_icmp .ge ((69 : Nat) : Int), 64) := by decide +kernel
theorem d194_64 : dc 194 64 = some (.iload 4, 66) := by decide +kernel
theorem d194_66 : dc 194 66 = some (.goto ((71 : Nat) : Int), 69) := by decide +kernel
theorem d194_69 : dc 194 69 = some (.iload 5, 71) := by decide +kernel
theorem d194_71 : dc 194 71 = some (.istore 7, 73) := by decide +kernel
theorem d194_73 : dc 194 73 = some (.aload_n 0, 74) := by decide +kernel
theorem d194_74 : dc 194 74 = some (.dload 1728, 77) := by decide +kernel
theorem d194_77 : dc 194 77 = some (.aload_n 0, 78) := by decide +kernel
theorem d194_78 : dc 194 78 = some (.getfield 1729, 81) := by decide +kernel
theorem d194_81 : dc 194 81 = some (.iload 6, 83) := by decide +kernel
theorem d194_83 : dc 194 83 = some (.iadd, 84) := by decide +kernel
theorem d194_84 : dc 194 84 = some (.iload 7, 86) := by decide +kernel
theorem d194_86 : dc 194 86 = some (.bipush 24, 88) := by decide +kernel
theorem d194_88 : dc 194 88 = some (.bipush 8, 90) := by decide +kernel
theorem d194_90 : dc 194 90 = some (.iload 6, 92) := by decide +kernel
theorem d194_92 : dc 194 92 = some (.iconst 4, 93) := by decide +kernel
theorem d194_93 : dc 194 93 = some (.irem, 94) := by decide +kernel
theorem d194_94 : dc 194 94 = some (.imul, 95) := by decide +kernel
theorem d194_95 : dc 194 95 = some (.isub, 96) := by decide +kernel
theorem d194_96 : dc 194 96 = some (.ishr, 97) := by decide +kernel
theorem d194_97 : dc 194 97 = some (.sipush 255, 100) := by decide +kernel
theorem d194_100 : dc 194 100 = some (.iand, 101) := by decide +kernel
theorem d194_101 : dc 194 101 = some (.iastore, 102) := by decide +kernel
theorem d194_102 : dc 194 102 = some (.iinc 6 1, 105) := by decide +kernel
theorem d194_105 : dc 194 105 = some (.goto ((18 : Nat) : Int), 108) := by decide +kernel
theorem d194_108 : dc 194 108 = some (.aload_n 0, 109) := by decide +kernel
theorem d194_109 : dc 194 109 = some (.dup, 110) := by decide +kernel
theorem d194_110 : dc 194 110 = some (.getfield 1729, 113) := by decide +kernel
theorem d194_113 : dc 194 113 = some (.bipush 20, 115) := by decide +kernel
theorem d194_115 : dc 194 115 = some (.iadd, 116) := by decide +kernel
theorem d194_116 : dc 194 116 = some (.putfield 1729, 119) := by decide +kernel
theorem d194_119 : dc 194 119 = some (.aload_n 0, 120) := by decide +kernel
theorem d194_120 : dc 194 120 = some (.getfield 1729, 123) := by decide +kernel
theorem d194_123 : dc 194 123 = some (.ireturn, 124) := by decide +kernel
theorem k_M_feed {S : Shp} {G : Nat → Option Nat} {d : Nat} {h : Hp} {Q : Option MV → Hp → Prop} {m : Nat} {a : Int} {b : Int} {c : Int} {e : Int} {f : Int} {tp : List Nat} (ok : Ok S h) (h1 : 0 ≤ d) (hm : sK S m = 14) (TPC : FI h 1729 m = ((tp.length : Nat) : Int)) (TPA : ArI S h m 1728 (fun i => ((tp.getD i 0 : Nat) : Int)) tp.length) (htl : tp.length ≤ 4000)
    (kk : ∀ h', Fr S m [1728, 1729] h h' → TpR S h' m (feT tp a b c e f) → Q (some (vI (feR tp))) h') : Cl G d 194 [vR (some m), vI a, vI b, vI c, vI e, vI f] h Q := by
  show Wp G d 194 0 [some (vR (some m)), some (vI a), some (vI b), some (vI c), some (vI e), some (vI f), none, none] [] h Q
  have TPC_0 := TPC
  have TPA_0 := TPA
  refine w_aload_n d194_0 rfl ?_
  refine w_getI (x := ((tp.length : Nat) : Int)) d194_1 (ok.kd hm) TPC ?_
  refine w_bipush d194_4 (by decide) ?_
  refine w_iadd d194_6 (by constructor <;> omega) ?_
  refine w_sipush d194_7 (by decide) ?_
  refine w_icmple d194_10 (fun c10 => ?_) (fun c10 => ?_)
  · have h4 : tp.length + 20 ≤ 4000 := by omega
    have er : feR tp = ((tp.length + 20 : Nat) : Int) := if_pos h4
    rw [er] at kk
    refine w_iconst d194_15 (by decide) ?_
    refine w_istore6 d194_16 rfl ?_
    have L18 : ∀ (m18 : Nat) (g : Hp) (i : Nat), 20 - i = m18 → Fr S m [1728, 1729] h g → (i ≤ 20) → (∀ j, j < i → AI g (sT S 1728 m) (tp.length + j) = ((byI (pk5 a b c e f j) (24 - 8 * (j % 4)) : Nat) : Int)) → (FI g 1729 m = ((tp.length : Nat) : Int)) → (ArI S g m 1728 (fun i => ((tp.getD i 0 : Nat) : Int)) tp.length) → Wp G d 194 18 [some (vR (some m)), some (vI a), some (vI b), some (vI c), some (vI e), some (vI f), some (vI (i : Nat)), none] [] g Q := by
      intro m18
      induction m18 using Nat.strongRecOn with | ind m18 IH18 => ?_
      intro g i hm18 FRg il hc TPC TPA
      have okg := FRg.ok
      refine w_iload d194_18 rfl ?_
      refine w_bipush d194_20 (by decide) ?_
      refine w_icmpge d194_22 (fun c22 => ?_) (fun c22 => ?_)
      · have ei : i = 20 := by omega
        refine w_aload_n d194_108 rfl ?_
        refine w_dupR d194_109 ?_
        refine w_getI (x := ((tp.length : Nat) : Int)) d194_110 (okg.kd hm) TPC ?_
        refine w_bipush d194_113 (by decide) ?_
        refine w_iadd d194_115 (by constructor <;> omega) ?_
        rw [show ((tp.length : Nat) : Int) + 20 = ((tp.length + 20 : Nat) : Int) by omega]
        refine wf1729 d194_116 okg hm (by omega) (fun h116 e116 m116 => ?_)
        have f116 : Fr S m [1729] _ _ := Fr.wF okg m116 (FK.pI e116)
        have ok116 := f116.ok
        have FR116 := Fr.tr (F := [1728, 1729]) FRg f116 (by decide) trivial
        have TPA := ArI.s2 f116 hm TPA
        have C : FI h116 1729 m = ((tp.length + 20 : Nat) : Int) := by rw [e116, FI_sFI, if_pos ⟨rfl, rfl⟩]
        refine w_aload_n d194_119 rfl ?_
        refine w_getI (x := ((tp.length + 20 : Nat) : Int)) d194_120 (ok116.kd hm) C ?_
        refine w_ireturn d194_123 ?_
        exact kk _ FR116 (TpR.fe h4 C TPA (fun j hj => by rw [f116.ai (by have := kT1728 ok hm; omega) (by decide) (by decide) (by decide)]; exact hc j (by omega)))
      · have hi : i < 20 := by omega
        refine w_iload d194_25 rfl ?_
        refine w_iconst d194_27 (by decide) ?_
        have L71 : ∀ (m71 : Nat) (x : Int), 0 = m71 → (x = (pk5 a b c e f i)) → Wp G d 194 71 [some (vR (some m)), some (vI a), some (vI b), some (vI c), some (vI e), some (vI f), some (vI (i : Nat)), none] [vI x] g Q := by
          intro m71
          induction m71 using Nat.strongRecOn with | ind m71 IH71 => ?_
          intro x hm71 ex
          refine w_istore7 d194_71 rfl ?_
          refine w_aload_n d194_73 rfl ?_
          refine w_dloadS d194_74 (okg.kd hm) (fr1728 okg hm) ?_
          refine w_aload_n d194_77 rfl ?_
          refine w_getI (x := ((tp.length : Nat) : Int)) d194_78 (okg.kd hm) TPC ?_
          refine w_iload d194_81 rfl ?_
          refine w_iadd d194_83 (by constructor <;> omega) ?_
          rw [show ((tp.length : Nat) : Int) + ((i : Nat) : Int) = ((tp.length + i : Nat) : Int) by omega]
          refine w_iload d194_84 rfl ?_
          refine w_bipush d194_86 (by decide) ?_
          refine w_bipush d194_88 (by decide) ?_
          refine w_iload d194_90 rfl ?_
          refine w_iconst d194_92 (by decide) ?_
          refine w_irem d194_93 (by decide) ?_
          rw [show Int.tmod ((i : Nat) : Int) 4 = ((i % 4 : Nat) : Int) from rfl]
          refine w_imul d194_94 (by constructor <;> omega) ?_
          refine w_isub d194_95 (by constructor <;> omega) ?_
          rw [show (24 : Int) - 8 * ((i % 4 : Nat) : Int) = ((24 - 8 * (i % 4) : Nat) : Int) by omega]
          refine w_ishr d194_96 ?_
          refine w_sipush d194_97 (by decide) ?_
          refine w_iand d194_100 ?_
          rw [byI_sh (x := x) (s := 24 - 8 * (i % 4)) (by omega)]
          have b8 : byI x (24 - 8 * (i % 4)) < 256 := Nat.mod_lt _ (by decide)
          refine wa1728 d194_101 okg hm (by omega) (by omega) (fun h101 e101 m101 => ?_)
          have e101 : h101 = sAI g (sT S 1728 m) ((tp.length + i)) ((byI x (24 - 8 * (i % 4)) : Nat) : Int) := e101
          have f101 : Fr S m [1728] _ _ := Fr.wB okg hm m101 (fun ζ e => ⟨1728, by decide, by decide, e ▸ U_refl⟩)
          have ok101 := f101.ok
          have FR101 := Fr.tr (F := [1728, 1729]) FRg f101 (by decide) trivial
          have TPC := (f101.i 1729).trans TPC
          have TPA : ArI S h101 m 1728 (fun i => ((tp.getD i 0 : Nat) : Int)) tp.length := fun j hj => by rw [e101, sArr, if_neg (by omega)]; exact TPA j hj
          refine w_iinc6 d194_102 rfl (by constructor <;> omega) ?_
          refine w_goto d194_105 ?_
          rw [show ((i : Nat) : Int) + 1 = ((i + 1 : Nat) : Int) by omega]
          refine w_less ?_ (IH18 _ (by omega) h101 (i + 1) rfl FR101 (by omega) (fun j hj => by rw [e101, sArr]; by_cases q : j = i; rw [if_pos (by omega), q, ex]; rw [if_neg (by omega)]; exact hc j (by omega)) TPC TPA)
          exact ⟨Or.inr rfl, Or.inr rfl, Or.inr rfl, Or.inr rfl, Or.inr rfl, Or.inr rfl, Or.inr rfl, Or.inl rfl, trivial⟩
        refine w_icmpge d194_28 (fun c28 => ?_) (fun c28 => ?_)
        · refine w_iload d194_35 rfl ?_
          refine w_bipush d194_37 (by decide) ?_
          refine w_icmpge d194_39 (fun c39 => ?_) (fun c39 => ?_)
          · refine w_iload d194_46 rfl ?_
            refine w_bipush d194_48 (by decide) ?_
            refine w_icmpge d194_50 (fun c50 => ?_) (fun c50 => ?_)
            · refine w_iload d194_57 rfl ?_
              refine w_bipush d194_59 (by decide) ?_
              refine w_icmpge d194_61 (fun c61 => ?_) (fun c61 => ?_)
              · have ex : f = (pk5 a b c e f i) := by unfold pk5; rw [if_neg (by omega), if_neg (by omega), if_neg (by omega), if_neg (by omega)]
                refine w_iload d194_69 rfl ?_
                refine w_less ?_ (L71 _ f rfl ex)
                exact ⟨Or.inr rfl, Or.inr rfl, Or.inr rfl, Or.inr rfl, Or.inr rfl, Or.inr rfl, Or.inr rfl, Or.inl rfl, trivial⟩
              · have ex : e = (pk5 a b c e f i) := by unfold pk5; rw [if_neg (by omega), if_neg (by omega), if_neg (by omega), if_pos (by omega)]
                refine w_iload d194_64 rfl ?_
                refine w_goto d194_66 ?_
                refine w_less ?_ (L71 _ e rfl ex)
                exact ⟨Or.inr rfl, Or.inr rfl, Or.inr rfl, Or.inr rfl, Or.inr rfl, Or.inr rfl, Or.inr rfl, Or.inl rfl, trivial⟩
            · have ex : c = (pk5 a b c e f i) := by unfold pk5; rw [if_neg (by omega), if_neg (by omega), if_pos (by omega)]
              refine w_iload_n d194_53 rfl ?_
              refine w_goto d194_54 ?_
              refine w_less ?_ (L71 _ c rfl ex)
              exact ⟨Or.inr rfl, Or.inr rfl, Or.inr rfl, Or.inr rfl, Or.inr rfl, Or.inr rfl, Or.inr rfl, Or.inl rfl, trivial⟩
          · have ex : b = (pk5 a b c e f i) := by unfold pk5; rw [if_neg (by omega), if_pos (by omega)]
            refine w_iload_n d194_42 rfl ?_
            refine w_goto d194_43 ?_
            refine w_less ?_ (L71 _ b rfl ex)
            exact ⟨Or.inr rfl, Or.inr rfl, Or.inr rfl, Or.inr rfl, Or.inr rfl, Or.inr rfl, Or.inr rfl, Or.inl rfl, trivial⟩
        · have ex : a = (pk5 a b c e f i) := by unfold pk5; rw [if_pos (by omega)]
          refine w_iload_n d194_31 rfl ?_
          refine w_goto d194_32 ?_
          refine w_less ?_ (L71 _ a rfl ex)
          exact ⟨Or.inr rfl, Or.inr rfl, Or.inr rfl, Or.inr rfl, Or.inr rfl, Or.inr rfl, Or.inr rfl, Or.inl rfl, trivial⟩
    refine w_less ?_ (L18 _ h 0 rfl (Fr.refl ok) (Nat.zero_le _) (fun j hj => absurd hj (Nat.not_lt_zero _)) TPC TPA)
    exact ⟨Or.inr rfl, Or.inr rfl, Or.inr rfl, Or.inr rfl, Or.inr rfl, Or.inr rfl, Or.inr rfl, Or.inl rfl, trivial⟩
  · have er : feR tp = -1 := if_neg (by omega)
    have et : feT tp a b c e f = tp := if_neg (by omega)
    rw [er, et] at kk
    refine w_iconst d194_13 (by decide) ?_
    refine w_ireturn d194_14 ?_
    exact kk _ (Fr.refl ok) ⟨TPC, htl, TPA⟩
