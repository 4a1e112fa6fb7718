/-! the workshop: names and values of sources and faces -/
abbrev SrV : Type := Int64 × Nat × Bool
abbrev FaV : Type := Int64 × Nat
def sN (l : List SrV) (i : Nat) : Int64 := (l.getD i (0, 0, false)).1
def sV (l : List SrV) (i : Nat) : Nat := (l.getD i (0, 0, false)).2.1
def sO (l : List SrV) (i : Nat) : Bool := (l.getD i (0, 0, false)).2.2
def fN (l : List FaV) (i : Nat) : Int64 := (l.getD i (0, 0)).1
def fV (l : List FaV) (i : Nat) : Nat := (l.getD i (0, 0)).2
def SrC (S : Shp) (h : Hp) (w : Nat) (ss : List SrV) : Prop := FI h 1162 w = ss.length ∧ ss.length ≤ 246 ∧ ∀ i, i < ss.length → AL h (sT S 1159 w) i = sN ss i ∧ AI h (sT S 1160 w) i = (sV ss i : Nat) ∧ AI h (sT S 1161 w) i = b2i (sO ss i) ∧ sV ss i ≤ 9999
def FaC (S : Shp) (h : Hp) (w : Nat) (fs : List FaV) : Prop := FI h 1165 w = fs.length ∧ fs.length ≤ 906 ∧ ∀ i, i < fs.length → AL h (sT S 1163 w) i = fN fs i ∧ AI h (sT S 1164 w) i = (fV fs i : Nat) ∧ fV fs i ≤ 9999
theorem SrC.f {S : Shp} {h h' : Hp} {A : Nat → Prop} {w : Nat} {ss : List SrV} (ok : Ok S h) (m : Mo S A h h') (hw : sK S w = 10) (h0 : ¬ A w ∨ FI h' 1162 w = FI h 1162 w) (h1 : ¬ A (sT S 1159 w)) (h2 : ¬ A (sT S 1160 w)) (h3 : ¬ A (sT S 1161 w)) (D : SrC S h w ss) : SrC S h' w ss := by
  obtain ⟨d1, d2, d3⟩ := D
  have k1 := kT1159 ok hw
  have k2 := kT1160 ok hw
  have k3 := kT1161 ok hw
  refine ⟨?_, d2, fun i hi => ?_⟩
  · rcases h0 with q | q
    · exact (m.fi ok (by omega) q 1162).trans d1
    · exact q.trans d1
  · rw [m.al ok (by omega) h1, m.ai ok (by omega) h2, m.ai ok (by omega) h3]
    exact d3 i hi
theorem FaC.f {S : Shp} {h h' : Hp} {A : Nat → Prop} {w : Nat} {fs : List FaV} (ok : Ok S h) (m : Mo S A h h') (hw : sK S w = 10) (h0 : ¬ A w ∨ FI h' 1165 w = FI h 1165 w) (h1 : ¬ A (sT S 1163 w)) (h2 : ¬ A (sT S 1164 w)) (D : FaC S h w fs) : FaC S h' w fs := by
  obtain ⟨d1, d2, d3⟩ := D
  have k1 := kT1163 ok hw
  have k2 := kT1164 ok hw
  refine ⟨?_, d2, fun i hi => ?_⟩
  · rcases h0 with q | q
    · exact (m.fi ok (by omega) q 1165).trans d1
    · exact q.trans d1
  · rw [m.al ok (by omega) h1, m.ai ok (by omega) h2]
    exact d3 i hi
/-- the latest of the first n with a property; -1 without one -/
def ltF (p : Nat → Bool) : Nat → Int
  | 0 => -1
  | n + 1 => if p n = true then (n : Int) else ltF p n
/-- where a source's name is; -1 -/
def sAt (ss : List SrV) (x : Int64) : Int := srF (fun i => sN ss i == x) ss.length 0
/-- a name's value; -1 -/
def vOf (ss : List SrV) (fs : List FaV) (x : Int64) : Int := if 0 ≤ sAt ss x then (sV ss (sAt ss x).toNat : Nat) else if 0 ≤ ltF (fun i => fN fs i == x) fs.length then (fV fs (ltF (fun i => fN fs i == x) fs.length).toNat : Nat) else -1
/-- the lines of the sources, all or those with pub -/
def wsT (ss : List SrV) (o : Bool) : Nat → List Nat
  | 0 => []
  | i + 1 => wsT ss o i ++ (if o = true ∧ sO ss i = false then [] else nmB (sN ss i) 8 ++ ([61] ++ (dec (sV ss i) ++ [10])))
theorem d129_0 : dc 129 0 = some (.iconst 0, 1) := by decide +kernel
theorem d129_1 : dc 129 1 = some (.istore_n 3, 2) := by decide +kernel
theorem d129_2 : dc 129 2 = some (.iload_n 3, 3) := by decide +kernel
theorem d129_3 : dc 129 3 = some (.aload_n 0, 4) := by decide +kernel
theorem d129_4 : dc 129 4 = some (.getfield 1162, 7) := by decide +kernel
theorem d129_7 : dc 129 7 = some (.if_icmp .ge ((29 : Nat) : Int), 10) := by decide +kernel
theorem d129_10 : dc 129 10 = some (.aload_n 0, 11) := by decide +kernel
theorem d129_11 : dc 129 11 = some (.dload 1159, 14) := by decide +kernel
theorem d129_14 : dc 129 14 = some (.iload_n 3, 15) := by decide +kernel
theorem d129_15 : dc 129 15 = some (.laload, 16) := by decide +kernel
theorem d129_16 : dc 129 16 = some (.lload_n 1, 17) := by decide +kernel
theorem d129_17 : dc 129 17 = some (.lcmp, 18) := by decide +kernel
theorem d129_18 : dc 129 18 = some (.ifCond .ne ((23 : Nat) : Int), 21) := by decide +kernel
theorem d129_21 : dc 129 21 = some (.iload_n 3, 22) := by decide +kernel
theorem d129_22 : dc 129 22 = some (.ireturn, 23) := by decide +kernel
theorem d129_23 : dc 129 23 = some (.iinc 3 1, 26) := by decide +kernel
theorem d129_26 : dc 129 26 = some (.goto ((2 : Nat) : Int), 29) := by decide +kernel
theorem d129_29 : dc 129 29 = some (.iconst (-1), 30) := by decide +kernel
theorem d129_30 : dc 129 30 = some (.ireturn, 31) := by decide +kernel
theorem k_Wk_sourceAt {S : Shp} {G : Nat → Option Nat} {d : Nat} {h : Hp} {Q : Option MV → Hp → Prop} {w : Nat} {x : Int64}  (ok : Ok S h) (h1 : 0 ≤ d) (hw : sK S w = 10) {ss : List SrV} (sc : SrC S h w ss)
    (kk : Q (some (vI (sAt ss x))) h) : Cl G d 129 [vR (some w), vJ x] h Q := by
  show Wp G d 129 0 [some (vR (some w)), some (vJ x), none, none] [] h Q
  obtain ⟨q1, q2, q3⟩ := sc
  refine w_iconst d129_0 (by decide) ?_
  refine w_istore3 d129_1 rfl ?_
  have L2 : ∀ (m2 : Nat) (i : Nat), ss.length - i = m2 → (i ≤ ss.length) → (srF (fun i => sN ss i == x) ss.length 0 = srF (fun i => sN ss i == x) ss.length i) → Wp G d 129 2 [some (vR (some w)), some (vJ x), none, some (vI (i : Nat))] [] h Q := by
    intro m2
    induction m2 using Nat.strongRecOn with | ind m2 IH2 => ?_
    intro i hm2 i1 i2
    refine w_iload_n d129_2 rfl ?_
    refine w_aload_n d129_3 rfl ?_
    refine w_getI (x := ((ss.length : Nat) : Int)) d129_4 (ok.kd hw) q1 ?_
    refine w_icmpge d129_7 (fun c7 => ?_) (fun c7 => ?_)
    · refine w_iconst d129_29 (by decide) ?_
      refine w_ireturn d129_30 ?_
      unfold sAt at kk
      rw [i2, srF_end (by omega)] at kk
      exact kk
    · have hi : i < ss.length := by omega
      obtain ⟨a1, a2, a3, a4⟩ := q3 i hi
      refine w_aload_n d129_10 rfl ?_
      refine w_dloadS d129_11 (ok.kd hw) (fr1159 ok hw) ?_
      refine w_iload_n d129_14 rfl ?_
      refine w_laloadV (x := (sN ss i)) d129_15 (gi1159 ok hw (by omega)) a1 ?_
      refine w_lload_n d129_16 rfl ?_
      refine w_lcmp d129_17 ?_
      refine w_ifne d129_18 (fun c18 => ?_) (fun c18 => ?_)
      · have z : (sN ss i == x) = false := by simp; intro q; exact absurd (lcmp0.mpr q) c18
        refine w_iinc3 d129_23 rfl (by constructor <;> omega) ?_
        refine w_goto d129_26 ?_
        refine w_less ?_ (IH2 _ (by omega) (i + 1) rfl (by omega) (by rw [i2, srF_no hi z]))
        exact ⟨Or.inr rfl, Or.inr rfl, Or.inl rfl, Or.inr rfl, trivial⟩
      · have z : (sN ss i == x) = true := by simp [lcmp0.mp c18]
        refine w_iload_n d129_21 rfl ?_
        refine w_ireturn d129_22 ?_
        unfold sAt at kk
        rw [i2, srF_yes hi z] at kk
        exact kk
  refine w_less ?_ (L2 _ 0 rfl (by omega) rfl)
  exact ⟨Or.inr rfl, Or.inr rfl, Or.inl rfl, Or.inr rfl, trivial⟩
theorem d130_0 : dc 130 0 = some (.iconst 0, 1) := by decide +kernel
theorem d130_1 : dc 130 1 = some (.istore_n 3, 2) := by decide +kernel
theorem d130_2 : dc 130 2 = some (.iload_n 3, 3) := by decide +kernel
theorem d130_3 : dc 130 3 = some (.aload_n 0, 4) := by decide +kernel
theorem d130_4 : dc 130 4 = some (.getfield 1162, 7) := by decide +kernel
theorem d130_7 : dc 130 7 = some (.if_icmp .ge ((34 : Nat) : Int), 10) := by decide +kernel
theorem d130_10 : dc 130 10 = some (.aload_n 0, 11) := by decide +kernel
theorem d130_11 : dc 130 11 = some (.dload 1159, 14) := by decide +kernel
theorem d130_14 : dc 130 14 = some (.iload_n 3, 15) := by decide +kernel
theorem d130_15 : dc 130 15 = some (.laload, 16) := by decide +kernel
theorem d130_16 : dc 130 16 = some (.lload_n 1, 17) := by decide +kernel
theorem d130_17 : dc 130 17 = some (.lcmp, 18) := by decide +kernel
theorem d130_18 : dc 130 18 = some (.ifCond .ne ((28 : Nat) : Int), 21) := by decide +kernel
theorem d130_21 : dc 130 21 = some (.aload_n 0, 22) := by decide +kernel
theorem d130_22 : dc 130 22 = some (.dload 1160, 25) := by decide +kernel
theorem d130_25 : dc 130 25 = some (.iload_n 3, 26) := by decide +kernel
theorem d130_26 : dc 130 26 = some (.iaload, 27) := by decide +kernel
theorem d130_27 : dc 130 27 = some (.ireturn, 28) := by decide +kernel
theorem d130_28 : dc 130 28 = some (.iinc 3 1, 31) := by decide +kernel
theorem d130_31 : dc 130 31 = some (.goto ((2 : Nat) : Int), 34) := by decide +kernel
theorem d130_34 : dc 130 34 = some (.aload_n 0, 35) := by decide +kernel
theorem d130_35 : dc 130 35 = some (.getfield 1165, 38) := by decide +kernel
theorem d130_38 : dc 130 38 = some (.iconst 1, 39) := by decide +kernel
theorem d130_39 : dc 130 39 = some (.isub, 40) := by decide +kernel
theorem d130_40 : dc 130 40 = some (.istore_n 3, 41) := by decide +kernel
theorem d130_41 : dc 130 41 = some (.iload_n 3, 42) := by decide +kernel
theorem d130_42 : dc 130 42 = some (.ifCond .lt ((69 : Nat) : Int), 45) := by decide +kernel
theorem d130_45 : dc 130 45 = some (.aload_n 0, 46) := by decide +kernel
theorem d130_46 : dc 130 46 = some (.dload 1163, 49) := by decide +kernel
theorem d130_49 : dc 130 49 = some (.iload_n 3, 50) := by decide +kernel
theorem d130_50 : dc 130 50 = some (.laload, 51) := by decide +kernel
theorem d130_51 : dc 130 51 = some (.lload_n 1, 52) := by decide +kernel
theorem d130_52 : dc 130 52 = some (.lcmp, 53) := by decide +kernel
theorem d130_53 : dc 130 53 = some (.ifCond .ne ((63 : Nat) : Int), 56) := by decide +kernel
theorem d130_56 : dc 130 56 = some (.aload_n 0, 57) := by decide +kernel
theorem d130_57 : dc 130 57 = some (.dload 1164, 60) := by decide +kernel
theorem d130_60 : dc 130 60 = some (.iload_n 3, 61) := by decide +kernel
theorem d130_61 : dc 130 61 = some (.iaload, 62) := by decide +kernel
theorem d130_62 : dc 130 62 = some (.ireturn, 63) := by decide +kernel
theorem d130_63 : dc 130 63 = some (.iinc 3 (-1), 66) := by decide +kernel
theorem d130_66 : dc 130 66 = some (.goto ((41 : Nat) : Int), 69) := by decide +kernel
theorem d130_69 : dc 130 69 = some (.iconst (-1), 70) := by decide +kernel
theorem d130_70 : dc 130 70 = some (.ireturn, 71) := by decide +kernel
theorem k_Wk_valueOf {S : Shp} {G : Nat → Option Nat} {d : Nat} {h : Hp} {Q : Option MV → Hp → Prop} {w : Nat} {x : Int64}  (ok : Ok S h) (h1 : 0 ≤ d) (hw : sK S w = 10) {ss : List SrV} (sc : SrC S h w ss) {fs : List FaV} (fc : FaC S h w fs)
    (kk : Q (some (vI (vOf ss fs x))) h) : Cl G d 130 [vR (some w), vJ x] h Q := by
  show Wp G d 130 0 [some (vR (some w)), some (vJ x), none, none] [] h Q
  obtain ⟨q1, q2, q3⟩ := sc
  obtain ⟨r1, r2, r3⟩ := fc
  refine w_iconst d130_0 (by decide) ?_
  refine w_istore3 d130_1 rfl ?_
  have L2 : ∀ (m2 : Nat) (i : Nat), ss.length - i = m2 → (i ≤ ss.length) → (srF (fun i => sN ss i == x) ss.length 0 = srF (fun i => sN ss i == x) ss.length i) → Wp G d 130 2 [some (vR (some w)), some (vJ x), none, some (vI (i : Nat))] [] h Q := by
    intro m2
    induction m2 using Nat.strongRecOn with | ind m2 IH2 => ?_
    intro i hm2 i1 i2
    refine w_iload_n d130_2 rfl ?_
    refine w_aload_n d130_3 rfl ?_
    refine w_getI (x := ((ss.length : Nat) : Int)) d130_4 (ok.kd hw) q1 ?_
    refine w_icmpge d130_7 (fun c7 => ?_) (fun c7 => ?_)
    · have s0 : ¬ 0 ≤ sAt ss x := by unfold sAt; rw [i2, srF_end (by omega)]; decide
      refine w_aload_n d130_34 rfl ?_
      refine w_getI (x := ((fs.length : Nat) : Int)) d130_35 (ok.kd hw) r1 ?_
      refine w_iconst d130_38 (by decide) ?_
      refine w_isub d130_39 (by constructor <;> omega) ?_
      refine w_istore3 d130_40 rfl ?_
      have L41 : ∀ (m41 : Nat) (n : Nat), n = m41 → (n ≤ fs.length) → (ltF (fun i => fN fs i == x) fs.length = ltF (fun i => fN fs i == x) n) → Wp G d 130 41 [some (vR (some w)), some (vJ x), none, some (vI (((n : Nat) : Int) - 1))] [] h Q := by
        intro m41
        induction m41 using Nat.strongRecOn with | ind m41 IH41 => ?_
        intro n hm41 l1 l2
        refine w_iload_n d130_41 rfl ?_
        refine w_iflt d130_42 (fun c42 => ?_) (fun c42 => ?_)
        · refine w_iconst d130_69 (by decide) ?_
          refine w_ireturn d130_70 ?_
          refine qI ?_ kk
          unfold vOf
          rw [if_neg s0, l2, show n = 0 by omega]
          rfl
        · obtain ⟨m, rfl⟩ : ∃ m, n = m + 1 := ⟨n - 1, by omega⟩
          rw [show (((m + 1 : Nat) : Int) - 1) = ((m : Nat) : Int) by omega]
          obtain ⟨b1, b2, b3⟩ := r3 m (by omega)
          refine w_aload_n d130_45 rfl ?_
          refine w_dloadS d130_46 (ok.kd hw) (fr1163 ok hw) ?_
          refine w_iload_n d130_49 rfl ?_
          refine w_laloadV (x := (fN fs m)) d130_50 (gi1163 ok hw (by omega)) b1 ?_
          refine w_lload_n d130_51 rfl ?_
          refine w_lcmp d130_52 ?_
          refine w_ifne d130_53 (fun c53 => ?_) (fun c53 => ?_)
          · have z : (fN fs m == x) = false := by simp; intro q; exact absurd (lcmp0.mpr q) c53
            refine w_iinc3 d130_63 rfl (by constructor <;> omega) ?_
            refine w_goto d130_66 ?_
            refine w_less ?_ (IH41 _ (by omega) m rfl (by omega) (by rw [l2, ltF, if_neg (by rw [z]; decide)]))
            rw [show (((m : Nat) : Int) + (-1)) = ((m : Nat) : Int) - 1 by omega]
            exact ⟨Or.inr rfl, Or.inr rfl, Or.inl rfl, Or.inr rfl, trivial⟩
          · have z : (fN fs m == x) = true := by simp [lcmp0.mp c53]
            refine w_aload_n d130_56 rfl ?_
            refine w_dloadS d130_57 (ok.kd hw) (fr1164 ok hw) ?_
            refine w_iload_n d130_60 rfl ?_
            refine w_ialoadV (x := ((fV fs m : Nat) : Int)) d130_61 (gi1164 ok hw (by omega)) b2 ?_
            refine w_ireturn d130_62 ?_
            refine qI ?_ kk
            unfold vOf
            rw [if_neg s0, l2, ltF, if_pos z, if_pos (by omega)]
            rfl
      refine w_less ?_ (L41 _ fs.length rfl (Nat.le_refl _) rfl)
      exact ⟨Or.inr rfl, Or.inr rfl, Or.inl rfl, Or.inr rfl, trivial⟩
    · have hi : i < ss.length := by omega
      obtain ⟨a1, a2, a3, a4⟩ := q3 i hi
      refine w_aload_n d130_10 rfl ?_
      refine w_dloadS d130_11 (ok.kd hw) (fr1159 ok hw) ?_
      refine w_iload_n d130_14 rfl ?_
      refine w_laloadV (x := (sN ss i)) d130_15 (gi1159 ok hw (by omega)) a1 ?_
      refine w_lload_n d130_16 rfl ?_
      refine w_lcmp d130_17 ?_
      refine w_ifne d130_18 (fun c18 => ?_) (fun c18 => ?_)
      · have z : (sN ss i == x) = false := by simp; intro q; exact absurd (lcmp0.mpr q) c18
        refine w_iinc3 d130_28 rfl (by constructor <;> omega) ?_
        refine w_goto d130_31 ?_
        refine w_less ?_ (IH2 _ (by omega) (i + 1) rfl (by omega) (by rw [i2, srF_no hi z]))
        exact ⟨Or.inr rfl, Or.inr rfl, Or.inl rfl, Or.inr rfl, trivial⟩
      · have z : (sN ss i == x) = true := by simp [lcmp0.mp c18]
        refine w_aload_n d130_21 rfl ?_
        refine w_dloadS d130_22 (ok.kd hw) (fr1160 ok hw) ?_
        refine w_iload_n d130_25 rfl ?_
        refine w_ialoadV (x := ((sV ss i : Nat) : Int)) d130_26 (gi1160 ok hw (by omega)) a2 ?_
        refine w_ireturn d130_27 ?_
        refine qI ?_ kk
        unfold vOf
        have e : sAt ss x = i := by unfold sAt; rw [i2, srF_yes hi z]
        rw [e, if_pos (by omega)]
        rfl
  refine w_less ?_ (L2 _ 0 rfl (by omega) rfl)
  exact ⟨Or.inr rfl, Or.inr rfl, Or.inl rfl, Or.inr rfl, trivial⟩
theorem d131_0 : dc 131 0 = some (.aload_n 0, 1) := by decide +kernel
theorem d131_1 : dc 131 1 = some (.dload 1155, 4) := by decide +kernel
theorem d131_4 : dc 131 4 = some (.invokevirtual 18, 7) := by decide +kernel
theorem d131_7 : dc 131 7 = some (.iconst 0, 8) := by decide +kernel
theorem d131_8 : dc 131 8 = some (.istore_n 2, 9) := by decide +kernel
theorem d131_9 : dc 131 9 = some (.iload_n 2, 10) := by decide +kernel
theorem d131_10 : dc 131 10 = some (.aload_n 0, 11) := by decide +kernel
theorem d131_11 : dc 131 11 = some (.getfield 1162, 14) := by decide +kernel
theorem d131_14 : dc 131 14 = some (.if_icmp .ge ((80 : Nat) : Int), 17) := by decide +kernel
theorem d131_17 : dc 131 17 = some (.iload_n 1, 18) := by decide +kernel
theorem d131_18 : dc 131 18 = some (.ifCond .eq ((30 : Nat) : Int), 21) := by decide +kernel
theorem d131_21 : dc 131 21 = some (.aload_n 0, 22) := by decide +kernel
theorem d131_22 : dc 131 22 = some (.dload 1161, 25) := by decide +kernel
theorem d131_25 : dc 131 25 = some (.iload_n 2, 26) := by decide +kernel
theorem d131_26 : dc 131 26 = some (.baload, 27) := by decide +kernel
theorem d131_27 : dc 131 27 = some (.ifCond .eq ((74 : Nat) : Int), 30) := by decide +kernel
theorem d131_30 : dc 131 30 = some (.aload_n 0, 31) := by decide +kernel
theorem d131_31 : dc 131 31 = some (.dload 1155, 34) := by decide +kernel
theorem d131_34 : dc 131 34 = some (.aload_n 0, 35) := by decide +kernel
theorem d131_35 : dc 131 35 = some (.dload 1159, 38) := by decide +kernel
theorem d131_38 : dc 131 38 = some (.iload_n 2, 39) := by decide +kernel
theorem d131_39 : dc 131 39 = some (.laload, 40) := by decide +kernel
theorem d131_40 : dc 131 40 = some (.invokevirtual 104, 43) := by decide +kernel
theorem d131_43 : dc 131 43 = some (.aload_n 0, 44) := by decide +kernel
theorem d131_44 : dc 131 44 = some (.dload 1155, 47) := by decide +kernel
theorem d131_47 : dc 131 47 = some (.bipush 61, 49) := by decide +kernel
theorem d131_49 : dc 131 49 = some (.invokevirtual 15, 52) := by decide +kernel
theorem d131_52 : dc 131 52 = some (.aload_n 0, 53) := by decide +kernel
theorem d131_53 : dc 131 53 = some (.dload 1155, 56) := by decide +kernel
theorem d131_56 : dc 131 56 = some (.aload_n 0, 57) := by decide +kernel
theorem d131_57 : dc 131 57 = some (.dload 1160, 60) := by decide +kernel
theorem d131_60 : dc 131 60 = some (.iload_n 2, 61) := by decide +kernel
theorem d131_61 : dc 131 61 = some (.iaload, 62) := by decide +kernel
theorem d131_62 : dc 131 62 = some (.invokevirtual 124, 65) := by decide +kernel
theorem d131_65 : dc 131 65 = some (.aload_n 0, 66) := by decide +kernel
theorem d131_66 : dc 131 66 = some (.dload 1155, 69) := by decide +kernel
theorem d131_69 : dc 131 69 = some (.bipush 10, 71) := by decide +kernel
theorem d131_71 : dc 131 71 = some (.invokevirtual 15, 74) := by decide +kernel
theorem d131_74 : dc 131 74 = some (.iinc 2 1, 77) := by decide +kernel
theorem d131_77 : dc 131 77 = some (.goto ((9 : Nat) : Int), 80) := by decide +kernel
theorem d131_80 : dc 131 80 = some (.return_, 81) := by decide +kernel
theorem k_Wk_writeSources {S : Shp} {G : Nat → Option Nat} {d : Nat} {h : Hp} {Q : Option MV → Hp → Prop} {w : Nat} {z : Int}  (ok : Ok S h) (h1 : 2 ≤ d) (hw : sK S w = 10) {ss : List SrV} (sc : SrC S h w ss) {o : Bool} (hz : z = b2i o)
    (kk : ∀ h', Mo S (fun y => y = sT S 1155 w) h h' → rl h' (sT S 1155 w) = addBs (cap h (sT S 1155 w)) [] (wsT ss o ss.length) → cap h' (sT S 1155 w) = cap h (sT S 1155 w) → Q none h') : Cl G d 131 [vR (some w), vI z] h Q := by
  show Wp G d 131 0 [some (vR (some w)), some (vI z), none] [] h Q
  have K55 := kT1155 ok hw
  obtain ⟨q1, q2, q3⟩ := sc
  have K59 := kT1159 ok hw
  have K60 := kT1160 ok hw
  have K61 := kT1161 ok hw
  have nd : ∀ y, sK S y ≠ 6 → ¬ y = sT S 1155 w := fun y hy z => hy (z ▸ K55)
  refine w_aload_n d131_0 rfl ?_
  refine w_dloadS d131_1 (ok.kd hw) (fr1155 ok hw) ?_
  refine w_callv1 d131_4 (by omega) rfl (ok.kd (kT1155 ok hw)) (by simp) (Nat.le_of_ble_eq_true rfl) ?_
  refine r_Row_clear ok (kT1155 ok hw) (fun h4 m4 e4_1 e4_2 => ?_)
  have ok4 := m4.ok
  have M4 := Mo.tr ok (Mo.refl (A := (fun x => x = (sT S 1155 w))) ok) m4 (fun x e => e)
  refine w_iconst d131_7 (by decide) ?_
  refine w_istore2 d131_8 rfl ?_
  have L9 : ∀ (m9 : Nat) (g : Hp) (i : Nat), ss.length - i = m9 → Mo S (fun x => x = (sT S 1155 w)) h g → (i ≤ ss.length) → (rl g (sT S 1155 w) = addBs (cap h (sT S 1155 w)) [] (wsT ss o i)) → (cap g (sT S 1155 w) = cap h (sT S 1155 w)) → Wp G d 131 9 [some (vR (some w)), some (vI z), some (vI (i : Nat))] [] g Q := by
    intro m9
    induction m9 using Nat.strongRecOn with | ind m9 IH9 => ?_
    intro g i hm9 Mg i1 i2 i3
    have okg := Mg.ok
    refine w_iload_n d131_9 rfl ?_
    refine w_aload_n d131_10 rfl ?_
    refine w_getI (x := ((ss.length : Nat) : Int)) d131_11 (okg.kd hw) ((Mg.fi ok (by omega) (nd w (by omega)) 1162).trans q1) ?_
    refine w_icmpge d131_14 (fun c14 => ?_) (fun c14 => ?_)
    · refine w_return d131_80 ?_
      exact kk g Mg (by rw [i2, show i = ss.length by omega]) i3
    · obtain ⟨a1, a2, a3, a4⟩ := q3 i (by omega)
      refine w_iload_n d131_17 rfl ?_
      refine w_ifeq d131_18 (fun c18 => ?_) (fun c18 => ?_)
      · have ob : o = false := by cases o with
          | false => rfl
          | true => rw [hz] at c18; exact absurd c18 (by decide)
        have sk : ¬ (o = true ∧ sO ss i = false) := fun q => by rw [ob] at q; exact absurd q.1 (by decide)
        refine w_aload_n d131_30 rfl ?_
        refine w_dloadS d131_31 (okg.kd hw) (fr1155 okg hw) ?_
        refine w_aload_n d131_34 rfl ?_
        refine w_dloadS d131_35 (okg.kd hw) (fr1159 okg hw) ?_
        refine w_iload_n d131_38 rfl ?_
        refine w_laloadV (x := (sN ss i)) d131_39 (gi1159 okg hw (by omega)) ((congrFun (Mg.al ok (by omega) (nd _ (by omega))) i).trans a1) ?_
        refine w_callv2 d131_40 (by omega) rfl (okg.kd (kT1155 okg hw)) (by simp) (Nat.le_of_ble_eq_true rfl) ?_
        refine r_Row_addName (by omega) okg (kT1155 okg hw) (fun h40 m40 e40_1 e40_2 => ?_)
        have ok40 := m40.ok
        have M40 := Mo.tr ok Mg m40 (fun x e => e)
        refine w_aload_n d131_43 rfl ?_
        refine w_dloadS d131_44 (ok40.kd hw) (fr1155 ok40 hw) ?_
        refine w_bipush d131_47 (by decide) ?_
        refine w_callv2 d131_49 (by omega) rfl (ok40.kd (kT1155 ok40 hw)) (by simp) (Nat.le_of_ble_eq_true rfl) ?_
        refine r_Row_add ok40 (kT1155 ok40 hw) (fun h49 m49 e49_1 e49_2 => ?_)
        have ok49 := m49.ok
        have M49 := Mo.tr ok M40 m49 (fun x e => e)
        refine w_aload_n d131_52 rfl ?_
        refine w_dloadS d131_53 (ok49.kd hw) (fr1155 ok49 hw) ?_
        refine w_aload_n d131_56 rfl ?_
        refine w_dloadS d131_57 (ok49.kd hw) (fr1160 ok49 hw) ?_
        refine w_iload_n d131_60 rfl ?_
        refine w_ialoadV (x := ((sV ss i : Nat) : Int)) d131_61 (gi1160 ok49 hw (by omega)) ((congrFun (M49.ai ok ⟨by omega, by omega⟩ (nd _ (by omega))) i).trans a2) ?_
        refine w_callv2 d131_62 (by omega) rfl (ok49.kd (kT1155 ok49 hw)) (by simp) (Nat.le_of_ble_eq_true rfl) ?_
        refine r_Row_addNumber (by omega) ok49 (kT1155 ok49 hw) (by omega) (fun h62 m62 e62_1 e62_2 => ?_)
        have ok62 := m62.ok
        have M62 := Mo.tr ok M49 m62 (fun x e => e)
        refine w_aload_n d131_65 rfl ?_
        refine w_dloadS d131_66 (ok62.kd hw) (fr1155 ok62 hw) ?_
        refine w_bipush d131_69 (by decide) ?_
        refine w_callv2 d131_71 (by omega) rfl (ok62.kd (kT1155 ok62 hw)) (by simp) (Nat.le_of_ble_eq_true rfl) ?_
        refine r_Row_add ok62 (kT1155 ok62 hw) (fun h71 m71 e71_1 e71_2 => ?_)
        have ok71 := m71.ok
        have M71 := Mo.tr ok M62 m71 (fun x e => e)
        refine w_iinc2 d131_74 rfl (by constructor <;> omega) ?_
        refine w_goto d131_77 ?_
        refine w_less ?_ (IH9 _ (by omega) h71 (i + 1) rfl M71 (by omega) (by rw [e71_1, e62_1, e62_2, e49_1, e49_2, e40_1, e40_2, i2, i3, addBs3, addBs3, addBs3, addBs3, wsT, if_neg sk]; simp) (by rw [e71_2, e62_2, e49_2, e40_2, i3]))
        exact ⟨Or.inr rfl, Or.inr rfl, Or.inr rfl, trivial⟩
      · have ob : o = true := by cases o with
          | true => rfl
          | false => rw [hz] at c18; exact absurd rfl c18
        refine w_aload_n d131_21 rfl ?_
        refine w_dloadS d131_22 (okg.kd hw) (fr1161 okg hw) ?_
        refine w_iload_n d131_25 rfl ?_
        refine w_baloadV (x := (b2i (sO ss i))) d131_26 (gi1161 okg hw (by omega)) ((congrFun (Mg.ai ok ⟨by omega, by omega⟩ (nd _ (by omega))) i).trans a3) ?_
        refine w_ifeq d131_27 (fun c27 => ?_) (fun c27 => ?_)
        · have sk : o = true ∧ sO ss i = false := ⟨ob, by cases q : sO ss i with
            | false => rfl
            | true => rw [q] at c27; exact absurd c27 (by decide)⟩
          refine w_iinc2 d131_74 rfl (by constructor <;> omega) ?_
          refine w_goto d131_77 ?_
          refine w_less ?_ (IH9 _ (by omega) g (i + 1) rfl Mg (by omega) (by rw [wsT, if_pos sk, List.append_nil]; exact i2) i3)
          exact ⟨Or.inr rfl, Or.inr rfl, Or.inr rfl, trivial⟩
        · have sk : ¬ (o = true ∧ sO ss i = false) := fun q => by rw [q.2] at c27; exact absurd rfl c27
          refine w_aload_n d131_30 rfl ?_
          refine w_dloadS d131_31 (okg.kd hw) (fr1155 okg hw) ?_
          refine w_aload_n d131_34 rfl ?_
          refine w_dloadS d131_35 (okg.kd hw) (fr1159 okg hw) ?_
          refine w_iload_n d131_38 rfl ?_
          refine w_laloadV (x := (sN ss i)) d131_39 (gi1159 okg hw (by omega)) ((congrFun (Mg.al ok (by omega) (nd _ (by omega))) i).trans a1) ?_
          refine w_callv2 d131_40 (by omega) rfl (okg.kd (kT1155 okg hw)) (by simp) (Nat.le_of_ble_eq_true rfl) ?_
          refine r_Row_addName (by omega) okg (kT1155 okg hw) (fun h40 m40 e40_1 e40_2 => ?_)
          have ok40 := m40.ok
          have M40 := Mo.tr ok Mg m40 (fun x e => e)
          refine w_aload_n d131_43 rfl ?_
          refine w_dloadS d131_44 (ok40.kd hw) (fr1155 ok40 hw) ?_
          refine w_bipush d131_47 (by decide) ?_
          refine w_callv2 d131_49 (by omega) rfl (ok40.kd (kT1155 ok40 hw)) (by simp) (Nat.le_of_ble_eq_true rfl) ?_
          refine r_Row_add ok40 (kT1155 ok40 hw) (fun h49 m49 e49_1 e49_2 => ?_)
          have ok49 := m49.ok
          have M49 := Mo.tr ok M40 m49 (fun x e => e)
          refine w_aload_n d131_52 rfl ?_
          refine w_dloadS d131_53 (ok49.kd hw) (fr1155 ok49 hw) ?_
          refine w_aload_n d131_56 rfl ?_
          refine w_dloadS d131_57 (ok49.kd hw) (fr1160 ok49 hw) ?_
          refine w_iload_n d131_60 rfl ?_
          refine w_ialoadV (x := ((sV ss i : Nat) : Int)) d131_61 (gi1160 ok49 hw (by omega)) ((congrFun (M49.ai ok ⟨by omega, by omega⟩ (nd _ (by omega))) i).trans a2) ?_
          refine w_callv2 d131_62 (by omega) rfl (ok49.kd (kT1155 ok49 hw)) (by simp) (Nat.le_of_ble_eq_true rfl) ?_
          refine r_Row_addNumber (by omega) ok49 (kT1155 ok49 hw) (by omega) (fun h62 m62 e62_1 e62_2 => ?_)
          have ok62 := m62.ok
          have M62 := Mo.tr ok M49 m62 (fun x e => e)
          refine w_aload_n d131_65 rfl ?_
          refine w_dloadS d131_66 (ok62.kd hw) (fr1155 ok62 hw) ?_
          refine w_bipush d131_69 (by decide) ?_
          refine w_callv2 d131_71 (by omega) rfl (ok62.kd (kT1155 ok62 hw)) (by simp) (Nat.le_of_ble_eq_true rfl) ?_
          refine r_Row_add ok62 (kT1155 ok62 hw) (fun h71 m71 e71_1 e71_2 => ?_)
          have ok71 := m71.ok
          have M71 := Mo.tr ok M62 m71 (fun x e => e)
          refine w_iinc2 d131_74 rfl (by constructor <;> omega) ?_
          refine w_goto d131_77 ?_
          refine w_less ?_ (IH9 _ (by omega) h71 (i + 1) rfl M71 (by omega) (by rw [e71_1, e62_1, e62_2, e49_1, e49_2, e40_1, e40_2, i2, i3, addBs3, addBs3, addBs3, addBs3, wsT, if_neg sk]; simp) (by rw [e71_2, e62_2, e49_2, e40_2, i3]))
          exact ⟨Or.inr rfl, Or.inr rfl, Or.inr rfl, trivial⟩
  refine w_less ?_ (L9 _ h4 0 rfl M4 (by omega) e4_1 e4_2)
  exact ⟨Or.inr rfl, Or.inr rfl, Or.inr rfl, trivial⟩
