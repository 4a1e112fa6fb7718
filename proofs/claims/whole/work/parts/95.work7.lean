/-! the workshop: a line of a face, a line of a source -/
def rfK (l : List Nat) (f e n : Nat) : Bool := decide (wordE l f 8 48 ≠ f ∧ atv l (wordE l f 8 48 : Nat) = 61 ∧ numE l (wordE l f 8 48 + 1) ≠ wordE l f 8 48 + 1 ∧ numE l (wordE l f 8 48 + 1) = e ∧ n < 906)
def rfL (l : List Nat) (f e : Nat) (fs : List FaV) : List FaV := if rfK l f e fs.length = true then fs ++ [(nameV l f (wordE l f 8 48), numV (sl l (wordE l f 8 48 + 1) (numE l (wordE l f 8 48 + 1))))] else fs
/-- pub stands ahead -/
def opB (l : List Nat) (f : Nat) : Bool := decide (nameV l f (f + 4) = 8103490994101551104)
def opF (l : List Nat) (f : Nat) : Nat := if opB l f = true then f + 4 else f
/-- where a factor ends, and its value -/
def rsA (l : List Nat) (p : Nat) : Nat := if numE l (p + 1) = p + 1 then wordE l (p + 1) 8 48 else numE l (p + 1)
def rsX (ss : List SrV) (fs : List FaV) (l : List Nat) (p : Nat) : Int := if numE l (p + 1) = p + 1 then vOf ss fs (nameV l (p + 1) (wordE l (p + 1) 8 48)) else (numV (sl l (p + 1) (numE l (p + 1))) : Nat)
/-- sums and products of factors -/
def rsG (ss : List SrV) (fs : List FaV) (l : List Nat) (e a : Nat) : Nat → Nat → Nat → Nat → Option (Nat × Nat)
  | 0, p, s, q => if p < e then none else some (s, q)
  | n + 1, p, s, q => if p < e then (if rsA l p = p + 1 ∨ rsX ss fs l p < 0 ∨ (p ≠ a ∧ atv l (p : Nat) ≠ 43 ∧ atv l (p : Nat) ≠ 42) then none else if atv l (p : Nat) = 42 then rsG ss fs l e a n (rsA l p) s (q * (rsX ss fs l p).toNat % 10000) else rsG ss fs l e a n (rsA l p) ((s + q) % 10000) (rsX ss fs l p).toNat) else some (s, q)
def srN (l : List Nat) (f : Nat) : Int64 := nameV l (opF l f) (wordE l (opF l f) 8 48)
def srR (l : List Nat) (f e : Nat) (ss : List SrV) (fs : List FaV) : Bool × List SrV := if f = e then (true, ss) else if wordE l (opF l f) 8 48 = opF l f ∨ atv l (wordE l (opF l f) 8 48 : Nat) ≠ 61 ∨ 0 ≤ sAt ss (srN l f) ∨ 246 ≤ ss.length then (false, ss) else
  match rsG ss fs l e (wordE l (opF l f) 8 48) (e + 1) (wordE l (opF l f) 8 48) 0 0 with
  | none => (false, ss)
  | some z => (true, ss ++ [(srN l f, (z.1 + z.2) % 10000, opB l f)])
section RS
variable {ss : List SrV} {fs : List FaV} {l : List Nat} {e a n p s q f : Nat}
theorem rsG_end (h : ¬ p < e) : rsG ss fs l e a n p s q = some (s, q) := by
  rcases n with - | m <;> rw [rsG, if_neg h]
theorem rsG_bad (h : p < e) (c : rsA l p = p + 1 ∨ rsX ss fs l p < 0 ∨ (p ≠ a ∧ atv l (p : Nat) ≠ 43 ∧ atv l (p : Nat) ≠ 42)) : rsG ss fs l e a n p s q = none := by
  rcases n with - | m
  · rw [rsG, if_pos h]
  · rw [rsG, if_pos h, if_pos c]
theorem rsG_mul (hn : 0 < n) (h : p < e) (c : ¬ (rsA l p = p + 1 ∨ rsX ss fs l p < 0 ∨ (p ≠ a ∧ atv l (p : Nat) ≠ 43 ∧ atv l (p : Nat) ≠ 42))) (d : atv l (p : Nat) = 42) : rsG ss fs l e a n p s q = rsG ss fs l e a (n - 1) (rsA l p) s (q * (rsX ss fs l p).toNat % 10000) := by
  obtain ⟨m, rfl⟩ : ∃ m, n = m + 1 := ⟨n - 1, by omega⟩
  rw [rsG, if_pos h, if_neg c, if_pos d]
  rfl
theorem rsG_add (hn : 0 < n) (h : p < e) (c : ¬ (rsA l p = p + 1 ∨ rsX ss fs l p < 0 ∨ (p ≠ a ∧ atv l (p : Nat) ≠ 43 ∧ atv l (p : Nat) ≠ 42))) (d : ¬ atv l (p : Nat) = 42) : rsG ss fs l e a n p s q = rsG ss fs l e a (n - 1) (rsA l p) ((s + q) % 10000) (rsX ss fs l p).toNat := by
  obtain ⟨m, rfl⟩ : ∃ m, n = m + 1 := ⟨n - 1, by omega⟩
  rw [rsG, if_pos h, if_neg c, if_neg d]
  rfl
theorem ltF_rg {p : Nat → Bool} : ∀ n, -1 ≤ ltF p n ∧ ltF p n < n
  | 0 => by unfold ltF; omega
  | n + 1 => by
    have := ltF_rg (p := p) n
    unfold ltF
    split <;> omega
theorem vOf_rg (hs : ∀ i, i < ss.length → sV ss i ≤ 9999) (hf : ∀ i, i < fs.length → fV fs i ≤ 9999) (x : Int64) : -1 ≤ vOf ss fs x ∧ vOf ss fs x ≤ 9999 := by
  unfold vOf
  have h1 := ltF_rg (p := fun i => fN fs i == x) fs.length
  have h2 : -1 ≤ sAt ss x ∧ sAt ss x < ss.length := by
    unfold sAt
    rcases srF_rg (p := fun i => sN ss i == x) (n := ss.length) (i := 0) with e | ⟨j, -, j2, e, -⟩ <;> rw [e] <;> omega
  split
  · have := hs (sAt ss x).toNat (by omega); omega
  · split
    · have := hf (ltF (fun i => fN fs i == x) fs.length).toNat (by omega); omega
    · omega
theorem numS_le {b : Nat} (hb : p + 1 ≤ l.length) : numV (sl l (p + 1) (numE l (p + 1))) ≤ 9999 := by
  have r := numE_rg hb
  have h := numV_le (sl l (p + 1) (numE l (p + 1))) 4 (fun c hc => by
    obtain ⟨j, j1, j2, j3⟩ := sl_mem hc
    rw [← j3]
    exact numE_all j1 j2) (by rw [sl_len ⟨r.1, r.2.1⟩]; omega)
  have : 10 ^ 4 - 1 = 9999 := by decide
  omega
theorem wordE_8 {a : Nat} : wordE l a 8 48 ≤ a + 8 := by
  unfold wordE
  split
  · rename_i h
    have := (scan_le (l := l) (p := isLater 48) (i := a + 1) (n := 8 - 1) (by omega)).2
    omega
  · omega
theorem tmodN (a b : Nat) : ((a : Nat) : Int).tmod ((b : Nat) : Int) = ((a % b : Nat) : Int) := rfl
end RS
theorem d127_0 : dc 127 0 = some (.aload_n 1, 1) := by decide +kernel
theorem d127_1 : dc 127 1 = some (.iload_n 2, 2) := by decide +kernel
theorem d127_2 : dc 127 2 = some (.bipush 8, 4) := by decide +kernel
theorem d127_4 : dc 127 4 = some (.bipush 48, 6) := by decide +kernel
theorem d127_6 : dc 127 6 = some (.invokevirtual 31, 9) := by decide +kernel
theorem d127_9 : dc 127 9 = some (.istore 4, 11) := by decide +kernel
theorem d127_11 : dc 127 11 = some (.aload_n 1, 12) := by decide +kernel
theorem d127_12 : dc 127 12 = some (.iload 4, 14) := by decide +kernel
theorem d127_14 : dc 127 14 = some (.iconst 1, 15) := by decide +kernel
theorem d127_15 : dc 127 15 = some (.iadd, 16) := by decide +kernel
theorem d127_16 : dc 127 16 = some (.invokevirtual 36, 19) := by decide +kernel
theorem d127_19 : dc 127 19 = some (.istore 5, 21) := by decide +kernel
theorem d127_21 : dc 127 21 = some (.iload 4, 23) := by decide +kernel
theorem d127_23 : dc 127 23 = some (.iload_n 2, 24) := by decide +kernel
theorem d127_24 : dc 127 24 = some (.if_icmp .eq ((65 : Nat) : Int), 27) := by decide +kernel
theorem d127_27 : dc 127 27 = some (.aload_n 1, 28) := by decide +kernel
theorem d127_28 : dc 127 28 = some (.iload 4, 30) := by decide +kernel
theorem d127_30 : dc 127 30 = some (.invokevirtual 23, 33) := by decide +kernel
theorem d127_33 : dc 127 33 = some (.bipush 61, 35) := by decide +kernel
theorem d127_35 : dc 127 35 = some (.if_icmp .ne ((65 : Nat) : Int), 38) := by decide +kernel
theorem d127_38 : dc 127 38 = some (.iload 5, 40) := by decide +kernel
theorem d127_40 : dc 127 40 = some (.iload 4, 42) := by decide +kernel
theorem d127_42 : dc 127 42 = some (.iconst 1, 43) := by decide +kernel
theorem d127_43 : dc 127 43 = some (.iadd, 44) := by decide +kernel
theorem d127_44 : dc 127 44 = some (.if_icmp .eq ((65 : Nat) : Int), 47) := by decide +kernel
theorem d127_47 : dc 127 47 = some (.iload 5, 49) := by decide +kernel
theorem d127_49 : dc 127 49 = some (.iload_n 3, 50) := by decide +kernel
theorem d127_50 : dc 127 50 = some (.if_icmp .ne ((65 : Nat) : Int), 53) := by decide +kernel
theorem d127_53 : dc 127 53 = some (.aload_n 0, 54) := by decide +kernel
theorem d127_54 : dc 127 54 = some (.getfield 1165, 57) := by decide +kernel
theorem d127_57 : dc 127 57 = some (.aload_n 0, 58) := by decide +kernel
theorem d127_58 : dc 127 58 = some (.dload 1163, 61) := by decide +kernel
theorem d127_61 : dc 127 61 = some (.arraylength, 62) := by decide +kernel
theorem d127_62 : dc 127 62 = some (.if_icmp .lt ((67 : Nat) : Int), 65) := by decide +kernel
theorem d127_65 : dc 127 65 = some (.iconst 0, 66) := by decide +kernel
theorem d127_66 : dc 127 66 = some (.freturn, 67) := by decide +kernel
theorem d127_67 : dc 127 67 = some (.aload_n 0, 68) := by decide +kernel
theorem d127_68 : dc 127 68 = some (.dload 1163, 71) := by decide +kernel
theorem d127_71 : dc 127 71 = some (.aload_n 0, 72) := by decide +kernel
theorem d127_72 : dc 127 72 = some (.getfield 1165, 75) := by decide +kernel
theorem d127_75 : dc 127 75 = some (.aload_n 1, 76) := by decide +kernel
theorem d127_76 : dc 127 76 = some (.iload_n 2, 77) := by decide +kernel
theorem d127_77 : dc 127 77 = some (.iload 4, 79) := by decide +kernel
theorem d127_79 : dc 127 79 = some (.invokevirtual 32, 82) := by decide +kernel
theorem d127_82 : dc 127 82 = some (.lastore, 83) := by decide +kernel
theorem d127_83 : dc 127 83 = some (.aload_n 0, 84) := by decide +kernel
theorem d127_84 : dc 127 84 = some (.dload 1164, 87) := by decide +kernel
theorem d127_87 : dc 127 87 = some (.aload_n 0, 88) := by decide +kernel
theorem d127_88 : dc 127 88 = some (.getfield 1165, 91) := by decide +kernel
theorem d127_91 : dc 127 91 = some (.aload_n 1, 92) := by decide +kernel
theorem d127_92 : dc 127 92 = some (.iload 4, 94) := by decide +kernel
theorem d127_94 : dc 127 94 = some (.iconst 1, 95) := by decide +kernel
theorem d127_95 : dc 127 95 = some (.iadd, 96) := by decide +kernel
theorem d127_96 : dc 127 96 = some (.iload 5, 98) := by decide +kernel
theorem d127_98 : dc 127 98 = some (.invokevirtual 37, 101) := by decide +kernel
theorem d127_101 : dc 127 101 = some (.iastore, 102) := by decide +kernel
theorem d127_102 : dc 127 102 = some (.aload_n 0, 103) := by decide +kernel
theorem d127_103 : dc 127 103 = some (.dup, 104) := by decide +kernel
theorem d127_104 : dc 127 104 = some (.getfield 1165, 107) := by decide +kernel
theorem d127_107 : dc 127 107 = some (.iconst 1, 108) := by decide +kernel
theorem d127_108 : dc 127 108 = some (.iadd, 109) := by decide +kernel
theorem d127_109 : dc 127 109 = some (.putfield 1165, 112) := by decide +kernel
theorem d127_112 : dc 127 112 = some (.iconst 1, 113) := by decide +kernel
theorem d127_113 : dc 127 113 = some (.freturn, 114) := by decide +kernel
theorem k_Wk_readFace {S : Shp} {G : Nat → Option Nat} {d : Nat} {h : Hp} {Q : Option MV → Hp → Prop} {w : Nat} {r : Nat} {f : Nat} {e : Nat}  (ok : Ok S h) (h1 : 2 ≤ d) (hw : sK S w = 10) (hr : sK S r = 6) {l : List Nat} (hl : rl h r = l) (hfe : f ≤ e ∧ e ≤ l.length ∧ l.length ≤ 100000) {fs : List FaV} (fc : FaC S h w fs)
    (kk : ∀ h', Mo S (fun x => x = w ∨ x = sT S 1163 w ∨ x = sT S 1164 w) h h' → FaC S h' w (rfL l f e fs) → (∀ ss, SrC S h w ss → SrC S h' w ss) → Q (some (vI (b2i (rfK l f e fs.length)))) h') : Cl G d 127 [vR (some w), vR (some r), vI (f : Nat), vI (e : Nat)] h Q := by
  show Wp G d 127 0 [some (vR (some w)), some (vR (some r)), some (vI (f : Nat)), some (vI (e : Nat)), none, none] [] h Q
  obtain ⟨q1, q2, q3⟩ := id fc
  have wr := wordE_rg (l := l) (a := f) (m := 8) (lo := 48) (by omega)
  have K63 := kT1163 ok hw
  have K64 := kT1164 ok hw
  have nrw : r ≠ sT S 1163 w ∧ r ≠ sT S 1164 w ∧ r ≠ w := ⟨fun z => by rw [z] at hr; omega, fun z => by rw [z] at hr; omega, fun z => by rw [z] at hr; omega⟩
  have n34 : sT S 1163 w ≠ sT S 1164 w := ok.so.ou (by decide) (by decide) (Or.inl (by decide))
  have nw3 : w ≠ sT S 1163 w := fun z => ok.so.pT (by decide) z.symm
  have nw4 : w ≠ sT S 1164 w := fun z => ok.so.pT (by decide) z.symm
  refine w_aload_n d127_0 rfl ?_
  refine w_iload_n d127_1 rfl ?_
  refine w_bipush d127_2 (by decide) ?_
  refine w_bipush d127_4 (by decide) ?_
  refine w_callv4 d127_6 (by omega) rfl (ok.kd hr) (by simp) (Nat.le_of_ble_eq_true rfl) ?_
  refine r_Row_wordEnd (most := 8) (lo := 48) (by omega) ok hr ⟨by omega, by decide, by decide, by decide⟩ ?_
  rw [hl]
  refine w_istore4 d127_9 rfl ?_
  refine w_aload_n d127_11 rfl ?_
  refine w_iload d127_12 rfl ?_
  refine w_iconst d127_14 (by decide) ?_
  refine w_iadd d127_15 (by constructor <;> omega) ?_
  rw [show (((wordE l f 8 48) : Nat) : Int) + 1 = (((wordE l f 8 48) + 1 : Nat) : Int) by omega]
  refine w_callv2 d127_16 (by omega) rfl (ok.kd hr) (by simp) (Nat.le_of_ble_eq_true rfl) ?_
  refine r_Row_numberEnd (by omega) ok hr (by omega) ?_
  rw [hl]
  refine w_istore5 d127_19 rfl ?_
  refine w_iload d127_21 rfl ?_
  refine w_iload_n d127_23 rfl ?_
  refine w_icmpeq d127_24 (fun c24 => ?_) (fun c24 => ?_)
  · refine w_iconst d127_65 (by decide) ?_
    refine w_zreturn d127_66 (by decide) ?_
    have nk : ¬ rfK l f e fs.length = true := fun z => by
      unfold rfK at z
      rw [decide_eq_true_eq] at z
      obtain ⟨z1, z2, z3, z4, z5⟩ := z
      omega
    refine qI ?_ (kk h (Mo.refl ok) (by unfold rfL; rw [if_neg nk]; exact fc) (fun ss D => D))
    cases q : rfK l f e fs.length with
    | true => exact absurd q nk
    | false => rfl
  · refine w_aload_n d127_27 rfl ?_
    refine w_iload d127_28 rfl ?_
    refine w_callv2 d127_30 (by omega) rfl (ok.kd hr) (by simp) (Nat.le_of_ble_eq_true rfl) ?_
    refine r_Row_at ok hr ?_
    rw [hl]
    refine w_bipush d127_33 (by decide) ?_
    refine w_icmpne d127_35 (fun c35 => ?_) (fun c35 => ?_)
    · refine w_iconst d127_65 (by decide) ?_
      refine w_zreturn d127_66 (by decide) ?_
      have nk : ¬ rfK l f e fs.length = true := fun z => by
        unfold rfK at z
        rw [decide_eq_true_eq] at z
        obtain ⟨z1, z2, z3, z4, z5⟩ := z
        omega
      refine qI ?_ (kk h (Mo.refl ok) (by unfold rfL; rw [if_neg nk]; exact fc) (fun ss D => D))
      cases q : rfK l f e fs.length with
      | true => exact absurd q nk
      | false => rfl
    · have ls : wordE l f 8 48 < l.length := by
        have c := c35
        unfold atv at c
        split at c <;> omega
      have nr := numE_rg (l := l) (a := wordE l f 8 48 + 1) (by omega)
      have nv := numS_le (l := l) (p := wordE l f 8 48) (b := 0) (by omega)
      refine w_iload d127_38 rfl ?_
      refine w_iload d127_40 rfl ?_
      refine w_iconst d127_42 (by decide) ?_
      refine w_iadd d127_43 (by constructor <;> omega) ?_
      refine w_icmpeq d127_44 (fun c44 => ?_) (fun c44 => ?_)
      · refine w_iconst d127_65 (by decide) ?_
        refine w_zreturn d127_66 (by decide) ?_
        have nk : ¬ rfK l f e fs.length = true := fun z => by
          unfold rfK at z
          rw [decide_eq_true_eq] at z
          obtain ⟨z1, z2, z3, z4, z5⟩ := z
          omega
        refine qI ?_ (kk h (Mo.refl ok) (by unfold rfL; rw [if_neg nk]; exact fc) (fun ss D => D))
        cases q : rfK l f e fs.length with
        | true => exact absurd q nk
        | false => rfl
      · refine w_iload d127_47 rfl ?_
        refine w_iload_n d127_49 rfl ?_
        refine w_icmpne d127_50 (fun c50 => ?_) (fun c50 => ?_)
        · refine w_iconst d127_65 (by decide) ?_
          refine w_zreturn d127_66 (by decide) ?_
          have nk : ¬ rfK l f e fs.length = true := fun z => by
            unfold rfK at z
            rw [decide_eq_true_eq] at z
            obtain ⟨z1, z2, z3, z4, z5⟩ := z
            omega
          refine qI ?_ (kk h (Mo.refl ok) (by unfold rfL; rw [if_neg nk]; exact fc) (fun ss D => D))
          cases q : rfK l f e fs.length with
          | true => exact absurd q nk
          | false => rfl
        · refine w_aload_n d127_53 rfl ?_
          refine w_getI (x := ((fs.length : Nat) : Int)) d127_54 (ok.kd hw) q1 ?_
          refine w_aload_n d127_57 rfl ?_
          refine w_dloadS d127_58 (ok.kd hw) (fr1163 ok hw) ?_
          refine wl1163 d127_61 ok hw ?_
          refine w_icmplt d127_62 (fun c62 => ?_) (fun c62 => ?_)
          · have yk : rfK l f e fs.length = true := by unfold rfK; rw [decide_eq_true_eq]; exact ⟨by omega, c35, by omega, by omega, by omega⟩
            refine w_aload_n d127_67 rfl ?_
            refine w_dloadS d127_68 (ok.kd hw) (fr1163 ok hw) ?_
            refine w_aload_n d127_71 rfl ?_
            refine w_getI (x := ((fs.length : Nat) : Int)) d127_72 (ok.kd hw) q1 ?_
            refine w_aload_n d127_75 rfl ?_
            refine w_iload_n d127_76 rfl ?_
            refine w_iload d127_77 rfl ?_
            refine w_callv3 d127_79 (by omega) rfl (ok.kd hr) (by simp) (Nat.le_of_ble_eq_true rfl) ?_
            refine r_Row_nameIn ok hr ⟨by omega, by rw [hl]; omega⟩ ?_
            rw [hl]
            refine wa1163 d127_82 ok hw (by omega) (fun h82 e82 m82 => ?_)
            have e82 : h82 = sAL h (sT S 1163 w) fs.length (nameV l f (wordE l f 8 48)) := e82
            have ok82 := m82.ok
            have M82 := Mo.tr ok (Mo.refl (A := (fun x => x = w ∨ x = (sT S 1163 w) ∨ x = (sT S 1164 w))) ok) m82 (fun x e => (Or.inr (Or.inl e)))
            refine w_aload_n d127_83 rfl ?_
            refine w_dloadS d127_84 (ok82.kd hw) (fr1164 ok82 hw) ?_
            refine w_aload_n d127_87 rfl ?_
            refine w_getI (x := ((fs.length : Nat) : Int)) d127_88 (ok82.kd hw) ((m82.fi ok (by omega) nw3 1165).trans q1) ?_
            refine w_aload_n d127_91 rfl ?_
            refine w_iload d127_92 rfl ?_
            refine w_iconst d127_94 (by decide) ?_
            refine w_iadd d127_95 (by constructor <;> omega) ?_
            rw [show (((wordE l f 8 48) : Nat) : Int) + 1 = (((wordE l f 8 48) + 1 : Nat) : Int) by omega]
            refine w_iload d127_96 rfl ?_
            refine w_callv3 d127_98 (by omega) rfl (ok82.kd hr) (by simp) (Nat.le_of_ble_eq_true rfl) ?_
            have hl2 : rl h82 r = l := (m82.rb ok hr nrw.1).trans hl
            refine r_Row_numberIn (by omega) ok82 hr ⟨by omega, by rw [hl2]; omega, by omega⟩ (fun i i1 i2 => by rw [hl2]; exact numE_all i1 i2) ?_
            rw [hl2]
            refine wa1164 d127_101 ok82 hw (by omega) (by omega) (fun h101 e101 m101 => ?_)
            have e101 : h101 = sAI h82 (sT S 1164 w) fs.length (((numV (sl l (wordE l f 8 48 + 1) (numE l (wordE l f 8 48 + 1)))) : Nat) : Int) := e101
            have ok101 := m101.ok
            have M101 := Mo.tr ok M82 m101 (fun x e => (Or.inr (Or.inr e)))
            refine w_aload_n d127_102 rfl ?_
            refine w_dupR d127_103 ?_
            refine w_getI (x := ((fs.length : Nat) : Int)) d127_104 (ok101.kd hw) ((m101.fi ok82 (by omega) nw4 1165).trans ((m82.fi ok (by omega) nw3 1165).trans q1)) ?_
            refine w_iconst d127_107 (by decide) ?_
            refine w_iadd d127_108 (by constructor <;> omega) ?_
            refine wf1165 d127_109 ok101 hw (by omega) (fun h109 e109 m109 => ?_)
            have ok109 := m109.ok
            have M109 := Mo.tr ok M101 m109 (fun x e => (Or.inl e))
            refine w_iconst d127_112 (by decide) ?_
            refine w_zreturn d127_113 (by decide) ?_
            rw [yk] at kk
            refine kk h109 M109 ?_ (fun ss D => ((D.f ok m82 hw (Or.inl nw3) (ok.so.ou (by decide) (by decide) (Or.inl (by decide))) (ok.so.ou (by decide) (by decide) (Or.inl (by decide))) (ok.so.ou (by decide) (by decide) (Or.inl (by decide)))).f ok82 m101 hw (Or.inl nw4) (ok.so.ou (by decide) (by decide) (Or.inl (by decide))) (ok.so.ou (by decide) (by decide) (Or.inl (by decide))) (ok.so.ou (by decide) (by decide) (Or.inl (by decide)))).f ok101 m109 hw (Or.inr (by rw [e109, FI_sFI, if_neg (fun z => absurd z.1 (by decide))])) (fun z => ok.so.pT (by decide) z) (fun z => ok.so.pT (by decide) z) (fun z => ok.so.pT (by decide) z))
            unfold rfL
            rw [if_pos yk]
            have eL : (fs ++ [(nameV l f (wordE l f 8 48), numV (sl l (wordE l f 8 48 + 1) (numE l (wordE l f 8 48 + 1))))]).length = fs.length + 1 := by simp
            refine ⟨by rw [e109, FI_sFI, if_pos ⟨rfl, rfl⟩, eL]; first | done | rfl, by omega, fun i hi => ?_⟩
            rw [eL] at hi
            unfold fN fV
            rw [getD_snoc]
            have e1 : AL h109 (sT S 1163 w) i = if i = fs.length then nameV l f (wordE l f 8 48) else AL h (sT S 1163 w) i := by
              rw [e109]
              show AL h101 _ i = _
              rw [m101.al ok82 (by omega) n34, e82, AL_sAL]
              by_cases q : i = fs.length
              · rw [if_pos ⟨rfl, q⟩, if_pos q]
              · rw [if_neg (fun z => q z.2), if_neg q]
            have e2 : AI h109 (sT S 1164 w) i = if i = fs.length then ((numV (sl l (wordE l f 8 48 + 1) (numE l (wordE l f 8 48 + 1))) : Nat) : Int) else AI h (sT S 1164 w) i := by
              rw [e109]
              show AI h101 _ i = _
              rw [e101, sArr, m82.ai ok ⟨by omega, by omega⟩ (Ne.symm n34)]
            rw [e1, e2]
            by_cases q : i = fs.length
            · rw [if_pos q, if_pos q, if_pos q]; exact ⟨rfl, rfl, nv⟩
            · rw [if_neg q, if_neg q, if_neg q]; exact q3 i (by omega)
          · refine w_iconst d127_65 (by decide) ?_
            refine w_zreturn d127_66 (by decide) ?_
            have nk : ¬ rfK l f e fs.length = true := fun z => by
              unfold rfK at z
              rw [decide_eq_true_eq] at z
              obtain ⟨z1, z2, z3, z4, z5⟩ := z
              omega
            refine qI ?_ (kk h (Mo.refl ok) (by unfold rfL; rw [if_neg nk]; exact fc) (fun ss D => D))
            cases q : rfK l f e fs.length with
            | true => exact absurd q nk
            | false => rfl
theorem d128_0 : dc 128 0 = some (.iload_n 2, 1) := by decide +kernel
theorem d128_1 : dc 128 1 = some (.iload_n 3, 2) := by decide +kernel
theorem d128_2 : dc 128 2 = some (.if_icmp .ne ((7 : Nat) : Int), 5) := by decide +kernel
theorem d128_5 : dc 128 5 = some (.iconst 1, 6) := by decide +kernel
theorem d128_6 : dc 128 6 = some (.freturn, 7) := by decide +kernel
theorem d128_7 : dc 128 7 = some (.aload_n 1, 8) := by decide +kernel
theorem d128_8 : dc 128 8 = some (.iload_n 2, 9) := by decide +kernel
theorem d128_9 : dc 128 9 = some (.iload_n 2, 10) := by decide +kernel
theorem d128_10 : dc 128 10 = some (.iconst 4, 11) := by decide +kernel
theorem d128_11 : dc 128 11 = some (.iadd, 12) := by decide +kernel
theorem d128_12 : dc 128 12 = some (.invokevirtual 32, 15) := by decide +kernel
theorem d128_15 : dc 128 15 = some (.ldc2_w 2, 18) := by decide +kernel
theorem d128_18 : dc 128 18 = some (.lcmp, 19) := by decide +kernel
theorem d128_19 : dc 128 19 = some (.ifCond .ne ((26 : Nat) : Int), 22) := by decide +kernel
theorem d128_22 : dc 128 22 = some (.iconst 1, 23) := by decide +kernel
theorem d128_23 : dc 128 23 = some (.goto ((27 : Nat) : Int), 26) := by decide +kernel
theorem d128_26 : dc 128 26 = some (.iconst 0, 27) := by decide +kernel
theorem d128_27 : dc 128 27 = some (.istore 4, 29) := by decide +kernel
theorem d128_29 : dc 128 29 = some (.iload 4, 31) := by decide +kernel
theorem d128_31 : dc 128 31 = some (.ifCond .eq ((40 : Nat) : Int), 34) := by decide +kernel
theorem d128_34 : dc 128 34 = some (.iload_n 2, 35) := by decide +kernel
theorem d128_35 : dc 128 35 = some (.iconst 4, 36) := by decide +kernel
theorem d128_36 : dc 128 36 = some (.iadd, 37) := by decide +kernel
theorem d128_37 : dc 128 37 = some (.goto ((41 : Nat) : Int), 40) := by decide +kernel
theorem d128_40 : dc 128 40 = some (.iload_n 2, 41) := by decide +kernel
theorem d128_41 : dc 128 41 = some (.istore 5, 43) := by decide +kernel
theorem d128_43 : dc 128 43 = some (.aload_n 1, 44) := by decide +kernel
theorem d128_44 : dc 128 44 = some (.iload 5, 46) := by decide +kernel
theorem d128_46 : dc 128 46 = some (.bipush 8, 48) := by decide +kernel
theorem d128_48 : dc 128 48 = some (.bipush 48, 50) := by decide +kernel
theorem d128_50 : dc 128 50 = some (.invokevirtual 31, 53) := by decide +kernel
theorem d128_53 : dc 128 53 = some (.istore 6, 55) := by decide +kernel
theorem d128_55 : dc 128 55 = some (.aload_n 1, 56) := by decide +kernel
theorem d128_56 : dc 128 56 = some (.iload 5, 58) := by decide +kernel
theorem d128_58 : dc 128 58 = some (.iload 6, 60) := by decide +kernel
theorem d128_60 : dc 128 60 = some (.invokevirtual 32, 63) := by decide +kernel
theorem d128_63 : dc 128 63 = some (.lstore 7, 65) := by decide +kernel
theorem d128_65 : dc 128 65 = some (.iload 6, 67) := by decide +kernel
theorem d128_67 : dc 128 67 = some (.iload 5, 69) := by decide +kernel
theorem d128_69 : dc 128 69 = some (.if_icmp .eq ((104 : Nat) : Int), 72) := by decide +kernel
theorem d128_72 : dc 128 72 = some (.aload_n 1, 73) := by decide +kernel
theorem d128_73 : dc 128 73 = some (.iload 6, 75) := by decide +kernel
theorem d128_75 : dc 128 75 = some (.invokevirtual 23, 78) := by decide +kernel
theorem d128_78 : dc 128 78 = some (.bipush 61, 80) := by decide +kernel
theorem d128_80 : dc 128 80 = some (.if_icmp .ne ((104 : Nat) : Int), 83) := by decide +kernel
theorem d128_83 : dc 128 83 = some (.aload_n 0, 84) := by decide +kernel
theorem d128_84 : dc 128 84 = some (.lload 7, 86) := by decide +kernel
theorem d128_86 : dc 128 86 = some (.invokevirtual 129, 89) := by decide +kernel
theorem d128_89 : dc 128 89 = some (.ifCond .ge ((104 : Nat) : Int), 92) := by decide +kernel
theorem d128_92 : dc 128 92 = some (.aload_n 0, 93) := by decide +kernel
theorem d128_93 : dc 128 93 = some (.getfield 1162, 96) := by decide +kernel
theorem d128_96 : dc 128 96 = some (.aload_n 0, 97) := by decide +kernel
theorem d128_97 : dc 128 97 = some (.dload 1159, 100) := by decide +kernel
theorem d128_100 : dc 128 100 = some (.arraylength, 101) := by decide +kernel
theorem d128_101 : dc 128 101 = some (.if_icmp .lt ((106 : Nat) : Int), 104) := by decide +kernel
theorem d128_104 : dc 128 104 = some (.iconst 0, 105) := by decide +kernel
theorem d128_105 : dc 128 105 = some (.freturn, 106) := by decide +kernel
theorem d128_106 : dc 128 106 = some (.iconst 0, 107) := by decide +kernel
theorem d128_107 : dc 128 107 = some (.istore 9, 109) := by decide +kernel
theorem d128_109 : dc 128 109 = some (.iconst 0, 110) := by decide +kernel
theorem d128_110 : dc 128 110 = some (.istore 10, 112) := by decide +kernel
theorem d128_112 : dc 128 112 = some (.iload 6, 114) := by decide +kernel
theorem d128_114 : dc 128 114 = some (.istore 11, 116) := by decide +kernel
theorem d128_116 : dc 128 116 = some (.iload 6, 118) := by decide +kernel
theorem d128_118 : dc 128 118 = some (.iload_n 3, 119) := by decide +kernel
theorem d128_119 : dc 128 119 = some (.if_icmp .ge ((265 : Nat) : Int), 122) := by decide +kernel
theorem d128_122 : dc 128 122 = some (.aload_n 1, 123) := by decide +kernel
theorem d128_123 : dc 128 123 = some (.iload 6, 125) := by decide +kernel
theorem d128_125 : dc 128 125 = some (.invokevirtual 23, 128) := by decide +kernel
theorem d128_128 : dc 128 128 = some (.istore 12, 130) := by decide +kernel
theorem d128_130 : dc 128 130 = some (.iload 6, 132) := by decide +kernel
theorem d128_132 : dc 128 132 = some (.iconst 1, 133) := by decide +kernel
theorem d128_133 : dc 128 133 = some (.iadd, 134) := by decide +kernel
theorem d128_134 : dc 128 134 = some (.istore 13, 136) := by decide +kernel
theorem d128_136 : dc 128 136 = some (.aload_n 1, 137) := by decide +kernel
theorem d128_137 : dc 128 137 = some (.iload 13, 139) := by decide +kernel
theorem d128_139 : dc 128 139 = some (.invokevirtual 36, 142) := by decide +kernel
theorem d128_142 : dc 128 142 = some (.istore 14, 144) := by decide +kernel
theorem d128_144 : dc 128 144 = some (.aload_n 1, 145) := by decide +kernel
theorem d128_145 : dc 128 145 = some (.iload 13, 147) := by decide +kernel
theorem d128_147 : dc 128 147 = some (.iload 14, 149) := by decide +kernel
theorem d128_149 : dc 128 149 = some (.invokevirtual 37, 152) := by decide +kernel
theorem d128_152 : dc 128 152 = some (.istore 15, 154) := by decide +kernel
theorem d128_154 : dc 128 154 = some (.iload 14, 156) := by decide +kernel
theorem d128_156 : dc 128 156 = some (.iload 13, 158) := by decide +kernel
theorem d128_158 : dc 128 158 = some (.if_icmp .ne ((187 : Nat) : Int), 161) := by decide +kernel
theorem d128_161 : dc 128 161 = some (.aload_n 1, 162) := by decide +kernel
theorem d128_162 : dc 128 162 = some (.iload 13, 164) := by decide +kernel
theorem d128_164 : dc 128 164 = some (.bipush 8, 166) := by decide +kernel
theorem d128_166 : dc 128 166 = some (.bipush 48, 168) := by decide +kernel
theorem d128_168 : dc 128 168 = some (.invokevirtual 31, 171) := by decide +kernel
theorem d128_171 : dc 128 171 = some (.istore 14, 173) := by decide +kernel
theorem d128_173 : dc 128 173 = some (.aload_n 0, 174) := by decide +kernel
theorem d128_174 : dc 128 174 = some (.aload_n 1, 175) := by decide +kernel
theorem d128_175 : dc 128 175 = some (.iload 13, 177) := by decide +kernel
theorem d128_177 : dc 128 177 = some (.iload 14, 179) := by decide +kernel
theorem d128_179 : dc 128 179 = some (.invokevirtual 32, 182) := by decide +kernel
theorem d128_182 : dc 128 182 = some (.invokevirtual 130, 185) := by decide +kernel
theorem d128_185 : dc 128 185 = some (.istore 15, 187) := by decide +kernel
theorem d128_187 : dc 128 187 = some (.iload 14, 189) := by decide +kernel
theorem d128_189 : dc 128 189 = some (.iload 13, 191) := by decide +kernel
theorem d128_191 : dc 128 191 = some (.if_icmp .eq ((220 : Nat) : Int), 194) := by decide +kernel
theorem d128_194 : dc 128 194 = some (.iload 15, 196) := by decide +kernel
theorem d128_196 : dc 128 196 = some (.ifCond .lt ((220 : Nat) : Int), 199) := by decide +kernel
theorem d128_199 : dc 128 199 = some (.iload 6, 201) := by decide +kernel
theorem d128_201 : dc 128 201 = some (.iload 11, 203) := by decide +kernel
theorem d128_203 : dc 128 203 = some (.if_icmp .eq ((222 : Nat) : Int), 206) := by decide +kernel
theorem d128_206 : dc 128 206 = some (.iload 12, 208) := by decide +kernel
theorem d128_208 : dc 128 208 = some (.bipush 43, 210) := by decide +kernel
theorem d128_210 : dc 128 210 = some (.if_icmp .eq ((222 : Nat) : Int), 213) := by decide +kernel
theorem d128_213 : dc 128 213 = some (.iload 12, 215) := by decide +kernel
theorem d128_215 : dc 128 215 = some (.bipush 42, 217) := by decide +kernel
theorem d128_217 : dc 128 217 = some (.if_icmp .eq ((222 : Nat) : Int), 220) := by decide +kernel
theorem d128_220 : dc 128 220 = some (.iconst 0, 221) := by decide +kernel
theorem d128_221 : dc 128 221 = some (.freturn, 222) := by decide +kernel
theorem d128_222 : dc 128 222 = some (.iload 12, 224) := by decide +kernel
theorem d128_224 : dc 128 224 = some (.bipush 42, 226) := by decide +kernel
theorem d128_226 : dc 128 226 = some (.if_icmp .ne ((243 : Nat) : Int), 229) := by decide +kernel
theorem d128_229 : dc 128 229 = some (.iload 10, 231) := by decide +kernel
theorem d128_231 : dc 128 231 = some (.iload 15, 233) := by decide +kernel
theorem d128_233 : dc 128 233 = some (.imul, 234) := by decide +kernel
theorem d128_234 : dc 128 234 = some (.sipush 10000, 237) := by decide +kernel
theorem d128_237 : dc 128 237 = some (.irem, 238) := by decide +kernel
theorem d128_238 : dc 128 238 = some (.istore 10, 240) := by decide +kernel
theorem d128_240 : dc 128 240 = some (.goto ((258 : Nat) : Int), 243) := by decide +kernel
theorem d128_243 : dc 128 243 = some (.iload 9, 245) := by decide +kernel
theorem d128_245 : dc 128 245 = some (.iload 10, 247) := by decide +kernel
theorem d128_247 : dc 128 247 = some (.iadd, 248) := by decide +kernel
theorem d128_248 : dc 128 248 = some (.sipush 10000, 251) := by decide +kernel
theorem d128_251 : dc 128 251 = some (.irem, 252) := by decide +kernel
theorem d128_252 : dc 128 252 = some (.istore 9, 254) := by decide +kernel
theorem d128_254 : dc 128 254 = some (.iload 15, 256) := by decide +kernel
theorem d128_256 : dc 128 256 = some (.istore 10, 258) := by decide +kernel
theorem d128_258 : dc 128 258 = some (.iload 14, 260) := by decide +kernel
theorem d128_260 : dc 128 260 = some (.istore 6, 262) := by decide +kernel
theorem d128_262 : dc 128 262 = some (.goto ((116 : Nat) : Int), 265) := by decide +kernel
theorem d128_265 : dc 128 265 = some (.aload_n 0, 266) := by decide +kernel
theorem d128_266 : dc 128 266 = some (.dload 1159, 269) := by decide +kernel
theorem d128_269 : dc 128 269 = some (.aload_n 0, 270) := by decide +kernel
theorem d128_270 : dc 128 270 = some (.getfield 1162, 273) := by decide +kernel
theorem d128_273 : dc 128 273 = some (.lload 7, 275) := by decide +kernel
theorem d128_275 : dc 128 275 = some (.lastore, 276) := by decide +kernel
theorem d128_276 : dc 128 276 = some (.aload_n 0, 277) := by decide +kernel
theorem d128_277 : dc 128 277 = some (.dload 1160, 280) := by decide +kernel
theorem d128_280 : dc 128 280 = some (.aload_n 0, 281) := by decide +kernel
theorem d128_281 : dc 128 281 = some (.getfield 1162, 284) := by decide +kernel
theorem d128_284 : dc 128 284 = some (.iload 9, 286) := by decide +kernel
theorem d128_286 : dc 128 286 = some (.iload 10, 288) := by decide +kernel
theorem d128_288 : dc 128 288 = some (.iadd, 289) := by decide +kernel
theorem d128_289 : dc 128 289 = some (.sipush 10000, 292) := by decide +kernel
theorem d128_292 : dc 128 292 = some (.irem, 293) := by decide +kernel
theorem d128_293 : dc 128 293 = some (.iastore, 294) := by decide +kernel
theorem d128_294 : dc 128 294 = some (.aload_n 0, 295) := by decide +kernel
theorem d128_295 : dc 128 295 = some (.dload 1161, 298) := by decide +kernel
theorem d128_298 : dc 128 298 = some (.aload_n 0, 299) := by decide +kernel
theorem d128_299 : dc 128 299 = some (.getfield 1162, 302) := by decide +kernel
theorem d128_302 : dc 128 302 = some (.iload 4, 304) := by decide +kernel
theorem d128_304 : dc 128 304 = some (.bastore, 305) := by decide +kernel
theorem d128_305 : dc 128 305 = some (.aload_n 0, 306) := by decide +kernel
theorem d128_306 : dc 128 306 = some (.dup, 307) := by decide +kernel
theorem d128_307 : dc 128 307 = some (.getfield 1162, 310) := by decide +kernel
theorem d128_310 : dc 128 310 = some (.iconst 1, 311) := by decide +kernel
theorem d128_311 : dc 128 311 = some (.iadd, 312) := by decide +kernel
theorem d128_312 : dc 128 312 = some (.putfield 1162, 315) := by decide +kernel
theorem d128_315 : dc 128 315 = some (.iconst 1, 316) := by decide +kernel
theorem d128_316 : dc 128 316 = some (.freturn, 317) := by decide +kernel
theorem k_Wk_readSource {S : Shp} {G : Nat → Option Nat} {d : Nat} {h : Hp} {Q : Option MV → Hp → Prop} {w : Nat} {r : Nat} {f : Nat} {e : Nat}  (ok : Ok S h) (h1 : 3 ≤ d) (hw : sK S w = 10) (hr : sK S r = 6) {l : List Nat} (hl : rl h r = l) (hfe : f ≤ e ∧ e ≤ l.length ∧ l.length ≤ 100000) {ss : List SrV} (sc : SrC S h w ss) {fs : List FaV} (fc : FaC S h w fs)
    (kk : ∀ h', Mo S (fun x => x = w ∨ x = sT S 1159 w ∨ x = sT S 1160 w ∨ x = sT S 1161 w) h h' → SrC S h' w (srR l f e ss fs).2 → (∀ fs, FaC S h w fs → FaC S h' w fs) → Q (some (vI (b2i (srR l f e ss fs).1))) h') : Cl G d 128 [vR (some w), vR (some r), vI (f : Nat), vI (e : Nat)] h Q := by
  show Wp G d 128 0 [some (vR (some w)), some (vR (some r)), some (vI (f : Nat)), some (vI (e : Nat)), none, none, none, none, none, none, none, none, none, none, none, none] [] h Q
  obtain ⟨q1, q2, q3⟩ := id sc
  obtain ⟨r1, r2, r3⟩ := id fc
  have K59 := kT1159 ok hw
  have K60 := kT1160 ok hw
  have K61 := kT1161 ok hw
  have n90 : sT S 1159 w ≠ sT S 1160 w := ok.so.ou (by decide) (by decide) (Or.inl (by decide))
  have n91 : sT S 1159 w ≠ sT S 1161 w := ok.so.ou (by decide) (by decide) (Or.inl (by decide))
  have n01 : sT S 1160 w ≠ sT S 1161 w := ok.so.ou (by decide) (by decide) (Or.inl (by decide))
  have nw9 : w ≠ sT S 1159 w := fun z => ok.so.pT (by decide) z.symm
  have nw0 : w ≠ sT S 1160 w := fun z => ok.so.pT (by decide) z.symm
  have nw1 : w ≠ sT S 1161 w := fun z => ok.so.pT (by decide) z.symm
  have of4 : opF l f ≤ f + 4 := by unfold opF; split <;> omega
  have w1 : wordE l (opF l f) 8 48 ≤ opF l f + 8 := wordE_8
  refine w_iload_n d128_0 rfl ?_
  refine w_iload_n d128_1 rfl ?_
  refine w_icmpne d128_2 (fun c2 => ?_) (fun c2 => ?_)
  · have hne : ¬ f = e := by omega
    refine w_aload_n d128_7 rfl ?_
    refine w_iload_n d128_8 rfl ?_
    refine w_iload_n d128_9 rfl ?_
    refine w_iconst d128_10 (by decide) ?_
    refine w_iadd d128_11 (by constructor <;> omega) ?_
    rw [show ((f : Nat) : Int) + 4 = ((f + 4 : Nat) : Int) by omega]
    refine w_callv3 d128_12 (by omega) rfl (ok.kd hr) (by simp) (Nat.le_of_ble_eq_true rfl) ?_
    refine r_Row_nameInX ok hr ⟨by omega, by omega⟩ ?_
    rw [hl]
    refine w_ldc2_w d128_15 ?_
    have L43 : ∀ (m43 : Nat) , 0 = m43 → Wp G d 128 43 [some (vR (some w)), some (vR (some r)), some (vI (f : Nat)), some (vI (e : Nat)), some (vI (b2i (opB l f))), some (vI (opF l f : Nat)), none, none, none, none, none, none, none, none, none, none] [] h Q := by
      intro m43
      induction m43 using Nat.strongRecOn with | ind m43 IH43 => ?_
      intro  hm43 
      refine w_aload_n d128_43 rfl ?_
      refine w_iload d128_44 rfl ?_
      refine w_bipush d128_46 (by decide) ?_
      refine w_bipush d128_48 (by decide) ?_
      refine w_callv4 d128_50 (by omega) rfl (ok.kd hr) (by simp) (Nat.le_of_ble_eq_true rfl) ?_
      refine r_Row_wordEnd (most := 8) (lo := 48) (by omega) ok hr ⟨by omega, by decide, by decide, by decide⟩ ?_
      rw [hl]
      refine w_istore6 d128_53 rfl ?_
      refine w_aload_n d128_55 rfl ?_
      refine w_iload d128_56 rfl ?_
      refine w_iload d128_58 rfl ?_
      refine w_callv3 d128_60 (by omega) rfl (ok.kd hr) (by simp) (Nat.le_of_ble_eq_true rfl) ?_
      refine r_Row_nameInX ok hr ⟨by omega, by omega⟩ ?_
      rw [hl]
      rw [show nameV l (opF l f) (wordE l (opF l f) 8 48) = srN l f from rfl]
      refine w_lstore7 d128_63 rfl ?_
      refine w_iload d128_65 rfl ?_
      refine w_iload d128_67 rfl ?_
      refine w_icmpeq d128_69 (fun c69 => ?_) (fun c69 => ?_)
      · have bc : wordE l (opF l f) 8 48 = opF l f ∨ atv l (wordE l (opF l f) 8 48 : Nat) ≠ 61 ∨ 0 ≤ sAt ss (srN l f) ∨ 246 ≤ ss.length := by first | exact Or.inl (by omega) | exact Or.inr (Or.inl c80) | exact Or.inr (Or.inr (Or.inl (by omega))) | exact Or.inr (Or.inr (Or.inr (by omega)))
        refine w_iconst d128_104 (by decide) ?_
        refine w_zreturn d128_105 (by decide) ?_
        have rz : srR l f e ss fs = (false, ss) := by
          unfold srR
          rw [if_neg hne, if_pos bc]
        rw [rz] at kk
        exact kk h (Mo.refl ok) sc (fun fs D => D)
      · refine w_aload_n d128_72 rfl ?_
        refine w_iload d128_73 rfl ?_
        refine w_callv2 d128_75 (by omega) rfl (ok.kd hr) (by simp) (Nat.le_of_ble_eq_true rfl) ?_
        refine r_Row_at ok hr ?_
        rw [hl]
        refine w_bipush d128_78 (by decide) ?_
        refine w_icmpne d128_80 (fun c80 => ?_) (fun c80 => ?_)
        · have bc : wordE l (opF l f) 8 48 = opF l f ∨ atv l (wordE l (opF l f) 8 48 : Nat) ≠ 61 ∨ 0 ≤ sAt ss (srN l f) ∨ 246 ≤ ss.length := by first | exact Or.inl (by omega) | exact Or.inr (Or.inl c80) | exact Or.inr (Or.inr (Or.inl (by omega))) | exact Or.inr (Or.inr (Or.inr (by omega)))
          refine w_iconst d128_104 (by decide) ?_
          refine w_zreturn d128_105 (by decide) ?_
          have rz : srR l f e ss fs = (false, ss) := by
            unfold srR
            rw [if_neg hne, if_pos bc]
          rw [rz] at kk
          exact kk h (Mo.refl ok) sc (fun fs D => D)
        · have la : wordE l (opF l f) 8 48 < l.length := by
            have c := c80
            unfold atv at c
            split at c <;> omega
          refine w_aload_n d128_83 rfl ?_
          refine w_lload d128_84 rfl ?_
          refine w_callv2 d128_86 (by omega) rfl (ok.kd hw) (by simp) (Nat.le_of_ble_eq_true rfl) ?_
          refine k_Wk_sourceAt ok (by omega) hw sc ?_
          refine w_ifge d128_89 (fun c89 => ?_) (fun c89 => ?_)
          · have bc : wordE l (opF l f) 8 48 = opF l f ∨ atv l (wordE l (opF l f) 8 48 : Nat) ≠ 61 ∨ 0 ≤ sAt ss (srN l f) ∨ 246 ≤ ss.length := by first | exact Or.inl (by omega) | exact Or.inr (Or.inl c80) | exact Or.inr (Or.inr (Or.inl (by omega))) | exact Or.inr (Or.inr (Or.inr (by omega)))
            refine w_iconst d128_104 (by decide) ?_
            refine w_zreturn d128_105 (by decide) ?_
            have rz : srR l f e ss fs = (false, ss) := by
              unfold srR
              rw [if_neg hne, if_pos bc]
            rw [rz] at kk
            exact kk h (Mo.refl ok) sc (fun fs D => D)
          · refine w_aload_n d128_92 rfl ?_
            refine w_getI (x := ((ss.length : Nat) : Int)) d128_93 (ok.kd hw) q1 ?_
            refine w_aload_n d128_96 rfl ?_
            refine w_dloadS d128_97 (ok.kd hw) (fr1159 ok hw) ?_
            refine wl1159 d128_100 ok hw ?_
            refine w_icmplt d128_101 (fun c101 => ?_) (fun c101 => ?_)
            · have nbc : ¬ (wordE l (opF l f) 8 48 = opF l f ∨ atv l (wordE l (opF l f) 8 48 : Nat) ≠ 61 ∨ 0 ≤ sAt ss (srN l f) ∨ 246 ≤ ss.length) := fun z => by rcases z with z | z | z | z; omega; exact z c80; omega; omega
              refine w_iconst d128_106 (by decide) ?_
              refine w_istore9 d128_107 rfl ?_
              refine w_iconst d128_109 (by decide) ?_
              refine w_istore10 d128_110 rfl ?_
              refine w_iload d128_112 rfl ?_
              refine w_istore11 d128_114 rfl ?_
              have L116 : ∀ (m116 : Nat) (n p s q : Nat), n = m116 → (e < n + p ∧ p ≤ l.length) → (s ≤ 9999 ∧ q ≤ 9999) → (rsG ss fs l e (wordE l (opF l f) 8 48) (e + 1) (wordE l (opF l f) 8 48) 0 0 = rsG ss fs l e (wordE l (opF l f) 8 48) n p s q) → Wp G d 128 116 [some (vR (some w)), some (vR (some r)), some (vI (f : Nat)), some (vI (e : Nat)), some (vI (b2i (opB l f))), some (vI (opF l f : Nat)), some (vI (p : Nat)), some (vJ (srN l f)), none, some (vI (s : Nat)), some (vI (q : Nat)), some (vI ((wordE l (opF l f) 8 48) : Nat)), none, none, none, none] [] h Q := by
                intro m116
                induction m116 using Nat.strongRecOn with | ind m116 IH116 => ?_
                intro n p s q hm116 k1 k2 k3
                refine w_iload d128_116 rfl ?_
                refine w_iload_n d128_118 rfl ?_
                refine w_icmpge d128_119 (fun c119 => ?_) (fun c119 => ?_)
                · rw [rsG_end (n := n) (p := p) (e := e) (by omega)] at k3
                  refine w_aload_n d128_265 rfl ?_
                  refine w_dloadS d128_266 (ok.kd hw) (fr1159 ok hw) ?_
                  refine w_aload_n d128_269 rfl ?_
                  refine w_getI (x := ((ss.length : Nat) : Int)) d128_270 (ok.kd hw) q1 ?_
                  refine w_lload d128_273 rfl ?_
                  refine wa1159 d128_275 ok hw (by omega) (fun h275 e275 m275 => ?_)
                  have e275 : h275 = sAL h (sT S 1159 w) ss.length (srN l f) := e275
                  have ok275 := m275.ok
                  have M275 := Mo.tr ok (Mo.refl (A := (fun x => x = w ∨ x = (sT S 1159 w) ∨ x = (sT S 1160 w) ∨ x = (sT S 1161 w))) ok) m275 (fun x e => (Or.inr (Or.inl e)))
                  refine w_aload_n d128_276 rfl ?_
                  refine w_dloadS d128_277 (ok275.kd hw) (fr1160 ok275 hw) ?_
                  refine w_aload_n d128_280 rfl ?_
                  refine w_getI (x := ((ss.length : Nat) : Int)) d128_281 (ok275.kd hw) ((m275.fi ok (by omega) nw9 1162).trans q1) ?_
                  refine w_iload d128_284 rfl ?_
                  refine w_iload d128_286 rfl ?_
                  refine w_iadd d128_288 (by constructor <;> omega) ?_
                  rw [show ((s : Nat) : Int) + ((q : Nat) : Int) = ((s + q : Nat) : Int) by omega]
                  refine w_sipush d128_289 (by decide) ?_
                  refine w_irem d128_292 (by decide) ?_
                  rw [show ((s + q : Nat) : Int).tmod 10000 = (((s + q) % 10000 : Nat) : Int) from rfl]
                  refine wa1160 d128_293 ok275 hw (by omega) (by omega) (fun h293 e293 m293 => ?_)
                  have e293 : h293 = sAI h275 (sT S 1160 w) ss.length (((s + q) % 10000 : Nat) : Int) := e293
                  have ok293 := m293.ok
                  have M293 := Mo.tr ok M275 m293 (fun x e => (Or.inr (Or.inr (Or.inl e))))
                  refine w_aload_n d128_294 rfl ?_
                  refine w_dloadS d128_295 (ok293.kd hw) (fr1161 ok293 hw) ?_
                  refine w_aload_n d128_298 rfl ?_
                  refine w_getI (x := ((ss.length : Nat) : Int)) d128_299 (ok293.kd hw) ((m293.fi ok275 (by omega) nw0 1162).trans ((m275.fi ok (by omega) nw9 1162).trans q1)) ?_
                  refine w_iload d128_302 rfl ?_
                  refine wa1161 d128_304 ok293 hw (by omega) (b2i_01 _) (fun h304 e304 m304 => ?_)
                  have e304 : h304 = sAI h293 (sT S 1161 w) ss.length (b2i (opB l f)) := e304
                  have ok304 := m304.ok
                  have M304 := Mo.tr ok M293 m304 (fun x e => (Or.inr (Or.inr (Or.inr e))))
                  refine w_aload_n d128_305 rfl ?_
                  refine w_dupR d128_306 ?_
                  refine w_getI (x := ((ss.length : Nat) : Int)) d128_307 (ok304.kd hw) ((m304.fi ok293 (by omega) nw1 1162).trans ((m293.fi ok275 (by omega) nw0 1162).trans ((m275.fi ok (by omega) nw9 1162).trans q1))) ?_
                  refine w_iconst d128_310 (by decide) ?_
                  refine w_iadd d128_311 (by constructor <;> omega) ?_
                  refine wf1162 d128_312 ok304 hw (by omega) (fun h312 e312 m312 => ?_)
                  have ok312 := m312.ok
                  have M312 := Mo.tr ok M304 m312 (fun x e => (Or.inl e))
                  refine w_iconst d128_315 (by decide) ?_
                  refine w_zreturn d128_316 (by decide) ?_
                  have rz : srR l f e ss fs = (true, ss ++ [(srN l f, (s + q) % 10000, opB l f)]) := by
                    unfold srR
                    rw [if_neg hne, if_neg nbc, k3]
                  rw [rz] at kk
                  have eL : (ss ++ [(srN l f, (s + q) % 10000, opB l f)]).length = ss.length + 1 := by simp
                  refine kk h312 M312 ⟨by rw [e312, FI_sFI, if_pos ⟨rfl, rfl⟩]; show _ = (((ss ++ [(srN l f, (s + q) % 10000, opB l f)]).length : Nat) : Int); rw [eL]; first | done | rfl, by show (ss ++ [(srN l f, (s + q) % 10000, opB l f)]).length ≤ 246; omega, fun i hi => ?_⟩ (fun fs D => (((D.f ok m275 hw (Or.inl nw9) (ok.so.ou (by decide) (by decide) (Or.inl (by decide))) (ok.so.ou (by decide) (by decide) (Or.inl (by decide)))).f ok275 m293 hw (Or.inl nw0) (ok.so.ou (by decide) (by decide) (Or.inl (by decide))) (ok.so.ou (by decide) (by decide) (Or.inl (by decide)))).f ok293 m304 hw (Or.inl nw1) (ok.so.ou (by decide) (by decide) (Or.inl (by decide))) (ok.so.ou (by decide) (by decide) (Or.inl (by decide)))).f ok304 m312 hw (Or.inr (by rw [e312, FI_sFI, if_neg (fun z => absurd z.1 (by decide))])) (fun z => ok.so.pT (by decide) z) (fun z => ok.so.pT (by decide) z))
                  change i < (ss ++ [(srN l f, (s + q) % 10000, opB l f)]).length at hi
                  rw [eL] at hi
                  show _ = sN (ss ++ [(srN l f, (s + q) % 10000, opB l f)]) i ∧ _ = ((sV (ss ++ [(srN l f, (s + q) % 10000, opB l f)]) i : Nat) : Int) ∧ _ = b2i (sO (ss ++ [(srN l f, (s + q) % 10000, opB l f)]) i) ∧ sV (ss ++ [(srN l f, (s + q) % 10000, opB l f)]) i ≤ 9999
                  unfold sN sV sO
                  rw [getD_snoc]
                  have e1 : AL h312 (sT S 1159 w) i = if i = ss.length then srN l f else AL h (sT S 1159 w) i := by
                    rw [e312]
                    show AL h304 _ i = _
                    rw [m304.al ok293 (by omega) n91, m293.al ok275 (by omega) n90, e275, AL_sAL]
                    by_cases z : i = ss.length
                    · rw [if_pos ⟨rfl, z⟩, if_pos z]
                    · rw [if_neg (fun y => z y.2), if_neg z]
                  have e2 : AI h312 (sT S 1160 w) i = if i = ss.length then (((s + q) % 10000 : Nat) : Int) else AI h (sT S 1160 w) i := by
                    rw [e312]
                    show AI h304 _ i = _
                    rw [m304.ai ok293 ⟨by omega, by omega⟩ n01, e293, sArr, m275.ai ok ⟨by omega, by omega⟩ (Ne.symm n90)]
                  have e3 : AI h312 (sT S 1161 w) i = if i = ss.length then b2i (opB l f) else AI h (sT S 1161 w) i := by
                    rw [e312]
                    show AI h304 _ i = _
                    rw [e304, sArr, m293.ai ok275 ⟨by omega, by omega⟩ (Ne.symm n01), m275.ai ok ⟨by omega, by omega⟩ (Ne.symm n91)]
                  rw [e1, e2, e3]
                  by_cases z : i = ss.length
                  · rw [if_pos z, if_pos z, if_pos z, if_pos z]; exact ⟨rfl, rfl, rfl, by show (s + q) % 10000 ≤ 9999; omega⟩
                  · rw [if_neg z, if_neg z, if_neg z, if_neg z]; exact q3 i (by omega)
                · have lp : p + 1 ≤ l.length := by omega
                  have nr := numE_rg (l := l) (a := p + 1) lp
                  have nv := numS_le (l := l) (p := p) (b := 0) lp
                  have wr := wordE_rg (l := l) (a := p + 1) (m := 8) (lo := 48) lp
                  refine w_aload_n d128_122 rfl ?_
                  refine w_iload d128_123 rfl ?_
                  refine w_callv2 d128_125 (by omega) rfl (ok.kd hr) (by simp) (Nat.le_of_ble_eq_true rfl) ?_
                  refine r_Row_at ok hr ?_
                  rw [hl]
                  refine w_istore12 d128_128 rfl ?_
                  refine w_iload d128_130 rfl ?_
                  refine w_iconst d128_132 (by decide) ?_
                  refine w_iadd d128_133 (by constructor <;> omega) ?_
                  rw [show ((p : Nat) : Int) + 1 = ((p + 1 : Nat) : Int) by omega]
                  refine w_istore13 d128_134 rfl ?_
                  refine w_aload_n d128_136 rfl ?_
                  refine w_iload d128_137 rfl ?_
                  refine w_callv2 d128_139 (by omega) rfl (ok.kd hr) (by simp) (Nat.le_of_ble_eq_true rfl) ?_
                  refine r_Row_numberEnd (by omega) ok hr (by omega) ?_
                  rw [hl]
                  refine w_istore14 d128_142 rfl ?_
                  refine w_aload_n d128_144 rfl ?_
                  refine w_iload d128_145 rfl ?_
                  refine w_iload d128_147 rfl ?_
                  refine w_callv3 d128_149 (by omega) rfl (ok.kd hr) (by simp) (Nat.le_of_ble_eq_true rfl) ?_
                  refine r_Row_numberIn (by omega) ok hr ⟨by omega, by rw [hl]; omega, by omega⟩ (fun i i1 i2 => by rw [hl]; exact numE_all i1 i2) ?_
                  rw [hl]
                  have L187 : ∀ (m187 : Nat) , 0 = m187 → Wp G d 128 187 [some (vR (some w)), some (vR (some r)), some (vI (f : Nat)), some (vI (e : Nat)), some (vI (b2i (opB l f))), some (vI (opF l f : Nat)), some (vI (p : Nat)), some (vJ (srN l f)), none, some (vI (s : Nat)), some (vI (q : Nat)), some (vI ((wordE l (opF l f) 8 48) : Nat)), some (vI (atv l (p : Nat))), some (vI (p + 1 : Nat)), some (vI (rsA l p : Nat)), some (vI (rsX ss fs l p))] [] h Q := by
                    intro m187
                    induction m187 using Nat.strongRecOn with | ind m187 IH187 => ?_
                    intro  hm187 
                    have ra : p + 1 ≤ rsA l p ∧ rsA l p ≤ l.length := by unfold rsA; split <;> omega
                    have rx : -1 ≤ rsX ss fs l p ∧ rsX ss fs l p ≤ 9999 := by
                      have v := vOf_rg (ss := ss) (fs := fs) (fun i hi => (q3 i hi).2.2.2) (fun i hi => (r3 i hi).2.2) (nameV l (p + 1) (wordE l (p + 1) 8 48))
                      unfold rsX
                      split <;> omega
                    refine w_iload d128_187 rfl ?_
                    refine w_iload d128_189 rfl ?_
                    refine w_icmpeq d128_191 (fun c191 => ?_) (fun c191 => ?_)
                    · have bl : rsA l p = p + 1 ∨ rsX ss fs l p < 0 ∨ (p ≠ wordE l (opF l f) 8 48 ∧ atv l (p : Nat) ≠ 43 ∧ atv l (p : Nat) ≠ 42) := by first | exact Or.inl (by omega) | exact Or.inr (Or.inl (by omega)) | exact Or.inr (Or.inr ⟨by omega, c210, c217⟩)
                      refine w_iconst d128_220 (by decide) ?_
                      refine w_zreturn d128_221 (by decide) ?_
                      rw [rsG_bad (by omega) bl] at k3
                      have rz : srR l f e ss fs = (false, ss) := by
                        unfold srR
                        rw [if_neg hne, if_neg nbc, k3]
                      rw [rz] at kk
                      exact kk h (Mo.refl ok) sc (fun fs D => D)
                    · refine w_iload d128_194 rfl ?_
                      refine w_iflt d128_196 (fun c196 => ?_) (fun c196 => ?_)
                      · have bl : rsA l p = p + 1 ∨ rsX ss fs l p < 0 ∨ (p ≠ wordE l (opF l f) 8 48 ∧ atv l (p : Nat) ≠ 43 ∧ atv l (p : Nat) ≠ 42) := by first | exact Or.inl (by omega) | exact Or.inr (Or.inl (by omega)) | exact Or.inr (Or.inr ⟨by omega, c210, c217⟩)
                        refine w_iconst d128_220 (by decide) ?_
                        refine w_zreturn d128_221 (by decide) ?_
                        rw [rsG_bad (by omega) bl] at k3
                        have rz : srR l f e ss fs = (false, ss) := by
                          unfold srR
                          rw [if_neg hne, if_neg nbc, k3]
                        rw [rz] at kk
                        exact kk h (Mo.refl ok) sc (fun fs D => D)
                      · obtain ⟨v, hv⟩ : ∃ v : Nat, rsX ss fs l p = v := ⟨(rsX ss fs l p).toNat, (Int.toNat_of_nonneg (by omega)).symm⟩
                        have hv2 : (rsX ss fs l p).toNat = v := by omega
                        refine w_iload d128_199 rfl ?_
                        refine w_iload d128_201 rfl ?_
                        refine w_icmpeq d128_203 (fun c203 => ?_) (fun c203 => ?_)
                        · have gl : ¬ (rsA l p = p + 1 ∨ rsX ss fs l p < 0 ∨ (p ≠ wordE l (opF l f) 8 48 ∧ atv l (p : Nat) ≠ 43 ∧ atv l (p : Nat) ≠ 42)) := fun z => by rcases z with z | z | ⟨z1, z2, z3⟩; omega; omega; first | omega | exact z2 c210 | exact z3 c217
                          refine w_iload d128_222 rfl ?_
                          refine w_bipush d128_224 (by decide) ?_
                          refine w_icmpne d128_226 (fun c226 => ?_) (fun c226 => ?_)
                          · refine w_iload d128_243 rfl ?_
                            refine w_iload d128_245 rfl ?_
                            refine w_iadd d128_247 (by constructor <;> omega) ?_
                            rw [show ((s : Nat) : Int) + ((q : Nat) : Int) = ((s + q : Nat) : Int) by omega]
                            refine w_sipush d128_248 (by decide) ?_
                            refine w_irem d128_251 (by decide) ?_
                            rw [show ((s + q : Nat) : Int).tmod 10000 = (((s + q) % 10000 : Nat) : Int) from rfl]
                            refine w_istore9 d128_252 rfl ?_
                            refine w_iload d128_254 rfl ?_
                            rw [show rsX ss fs l p = (((rsX ss fs l p).toNat : Nat) : Int) by omega]
                            refine w_istore10 d128_256 rfl ?_
                            refine w_iload d128_258 rfl ?_
                            refine w_istore6 d128_260 rfl ?_
                            refine w_goto d128_262 ?_
                            refine w_less ?_ (IH116 _ (by omega) (n - 1) (rsA l p) ((s + q) % 10000) (rsX ss fs l p).toNat rfl ⟨by omega, by omega⟩ ⟨by omega, by omega⟩ (k3.trans (rsG_add (by omega) (by omega) gl c226)))
                            exact ⟨Or.inr rfl, Or.inr rfl, Or.inr rfl, Or.inr rfl, Or.inr rfl, Or.inr rfl, Or.inr rfl, Or.inr rfl, Or.inl rfl, Or.inr rfl, Or.inr rfl, Or.inr rfl, Or.inl rfl, Or.inl rfl, Or.inl rfl, Or.inl rfl, trivial⟩
                          · refine w_iload d128_229 rfl ?_
                            refine w_iload d128_231 rfl ?_
                            refine w_imul d128_233 (by have b := Nat.mul_le_mul k2.2 (show v ≤ 9999 by omega); rw [hv]; constructor <;> (have e := Int.natCast_mul q v; omega)) ?_
                            rw [hv, show ((q : Nat) : Int) * ((v : Nat) : Int) = ((q * v : Nat) : Int) by rw [Int.natCast_mul]]
                            refine w_sipush d128_234 (by decide) ?_
                            refine w_irem d128_237 (by decide) ?_
                            rw [show ((q * v : Nat) : Int).tmod 10000 = ((q * (rsX ss fs l p).toNat % 10000 : Nat) : Int) by rw [hv2]; rfl]
                            refine w_istore10 d128_238 rfl ?_
                            refine w_goto d128_240 ?_
                            refine w_iload d128_258 rfl ?_
                            refine w_istore6 d128_260 rfl ?_
                            refine w_goto d128_262 ?_
                            refine w_less ?_ (IH116 _ (by omega) (n - 1) (rsA l p) s (q * (rsX ss fs l p).toNat % 10000) rfl ⟨by omega, by omega⟩ ⟨by omega, by omega⟩ (k3.trans (rsG_mul (by omega) (by omega) gl c226)))
                            exact ⟨Or.inr rfl, Or.inr rfl, Or.inr rfl, Or.inr rfl, Or.inr rfl, Or.inr rfl, Or.inr rfl, Or.inr rfl, Or.inl rfl, Or.inr rfl, Or.inr rfl, Or.inr rfl, Or.inl rfl, Or.inl rfl, Or.inl rfl, Or.inl rfl, trivial⟩
                        · refine w_iload d128_206 rfl ?_
                          refine w_bipush d128_208 (by decide) ?_
                          refine w_icmpeq d128_210 (fun c210 => ?_) (fun c210 => ?_)
                          · have gl : ¬ (rsA l p = p + 1 ∨ rsX ss fs l p < 0 ∨ (p ≠ wordE l (opF l f) 8 48 ∧ atv l (p : Nat) ≠ 43 ∧ atv l (p : Nat) ≠ 42)) := fun z => by rcases z with z | z | ⟨z1, z2, z3⟩; omega; omega; first | omega | exact z2 c210 | exact z3 c217
                            refine w_iload d128_222 rfl ?_
                            refine w_bipush d128_224 (by decide) ?_
                            refine w_icmpne d128_226 (fun c226 => ?_) (fun c226 => ?_)
                            · refine w_iload d128_243 rfl ?_
                              refine w_iload d128_245 rfl ?_
                              refine w_iadd d128_247 (by constructor <;> omega) ?_
                              rw [show ((s : Nat) : Int) + ((q : Nat) : Int) = ((s + q : Nat) : Int) by omega]
                              refine w_sipush d128_248 (by decide) ?_
                              refine w_irem d128_251 (by decide) ?_
                              rw [show ((s + q : Nat) : Int).tmod 10000 = (((s + q) % 10000 : Nat) : Int) from rfl]
                              refine w_istore9 d128_252 rfl ?_
                              refine w_iload d128_254 rfl ?_
                              rw [show rsX ss fs l p = (((rsX ss fs l p).toNat : Nat) : Int) by omega]
                              refine w_istore10 d128_256 rfl ?_
                              refine w_iload d128_258 rfl ?_
                              refine w_istore6 d128_260 rfl ?_
                              refine w_goto d128_262 ?_
                              refine w_less ?_ (IH116 _ (by omega) (n - 1) (rsA l p) ((s + q) % 10000) (rsX ss fs l p).toNat rfl ⟨by omega, by omega⟩ ⟨by omega, by omega⟩ (k3.trans (rsG_add (by omega) (by omega) gl c226)))
                              exact ⟨Or.inr rfl, Or.inr rfl, Or.inr rfl, Or.inr rfl, Or.inr rfl, Or.inr rfl, Or.inr rfl, Or.inr rfl, Or.inl rfl, Or.inr rfl, Or.inr rfl, Or.inr rfl, Or.inl rfl, Or.inl rfl, Or.inl rfl, Or.inl rfl, trivial⟩
                            · refine w_iload d128_229 rfl ?_
                              refine w_iload d128_231 rfl ?_
                              refine w_imul d128_233 (by have b := Nat.mul_le_mul k2.2 (show v ≤ 9999 by omega); rw [hv]; constructor <;> (have e := Int.natCast_mul q v; omega)) ?_
                              rw [hv, show ((q : Nat) : Int) * ((v : Nat) : Int) = ((q * v : Nat) : Int) by rw [Int.natCast_mul]]
                              refine w_sipush d128_234 (by decide) ?_
                              refine w_irem d128_237 (by decide) ?_
                              rw [show ((q * v : Nat) : Int).tmod 10000 = ((q * (rsX ss fs l p).toNat % 10000 : Nat) : Int) by rw [hv2]; rfl]
                              refine w_istore10 d128_238 rfl ?_
                              refine w_goto d128_240 ?_
                              refine w_iload d128_258 rfl ?_
                              refine w_istore6 d128_260 rfl ?_
                              refine w_goto d128_262 ?_
                              refine w_less ?_ (IH116 _ (by omega) (n - 1) (rsA l p) s (q * (rsX ss fs l p).toNat % 10000) rfl ⟨by omega, by omega⟩ ⟨by omega, by omega⟩ (k3.trans (rsG_mul (by omega) (by omega) gl c226)))
                              exact ⟨Or.inr rfl, Or.inr rfl, Or.inr rfl, Or.inr rfl, Or.inr rfl, Or.inr rfl, Or.inr rfl, Or.inr rfl, Or.inl rfl, Or.inr rfl, Or.inr rfl, Or.inr rfl, Or.inl rfl, Or.inl rfl, Or.inl rfl, Or.inl rfl, trivial⟩
                          · refine w_iload d128_213 rfl ?_
                            refine w_bipush d128_215 (by decide) ?_
                            refine w_icmpeq d128_217 (fun c217 => ?_) (fun c217 => ?_)
                            · have gl : ¬ (rsA l p = p + 1 ∨ rsX ss fs l p < 0 ∨ (p ≠ wordE l (opF l f) 8 48 ∧ atv l (p : Nat) ≠ 43 ∧ atv l (p : Nat) ≠ 42)) := fun z => by rcases z with z | z | ⟨z1, z2, z3⟩; omega; omega; first | omega | exact z2 c210 | exact z3 c217
                              refine w_iload d128_222 rfl ?_
                              refine w_bipush d128_224 (by decide) ?_
                              refine w_icmpne d128_226 (fun c226 => ?_) (fun c226 => ?_)
                              · refine w_iload d128_243 rfl ?_
                                refine w_iload d128_245 rfl ?_
                                refine w_iadd d128_247 (by constructor <;> omega) ?_
                                rw [show ((s : Nat) : Int) + ((q : Nat) : Int) = ((s + q : Nat) : Int) by omega]
                                refine w_sipush d128_248 (by decide) ?_
                                refine w_irem d128_251 (by decide) ?_
                                rw [show ((s + q : Nat) : Int).tmod 10000 = (((s + q) % 10000 : Nat) : Int) from rfl]
                                refine w_istore9 d128_252 rfl ?_
                                refine w_iload d128_254 rfl ?_
                                rw [show rsX ss fs l p = (((rsX ss fs l p).toNat : Nat) : Int) by omega]
                                refine w_istore10 d128_256 rfl ?_
                                refine w_iload d128_258 rfl ?_
                                refine w_istore6 d128_260 rfl ?_
                                refine w_goto d128_262 ?_
                                refine w_less ?_ (IH116 _ (by omega) (n - 1) (rsA l p) ((s + q) % 10000) (rsX ss fs l p).toNat rfl ⟨by omega, by omega⟩ ⟨by omega, by omega⟩ (k3.trans (rsG_add (by omega) (by omega) gl c226)))
                                exact ⟨Or.inr rfl, Or.inr rfl, Or.inr rfl, Or.inr rfl, Or.inr rfl, Or.inr rfl, Or.inr rfl, Or.inr rfl, Or.inl rfl, Or.inr rfl, Or.inr rfl, Or.inr rfl, Or.inl rfl, Or.inl rfl, Or.inl rfl, Or.inl rfl, trivial⟩
                              · refine w_iload d128_229 rfl ?_
                                refine w_iload d128_231 rfl ?_
                                refine w_imul d128_233 (by have b := Nat.mul_le_mul k2.2 (show v ≤ 9999 by omega); rw [hv]; constructor <;> (have e := Int.natCast_mul q v; omega)) ?_
                                rw [hv, show ((q : Nat) : Int) * ((v : Nat) : Int) = ((q * v : Nat) : Int) by rw [Int.natCast_mul]]
                                refine w_sipush d128_234 (by decide) ?_
                                refine w_irem d128_237 (by decide) ?_
                                rw [show ((q * v : Nat) : Int).tmod 10000 = ((q * (rsX ss fs l p).toNat % 10000 : Nat) : Int) by rw [hv2]; rfl]
                                refine w_istore10 d128_238 rfl ?_
                                refine w_goto d128_240 ?_
                                refine w_iload d128_258 rfl ?_
                                refine w_istore6 d128_260 rfl ?_
                                refine w_goto d128_262 ?_
                                refine w_less ?_ (IH116 _ (by omega) (n - 1) (rsA l p) s (q * (rsX ss fs l p).toNat % 10000) rfl ⟨by omega, by omega⟩ ⟨by omega, by omega⟩ (k3.trans (rsG_mul (by omega) (by omega) gl c226)))
                                exact ⟨Or.inr rfl, Or.inr rfl, Or.inr rfl, Or.inr rfl, Or.inr rfl, Or.inr rfl, Or.inr rfl, Or.inr rfl, Or.inl rfl, Or.inr rfl, Or.inr rfl, Or.inr rfl, Or.inl rfl, Or.inl rfl, Or.inl rfl, Or.inl rfl, trivial⟩
                            · have bl : rsA l p = p + 1 ∨ rsX ss fs l p < 0 ∨ (p ≠ wordE l (opF l f) 8 48 ∧ atv l (p : Nat) ≠ 43 ∧ atv l (p : Nat) ≠ 42) := by first | exact Or.inl (by omega) | exact Or.inr (Or.inl (by omega)) | exact Or.inr (Or.inr ⟨by omega, c210, c217⟩)
                              refine w_iconst d128_220 (by decide) ?_
                              refine w_zreturn d128_221 (by decide) ?_
                              rw [rsG_bad (by omega) bl] at k3
                              have rz : srR l f e ss fs = (false, ss) := by
                                unfold srR
                                rw [if_neg hne, if_neg nbc, k3]
                              rw [rz] at kk
                              exact kk h (Mo.refl ok) sc (fun fs D => D)
                  refine w_istore15 d128_152 rfl ?_
                  refine w_iload d128_154 rfl ?_
                  refine w_iload d128_156 rfl ?_
                  refine w_icmpne d128_158 (fun c158 => ?_) (fun c158 => ?_)
                  · have ne : ¬ numE l (p + 1) = p + 1 := by omega
                    have ea : rsA l p = numE l (p + 1) := by unfold rsA; rw [if_neg ne]
                    have ex : rsX ss fs l p = ((numV (sl l (p + 1) (numE l (p + 1))) : Nat) : Int) := by unfold rsX; rw [if_neg ne]
                    rw [← ex, ← ea]
                    refine w_less ?_ (L187 _  rfl )
                    exact ⟨Or.inr rfl, Or.inr rfl, Or.inr rfl, Or.inr rfl, Or.inr rfl, Or.inr rfl, Or.inr rfl, Or.inr rfl, Or.inl rfl, Or.inr rfl, Or.inr rfl, Or.inr rfl, Or.inr rfl, Or.inr rfl, Or.inr rfl, Or.inr rfl, trivial⟩
                  · have ne : numE l (p + 1) = p + 1 := by omega
                    refine w_aload_n d128_161 rfl ?_
                    refine w_iload d128_162 rfl ?_
                    refine w_bipush d128_164 (by decide) ?_
                    refine w_bipush d128_166 (by decide) ?_
                    refine w_callv4 d128_168 (by omega) rfl (ok.kd hr) (by simp) (Nat.le_of_ble_eq_true rfl) ?_
                    refine r_Row_wordEnd (most := 8) (lo := 48) (by omega) ok hr ⟨by omega, by decide, by decide, by decide⟩ ?_
                    rw [hl]
                    refine w_istore14 d128_171 rfl ?_
                    refine w_aload_n d128_173 rfl ?_
                    refine w_aload_n d128_174 rfl ?_
                    refine w_iload d128_175 rfl ?_
                    refine w_iload d128_177 rfl ?_
                    refine w_callv3 d128_179 (by omega) rfl (ok.kd hr) (by simp) (Nat.le_of_ble_eq_true rfl) ?_
                    refine r_Row_nameIn ok hr ⟨by omega, by rw [hl]; omega⟩ ?_
                    rw [hl]
                    refine w_callv2 d128_182 (by omega) rfl (ok.kd hw) (by simp) (Nat.le_of_ble_eq_true rfl) ?_
                    refine k_Wk_valueOf ok (by omega) hw sc fc ?_
                    refine w_istore15 d128_185 rfl ?_
                    have ea : rsA l p = wordE l (p + 1) 8 48 := by unfold rsA; rw [if_pos ne]
                    have ex : rsX ss fs l p = vOf ss fs (nameV l (p + 1) (wordE l (p + 1) 8 48)) := by unfold rsX; rw [if_pos ne]
                    rw [← ex, ← ea]
                    refine w_less ?_ (L187 _  rfl )
                    exact ⟨Or.inr rfl, Or.inr rfl, Or.inr rfl, Or.inr rfl, Or.inr rfl, Or.inr rfl, Or.inr rfl, Or.inr rfl, Or.inl rfl, Or.inr rfl, Or.inr rfl, Or.inr rfl, Or.inr rfl, Or.inr rfl, Or.inr rfl, Or.inr rfl, trivial⟩
              refine w_less ?_ (L116 _ (e + 1) (wordE l (opF l f) 8 48) 0 0 rfl ⟨by omega, by omega⟩ ⟨by omega, by omega⟩ rfl)
              exact ⟨Or.inr rfl, Or.inr rfl, Or.inr rfl, Or.inr rfl, Or.inr rfl, Or.inr rfl, Or.inr rfl, Or.inr rfl, Or.inl rfl, Or.inr rfl, Or.inr rfl, Or.inr rfl, Or.inl rfl, Or.inl rfl, Or.inl rfl, Or.inl rfl, trivial⟩
            · have bc : wordE l (opF l f) 8 48 = opF l f ∨ atv l (wordE l (opF l f) 8 48 : Nat) ≠ 61 ∨ 0 ≤ sAt ss (srN l f) ∨ 246 ≤ ss.length := by first | exact Or.inl (by omega) | exact Or.inr (Or.inl c80) | exact Or.inr (Or.inr (Or.inl (by omega))) | exact Or.inr (Or.inr (Or.inr (by omega)))
              refine w_iconst d128_104 (by decide) ?_
              refine w_zreturn d128_105 (by decide) ?_
              have rz : srR l f e ss fs = (false, ss) := by
                unfold srR
                rw [if_neg hne, if_pos bc]
              rw [rz] at kk
              exact kk h (Mo.refl ok) sc (fun fs D => D)
    refine w_lcmp d128_18 ?_
    refine w_ifne d128_19 (fun c19 => ?_) (fun c19 => ?_)
    · have ob : opB l f = false := decide_eq_false (fun z => c19 (lcmp0.mpr z))
      refine w_iconst d128_26 (by decide) ?_
      refine w_istore4 d128_27 rfl ?_
      refine w_iload d128_29 rfl ?_
      refine w_ifeq d128_31 (fun c31 => ?_) (fun c31 => ?_)
      · refine w_iload_n d128_40 rfl ?_
        refine w_istore5 d128_41 rfl ?_
        refine w_less ?_ (L43 _  rfl )
        rw [show b2i (opB l f) = 0 by rw [ob]; rfl, show ((opF l f : Nat) : Int) = ((f : Nat) : Int) by unfold opF; rw [if_neg (by rw [ob]; decide)]; first | done | rfl | omega]
        exact ⟨Or.inr rfl, Or.inr rfl, Or.inr rfl, Or.inr rfl, Or.inr rfl, Or.inr rfl, Or.inl rfl, Or.inl rfl, Or.inl rfl, Or.inl rfl, Or.inl rfl, Or.inl rfl, Or.inl rfl, Or.inl rfl, Or.inl rfl, Or.inl rfl, trivial⟩
      · exact absurd rfl c31
    · have ob : opB l f = true := decide_eq_true (lcmp0.mp c19)
      refine w_iconst d128_22 (by decide) ?_
      refine w_goto d128_23 ?_
      refine w_istore4 d128_27 rfl ?_
      refine w_iload d128_29 rfl ?_
      refine w_ifeq d128_31 (fun c31 => ?_) (fun c31 => ?_)
      · exact absurd c31 (by decide)
      · refine w_iload_n d128_34 rfl ?_
        refine w_iconst d128_35 (by decide) ?_
        refine w_iadd d128_36 (by constructor <;> omega) ?_
        refine w_goto d128_37 ?_
        refine w_istore5 d128_41 rfl ?_
        refine w_less ?_ (L43 _  rfl )
        rw [show b2i (opB l f) = 1 by rw [ob]; rfl, show ((opF l f : Nat) : Int) = ((f : Nat) : Int) + 4 by unfold opF; rw [if_pos ob]; first | done | rfl | omega]
        exact ⟨Or.inr rfl, Or.inr rfl, Or.inr rfl, Or.inr rfl, Or.inr rfl, Or.inr rfl, Or.inl rfl, Or.inl rfl, Or.inl rfl, Or.inl rfl, Or.inl rfl, Or.inl rfl, Or.inl rfl, Or.inl rfl, Or.inl rfl, Or.inl rfl, trivial⟩
  · have he : f = e := by omega
    have rz : srR l f e ss fs = (true, ss) := by unfold srR; rw [if_pos he]
    rw [rz] at kk
    refine w_iconst d128_5 (by decide) ?_
    refine w_zreturn d128_6 (by decide) ?_
    exact kk h (Mo.refl ok) sc (fun fs D => D)
