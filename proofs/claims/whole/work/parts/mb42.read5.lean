/-! the reference: versions and trees of a request -/
/-- right up to a place, or wrong there -/
def wOf (b : Bool) (e : Nat) : Int := if b = true then -1 else (e : Int)
theorem sgn_h {l : List Nat} {c a : Nat} : pSign l c a = true ↔ bHe l a = ((c : Nat) : Int) := by
  unfold pSign bHe
  rw [decide_eq_true_iff]
  constructor
  · intro q; rw [if_pos q.1, q.2]
  · intro q
    by_cases z : a < l.length
    · rw [if_pos z] at q; exact ⟨z, by omega⟩
    · rw [if_neg z] at q; omega
theorem sgn_n {l : List Nat} {c a : Nat} (h : ¬ bHe l a = ((c : Nat) : Int)) : pSign l c a = false := by
  cases hz : pSign l c a with
  | false => rfl
  | true => exact absurd (sgn_h.mp hz) h
theorem rxp_y {l : List Nat} {c a : Nat} (h : pSign l c a = true) : rxp l c a (-1) = (a + 1, -1) := by
  unfold rxp
  rw [if_neg (by decide), if_pos (sgn_h.mp h)]
theorem rxp_n {l : List Nat} {c a : Nat} (h : pSign l c a = false) : rxp l c a (-1) = (a, (a : Int)) := by
  unfold rxp
  rw [if_neg (by decide), if_neg (fun z => by rw [sgn_h.mpr z] at h; exact absurd h (by decide))]
theorem dig_h {l : List Nat} {a : Nat} : pDig l a = true ↔ 48 ≤ bHe l a ∧ bHe l a ≤ 57 := by
  unfold pDig bHe
  rw [decide_eq_true_iff]
  constructor
  · intro q; rw [if_pos q.1]; omega
  · intro q
    by_cases z : a < l.length
    · rw [if_pos z] at q; exact ⟨z, by omega, by omega⟩
    · rw [if_neg z] at q; omega
theorem dig_n {l : List Nat} {a : Nat} (h : ¬ (48 ≤ bHe l a ∧ bHe l a ≤ 57)) : pDig l a = false := by
  cases hz : pDig l a with
  | false => rfl
  | true => exact absurd (dig_h.mp hz) h
/-- a list in an array -/
def LsA (S : Shp) (h : Hp) (m f : Nat) (xs : List Nat) : Prop := ArI S h m f (fun j => ((xs.getD j 0 : Nat) : Int)) xs.length
theorem LsA.r {S : Shp} {m f : Nat} {xs : List Nat} {F : List Nat} {h h' : Hp} (D : LsA S h m f xs) (fr : Fr S m F h h') (hm : sK S m = 14) (h1 : f ∉ F ∧ ltF4 F ∧ (fk f = 40 ∨ fk f = 42) ∧ kFld f = 14 ∧ f < 4096 := by decide) : LsA S h' m f xs := ArI.r D fr hm h1
theorem LsA.w {S : Shp} {h h' : Hp} {m f x i : Nat} {xs : List Nat} (D : LsA S h m f xs) (hi : xs.length = i) (e : h' = sAI h (sT S f m) i ((x : Nat) : Int)) : LsA S h' m f (xs ++ [x]) := fun j hj => by
  rw [List.length_append] at hj
  have hj2 : j < xs.length + 1 := hj
  show AI h' (sT S f m) j = (((xs ++ [x]).getD j 0 : Nat) : Int)
  rw [e, sArr, List.getD_eq_getElem?_getD]
  by_cases q : j = i
  · rw [if_pos q, q, ← hi, List.getElem?_append_right (Nat.le_refl _), Nat.sub_self]; rfl
  · rw [if_neg q, List.getElem?_append_left (by omega), ← List.getD_eq_getElem?_getD]
    exact D j (by omega)
theorem LsA.nil {S : Shp} {h : Hp} {m f : Nat} : LsA S h m f [] := fun j hj => absurd hj (Nat.not_lt_zero _)
/-- a blank, and versions behind it -/
def vrA (l : List Nat) (f p : Nat) : Bool × Nat × List Nat := if pSign l 32 p = true then pVer l f (p + 1) else (false, p, [])
def vcat (xs : List Nat) (v : Bool × Nat × List Nat) : Bool × Nat × List Nat := (v.1, v.2.1, xs ++ v.2.2)
theorem vcat_nil {v : Bool × Nat × List Nat} : vcat [] v = v := rfl
theorem vrA_no {l : List Nat} {f p : Nat} (h : pSign l 32 p = false) : vrA l f p = (false, p, []) := by
  unfold vrA
  rw [h]
  rfl
theorem vrA_bad {l : List Nat} {f p : Nat} (hf : 0 < f) (h : pSign l 32 p = true) (h2 : ¬ (bHe l (p + 1) = 45 ∨ 49 ≤ bHe l (p + 1) ∧ bHe l (p + 1) ≤ 51)) : vrA l f p = (false, p + 1, []) := by
  obtain ⟨f, rfl⟩ : ∃ k, f = k + 1 := ⟨f - 1, by omega⟩
  unfold vrA
  rw [if_pos h, pVer, if_neg]
  intro z
  have e : bHe l (p + 1) = ((l.getD (p + 1) 0 : Nat) : Int) := if_pos z.1
  have := isV_t.mp z.2
  omega
theorem vrA_ok {l : List Nat} {f p : Nat} (hf : 0 < f) (h : pSign l 32 p = true) (h2 : bHe l (p + 1) = 45 ∨ 49 ≤ bHe l (p + 1) ∧ bHe l (p + 1) ≤ 51) : p + 1 < l.length ∧ bHe l (p + 1) = ((l.getD (p + 1) 0 : Nat) : Int) ∧
    vrA l f p = if pSign l 32 (p + 2) = true then vcat [vVal (l.getD (p + 1) 0)] (vrA l (f - 1) (p + 2)) else (true, p + 2, [vVal (l.getD (p + 1) 0)]) := by
  obtain ⟨f, rfl⟩ : ∃ k, f = k + 1 := ⟨f - 1, by omega⟩
  obtain ⟨q, e⟩ := bHe_in (l := l) (a := p + 1) (by omega)
  refine ⟨q, e, ?_⟩
  unfold vrA
  rw [if_pos h, pVer, if_pos ⟨q, isV_t.mpr (by omega)⟩]
  by_cases z : pSign l 32 (p + 2) = true
  · rw [if_pos z, if_pos z, if_pos z]; rfl
  · rw [if_neg z, if_neg z]
theorem vcat_2 {xs : List Nat} {x : Nat} {v : Bool × Nat × List Nat} : vcat xs (vcat [x] v) = vcat (xs ++ [x]) v := by
  unfold vcat
  simp
/-- n digits from a place on -/
def dgS (l : List Nat) (p : Nat) : Nat → Nat × Int
  | 0 => (p, -1)
  | n + 1 => if 0 ≤ (dgS l p n).2 then dgS l p n else if pDig l (dgS l p n).1 = true then ((dgS l p n).1 + 1, -1) else ((dgS l p n).1, ((dgS l p n).1 : Int))
theorem dgS_stay {l : List Nat} {p k : Nat} (h : 0 ≤ (dgS l p k).2) : ∀ n, dgS l p (k + n) = dgS l p k
  | 0 => rfl
  | n + 1 => by
    rw [← Nat.add_assoc, dgS, dgS_stay h n, if_pos h]
theorem dgS_rg {l : List Nat} {p : Nat} (hp : p ≤ l.length) : ∀ n, p ≤ (dgS l p n).1 ∧ (dgS l p n).1 ≤ l.length ∧ ((dgS l p n).2 = -1 ∨ (dgS l p n).2 = ((dgS l p n).1 : Int)) ∧ (dgS l p n).1 ≤ p + n
  | 0 => ⟨Nat.le_refl _, hp, Or.inl rfl, Nat.le_refl _⟩
  | n + 1 => by
    have := dgS_rg hp n
    rw [dgS]
    split
    · omega
    · split
      · rename_i z
        have := pDig_lt z
        refine ⟨by show p ≤ (dgS l p n).1 + 1; omega, by show (dgS l p n).1 + 1 ≤ _; omega, Or.inl rfl, by show (dgS l p n).1 + 1 ≤ _; omega⟩
      · refine ⟨this.1, this.2.1, Or.inr rfl, by show (dgS l p n).1 ≤ _; omega⟩
theorem dgS_1 {l : List Nat} {p : Nat} : dgS l p 1 = if pDig l p = true then (p + 1, -1) else (p, (p : Int)) := by
  show (if 0 ≤ (dgS l p 0).2 then dgS l p 0 else if pDig l (dgS l p 0).1 = true then ((dgS l p 0).1 + 1, -1) else ((dgS l p 0).1, ((dgS l p 0).1 : Int))) = _
  rw [show dgS l p 0 = (p, -1) from rfl, if_neg (show ¬ (0 : Int) ≤ -1 by decide)]
theorem dgS_2 {l : List Nat} {p : Nat} : dgS l p 2 = if pDig l p = true then (if pDig l (p + 1) = true then (p + 2, -1) else (p + 1, ((p + 1 : Nat) : Int))) else (p, (p : Int)) := by
  show (if 0 ≤ (dgS l p 1).2 then dgS l p 1 else if pDig l (dgS l p 1).1 = true then ((dgS l p 1).1 + 1, -1) else ((dgS l p 1).1, ((dgS l p 1).1 : Int))) = _
  rw [dgS_1]
  by_cases z : pDig l p = true
  · simp only [if_pos z]
    rw [if_neg (show ¬ (0 : Int) ≤ -1 by decide)]
  · simp only [if_neg z]
    rw [if_pos (by show (0 : Int) ≤ (p : Int); omega)]
theorem pTr_0 {l : List Nat} {f a : Nat} : pTr l f 0 a = (true, a) := by
  cases f with
  | zero => rfl
  | succ f => rw [pTr, if_pos rfl]
theorem pTr_q {l : List Nat} {f o a : Nat} (hf : 0 < f) (ho : 0 < o) (h : pSign l 63 a = true) : pTr l f o a = if 0 ≤ (dgS l (a + 1) 1).2 then (false, (dgS l (a + 1) 1).1) else pTr l (f - 1) (o + 3) (dgS l (a + 1) 1).1 := by
  obtain ⟨f, rfl⟩ : ∃ k, f = k + 1 := ⟨f - 1, by omega⟩
  rw [pTr, if_neg (by omega), if_pos h, dgS_1]
  by_cases z : pDig l (a + 1) = true
  · simp only [if_pos z]
    rw [if_neg (show ¬ (0 : Int) ≤ -1 by decide)]
    rfl
  · simp only [if_neg z]
    rw [if_pos (by show (0 : Int) ≤ ((a + 1 : Nat) : Int); omega)]
theorem pTr_x {l : List Nat} {f o a : Nat} (hf : 0 < f) (ho : 0 < o) (h : pSign l 33 a = true) : pTr l f o a = if 0 ≤ (dgS l (a + 1) 2).2 then (false, (dgS l (a + 1) 2).1) else pTr l (f - 1) (o - 1) (dgS l (a + 1) 2).1 := by
  obtain ⟨f, rfl⟩ : ∃ k, f = k + 1 := ⟨f - 1, by omega⟩
  have h0 : ¬ pSign l 63 a = true := fun z => by have a := sgn_h.mp z; have b := sgn_h.mp h; omega
  rw [pTr, if_neg (by omega), if_neg h0, if_pos h, dgS_2]
  by_cases z : pDig l (a + 1) = true
  · simp only [if_pos z]
    by_cases y : pDig l (a + 2) = true
    · simp only [show a + 1 + 1 = a + 2 by omega, if_pos y]
      rw [if_neg (show ¬ (0 : Int) ≤ -1 by decide)]
      rfl
    · simp only [show a + 1 + 1 = a + 2 by omega, if_neg y]
      rw [if_pos (by show (0 : Int) ≤ ((a + 2 : Nat) : Int); omega)]
  · simp only [if_neg z]
    rw [if_pos (by show (0 : Int) ≤ ((a + 1 : Nat) : Int); omega)]
theorem pTr_n {l : List Nat} {f o a : Nat} (hf : 0 < f) (ho : 0 < o) (h : ¬ bHe l a = 63) (h2 : ¬ bHe l a = 33) : pTr l f o a = (false, a) := by
  obtain ⟨f, rfl⟩ : ∃ k, f = k + 1 := ⟨f - 1, by omega⟩
  rw [pTr, if_neg (by omega), sgn_n h, sgn_n h2]
  rfl
theorem d203_0 : dc 203 0 = some (.aload_n 0, 1) := by decide +kernel
theorem d203_1 : dc 203 1 = some (.iconst 0, 2) := by decide +kernel
theorem d203_2 : dc 203 2 = some (.putfield 1760, 5) := by decide +kernel
theorem d203_5 : dc 203 5 = some (.iconst 1, 6) := by decide +kernel
theorem d203_6 : dc 203 6 = some (.istore_n 1, 7) := by decide +kernel
theorem d203_7 : dc 203 7 = some (.iload_n 1, 8) := by decide +kernel
theorem d203_8 : dc 203 8 = some (.ifCond .eq ((130 : Nat) : Int), 11) := by decide +kernel
theorem d203_11 : dc 203 11 = some (.aload_n 0, 12) := by decide +kernel
theorem d203_12 : dc 203 12 = some (.getfield 1738, 15) := by decide +kernel
theorem d203_15 : dc 203 15 = some (.ifCond .ge ((130 : Nat) : Int), 18) := by decide +kernel
theorem d203_18 : dc 203 18 = some (.aload_n 0, 19) := by decide +kernel
theorem d203_19 : dc 203 19 = some (.bipush 32, 21) := by decide +kernel
theorem d203_21 : dc 203 21 = some (.invokevirtual 204, 24) := by decide +kernel
theorem d203_24 : dc 203 24 = some (.aload_n 0, 25) := by decide +kernel
theorem d203_25 : dc 203 25 = some (.invokevirtual 205, 28) := by decide +kernel
theorem d203_28 : dc 203 28 = some (.istore_n 2, 29) := by decide +kernel
theorem d203_29 : dc 203 29 = some (.aload_n 0, 30) := by decide +kernel
theorem d203_30 : dc 203 30 = some (.getfield 1738, 33) := by decide +kernel
theorem d203_33 : dc 203 33 = some (.ifCond .ge ((61 : Nat) : Int), 36) := by decide +kernel
theorem d203_36 : dc 203 36 = some (.iload_n 2, 37) := by decide +kernel
theorem d203_37 : dc 203 37 = some (.bipush 45, 39) := by decide +kernel
theorem d203_39 : dc 203 39 = some (.if_icmp .eq ((61 : Nat) : Int), 42) := by decide +kernel
theorem d203_42 : dc 203 42 = some (.iload_n 2, 43) := by decide +kernel
theorem d203_43 : dc 203 43 = some (.bipush 49, 45) := by decide +kernel
theorem d203_45 : dc 203 45 = some (.bipush 51, 47) := by decide +kernel
theorem d203_47 : dc 203 47 = some (.invokevirtual 206, 50) := by decide +kernel
theorem d203_50 : dc 203 50 = some (.ifCond .ne ((61 : Nat) : Int), 53) := by decide +kernel
theorem d203_53 : dc 203 53 = some (.aload_n 0, 54) := by decide +kernel
theorem d203_54 : dc 203 54 = some (.aload_n 0, 55) := by decide +kernel
theorem d203_55 : dc 203 55 = some (.getfield 1740, 58) := by decide +kernel
theorem d203_58 : dc 203 58 = some (.putfield 1738, 61) := by decide +kernel
theorem d203_61 : dc 203 61 = some (.aload_n 0, 62) := by decide +kernel
theorem d203_62 : dc 203 62 = some (.getfield 1738, 65) := by decide +kernel
theorem d203_65 : dc 203 65 = some (.ifCond .lt ((69 : Nat) : Int), 68) := by decide +kernel
theorem d203_68 : dc 203 68 = some (.return_, 69) := by decide +kernel
theorem d203_69 : dc 203 69 = some (.aload_n 0, 70) := by decide +kernel
theorem d203_70 : dc 203 70 = some (.dload 1759, 73) := by decide +kernel
theorem d203_73 : dc 203 73 = some (.aload_n 0, 74) := by decide +kernel
theorem d203_74 : dc 203 74 = some (.getfield 1760, 77) := by decide +kernel
theorem d203_77 : dc 203 77 = some (.iload_n 2, 78) := by decide +kernel
theorem d203_78 : dc 203 78 = some (.bipush 45, 80) := by decide +kernel
theorem d203_80 : dc 203 80 = some (.if_icmp .ne ((87 : Nat) : Int), 83) := by decide +kernel
theorem d203_83 : dc 203 83 = some (.iconst 0, 84) := by decide +kernel
theorem d203_84 : dc 203 84 = some (.goto ((91 : Nat) : Int), 87) := by decide +kernel
theorem d203_87 : dc 203 87 = some (.iload_n 2, 88) := by decide +kernel
theorem d203_88 : dc 203 88 = some (.bipush 48, 90) := by decide +kernel
theorem d203_90 : dc 203 90 = some (.isub, 91) := by decide +kernel
theorem d203_91 : dc 203 91 = some (.iastore, 92) := by decide +kernel
theorem d203_92 : dc 203 92 = some (.aload_n 0, 93) := by decide +kernel
theorem d203_93 : dc 203 93 = some (.dup, 94) := by decide +kernel
theorem d203_94 : dc 203 94 = some (.getfield 1760, 97) := by decide +kernel
theorem d203_97 : dc 203 97 = some (.iconst 1, 98) := by decide +kernel
theorem d203_98 : dc 203 98 = some (.iadd, 99) := by decide +kernel
theorem d203_99 : dc 203 99 = some (.putfield 1760, 102) := by decide +kernel
theorem d203_102 : dc 203 102 = some (.aload_n 0, 103) := by decide +kernel
theorem d203_103 : dc 203 103 = some (.dup, 104) := by decide +kernel
theorem d203_104 : dc 203 104 = some (.getfield 1740, 107) := by decide +kernel
theorem d203_107 : dc 203 107 = some (.iconst 1, 108) := by decide +kernel
theorem d203_108 : dc 203 108 = some (.iadd, 109) := by decide +kernel
theorem d203_109 : dc 203 109 = some (.putfield 1740, 112) := by decide +kernel
theorem d203_112 : dc 203 112 = some (.aload_n 0, 113) := by decide +kernel
theorem d203_113 : dc 203 113 = some (.invokevirtual 205, 116) := by decide +kernel
theorem d203_116 : dc 203 116 = some (.bipush 32, 118) := by decide +kernel
theorem d203_118 : dc 203 118 = some (.if_icmp .ne ((125 : Nat) : Int), 121) := by decide +kernel
theorem d203_121 : dc 203 121 = some (.iconst 1, 122) := by decide +kernel
theorem d203_122 : dc 203 122 = some (.goto ((126 : Nat) : Int), 125) := by decide +kernel
theorem d203_125 : dc 203 125 = some (.iconst 0, 126) := by decide +kernel
theorem d203_126 : dc 203 126 = some (.istore_n 1, 127) := by decide +kernel
theorem d203_127 : dc 203 127 = some (.goto ((7 : Nat) : Int), 130) := by decide +kernel
theorem d203_130 : dc 203 130 = some (.return_, 131) := by decide +kernel
theorem k_M_readVersions {S : Shp} {G : Nat → Option Nat} {d : Nat} {h : Hp} {Q : Option MV → Hp → Prop} {m : Nat} {l : List Nat} {a : Nat} (ok : Ok S h) (h1 : 3 ≤ d) (hm : sK S m = 14) (RQ : RqR S h m l) (PW : PwR h m a (-1)) (hal : a ≤ l.length) (h4 : l.length ≤ 4096)
    (kk : ∀ h', Fr S m [1740, 1738, 1759, 1760] h h' → RqR S h' m l → PwR h' m (vrA l 4096 a).2.1 (wOf (vrA l 4096 a).1 (vrA l 4096 a).2.1) → ((vrA l 4096 a).1 = true → FI h' 1760 m = (((vrA l 4096 a).2.2.length : Nat) : Int) ∧ LsA S h' m 1759 (vrA l 4096 a).2.2) → Q none h') : Cl G d 203 [vR (some m)] h Q := by
  show Wp G d 203 0 [some (vR (some m)), none, none] [] h Q
  have RQ_0 := RQ
  have PW_0 := PW
  refine w_aload_n d203_0 rfl ?_
  refine w_iconst d203_1 (by decide) ?_
  refine wf1760 d203_2 ok hm (by omega) (fun h2 e2 m2 => ?_)
  have f2 : Fr S m [1760] _ _ := Fr.wF ok m2 (FK.pI e2)
  have ok2 := f2.ok
  have FR2 := Fr.le (F := [1740, 1738, 1759, 1760]) f2 (by decide)
  have RQ := RQ.r f2 hm
  have PW := PW.r f2 hm
  have VC : FI h2 1760 m = ((([] : List Nat).length : Nat) : Int) := by rw [e2, FI_sFI, if_pos ⟨rfl, rfl⟩]; rfl
  refine w_iconst d203_5 (by decide) ?_
  refine w_istore1 d203_6 rfl ?_
  have L7 : ∀ (m7 : Nat) (g : Hp) (b : Bool) (p : Nat) (xs : List Nat), l.length + 1 - p = m7 → Fr S m [1740, 1738, 1759, 1760] h g → (p ≤ l.length ∧ 2 * xs.length ≤ p) → (PwR g m p (-1)) → (FI g 1760 m = ((xs.length : Nat) : Int)) → (LsA S g m 1759 xs) → (b = true → vrA l 4096 a = vcat xs (vrA l (4096 - xs.length) p)) → (b = false → vrA l 4096 a = (true, p, xs)) → Wp G d 203 7 [some (vR (some m)), some (vI (b2i b)), none] [] g Q := by
    intro m7
    induction m7 using Nat.strongRecOn with | ind m7 IH7 => ?_
    intro g b p xs hm7 FRg pr PW VC VA Et Ef
    have okg := FRg.ok
    have RQ := RQ_0.r FRg hm
    refine w_iload_n d203_7 rfl ?_
    refine w_ifeq d203_8 (fun c8 => ?_) (fun c8 => ?_)
    · have ev := Ef (by cases b with | true => exact absurd c8 (by decide) | false => rfl)
      rw [ev] at kk
      refine w_return d203_130 ?_
      exact kk _ FRg RQ PW (fun _ => ⟨VC, VA⟩)
    · have bt : b = true := by
        cases b with
        | true => rfl
        | false => exact absurd rfl c8
      have E2 := Et bt
      refine w_aload_n d203_11 rfl ?_
      refine w_getI (x := (-1)) d203_12 (okg.kd hm) PW.2 ?_
      refine w_ifge d203_15 (fun c15 => ?_) (fun c15 => ?_)
      · omega
      · refine w_aload_n d203_18 rfl ?_
        refine w_bipush d203_19 (by decide) ?_
        refine w_callv2 d203_21 (by omega) rfl (okg.kd hm) (by simp) (Nat.le_of_ble_eq_true rfl) ?_
        refine k_M_expect (c := ((32 : Nat) : Int)) okg (by omega) hm RQ PW (by decide) (fun h21 f21 RQ PW => ?_)
        have ok21 := f21.ok
        have FR21 := Fr.tr (F := [1740, 1738, 1759, 1760]) FRg f21 (by decide) (by decide)
        have VC := (f21.i 1760).trans VC
        have VA := VA.r f21 hm
        refine w_aload_n d203_24 rfl ?_
        refine w_callv1 d203_25 (by omega) rfl (ok21.kd hm) (by simp) (Nat.le_of_ble_eq_true rfl) ?_
        refine k_M_byteHere ok21 (by omega) hm RQ PW ?_
        refine w_istore2 d203_28 rfl ?_
        refine w_aload_n d203_29 rfl ?_
        refine w_getI (x := (rxp l ((32 : Nat) : Int) p (-1)).2) d203_30 (ok21.kd hm) PW.2 ?_
        refine w_ifge d203_33 (fun c33 => ?_) (fun c33 => ?_)
        · have sg : pSign l 32 p = false := by
            cases hz : pSign l 32 p with
            | false => rfl
            | true => rw [rxp_y hz] at c33; exact absurd c33 (show ¬ (0 : Int) ≤ -1 by decide)
          have ev := E2.trans (by rw [vrA_no sg])
          rw [ev] at kk
          rw [show (rxp l ((32 : Nat) : Int) p (-1)).1 = p by rw [rxp_n sg], show (rxp l ((32 : Nat) : Int) p (-1)).2 = (p : Int) by rw [rxp_n sg]] at PW
          skip
          refine w_aload_n d203_61 rfl ?_
          refine w_getI (x := ((p : Nat) : Int)) d203_62 (ok21.kd hm) PW.2 ?_
          refine w_iflt d203_65 (fun c65 => ?_) (fun c65 => ?_)
          · omega
          · refine w_return d203_68 ?_
            exact kk _ FR21 RQ PW (fun z => Bool.noConfusion (show false = true from z))
        · have sg : pSign l 32 p = true := by
            cases hz : pSign l 32 p with
            | true => rfl
            | false => rw [rxp_n hz] at c33; exact absurd c33 (by show ¬ ((p : Int) < 0); omega)
          rw [show (rxp l ((32 : Nat) : Int) p (-1)).1 = p + 1 by rw [rxp_y sg], show (rxp l ((32 : Nat) : Int) p (-1)).2 = -1 by rw [rxp_y sg]] at PW
          rw [show (rxp l ((32 : Nat) : Int) p (-1)).1 = p + 1 by rw [rxp_y sg]]
          refine w_iload_n d203_36 rfl ?_
          refine w_bipush d203_37 (by decide) ?_
          refine w_icmpeq d203_39 (fun c39 => ?_) (fun c39 => ?_)
          · have vo := vrA_ok (f := 4096 - xs.length) (by omega) sg (Or.inl (by omega))
            refine w_aload_n d203_61 rfl ?_
            refine w_getI (x := (-1)) d203_62 (ok21.kd hm) PW.2 ?_
            refine w_iflt d203_65 (fun c65 => ?_) (fun c65 => ?_)
            · refine w_aload_n d203_69 rfl ?_
              refine w_dloadS d203_70 (ok21.kd hm) (fr1759 ok21 hm) ?_
              refine w_aload_n d203_73 rfl ?_
              refine w_getI (x := ((xs.length : Nat) : Int)) d203_74 (ok21.kd hm) VC ?_
              refine w_iload_n d203_77 rfl ?_
              refine w_bipush d203_78 (by decide) ?_
              refine w_icmpne d203_80 (fun c80 => ?_) (fun c80 => ?_)
              · omega
              · refine w_iconst d203_83 (by decide) ?_
                refine w_goto d203_84 ?_
                refine wa1759 d203_91 ok21 hm (by omega) (by omega) (fun h91 e91 m91 => ?_)
                have e91 : h91 = sAI h21 (sT S 1759 m) xs.length 0 := e91
                have f91 : Fr S m [1759] _ _ := Fr.wB ok21 hm m91 (fun ζ e => ⟨1759, by decide, by decide, e ▸ U_refl⟩)
                have ok91 := f91.ok
                have FR91 := Fr.tr (F := [1740, 1738, 1759, 1760]) FR21 f91 (by decide) (by decide)
                have RQ := RQ.r f91 hm
                have PW := PW.r f91 hm
                have VC := (f91.i 1760).trans VC
                have VA := VA.w (x := vVal (l.getD (p + 1) 0)) rfl (e91.trans (by rw [show ((vVal (l.getD (p + 1) 0) : Nat) : Int) = 0 by unfold vVal; split <;> omega]))
                refine w_aload_n d203_92 rfl ?_
                refine w_dupR d203_93 ?_
                refine w_getI (x := ((xs.length : Nat) : Int)) d203_94 (ok91.kd hm) VC ?_
                refine w_iconst d203_97 (by decide) ?_
                refine w_iadd d203_98 (by constructor <;> omega) ?_
                refine wf1760 d203_99 ok91 hm (by omega) (fun h99 e99 m99 => ?_)
                have f99 : Fr S m [1760] _ _ := Fr.wF ok91 m99 (FK.pI e99)
                have ok99 := f99.ok
                have FR99 := Fr.tr (F := [1740, 1738, 1759, 1760]) FR91 f99 (by decide) (by decide)
                have RQ := RQ.r f99 hm
                have PW := PW.r f99 hm
                have VA := VA.r f99 hm
                have VC : FI h99 1760 m = (((xs ++ [vVal (l.getD (p + 1) 0)]).length : Nat) : Int) := by rw [e99, FI_sFI, if_pos ⟨rfl, rfl⟩, List.length_append]; rfl
                refine w_aload_n d203_102 rfl ?_
                refine w_dupR d203_103 ?_
                refine w_getI (x := ((p + 1 : Nat) : Int)) d203_104 (ok99.kd hm) PW.1 ?_
                refine w_iconst d203_107 (by decide) ?_
                refine w_iadd d203_108 (by constructor <;> omega) ?_
                refine wf1740 d203_109 ok99 hm (by omega) (fun h109 e109 m109 => ?_)
                have f109 : Fr S m [1740] _ _ := Fr.wF ok99 m109 (FK.pI e109)
                have ok109 := f109.ok
                have FR109 := Fr.tr (F := [1740, 1738, 1759, 1760]) FR99 f109 (by decide) (by decide)
                have RQ := RQ.r f109 hm
                have VA := VA.r f109 hm
                have VC := (f109.i 1760).trans VC
                have PW : PwR h109 m (p + 2) (-1) := ⟨by rw [e109, FI_sFI, if_pos ⟨rfl, rfl⟩]; omega, (f109.i 1738 (by decide)).trans PW.2⟩
                refine w_aload_n d203_112 rfl ?_
                refine w_callv1 d203_113 (by omega) rfl (ok109.kd hm) (by simp) (Nat.le_of_ble_eq_true rfl) ?_
                refine k_M_byteHere ok109 (by omega) hm RQ PW ?_
                refine w_bipush d203_116 (by decide) ?_
                refine w_icmpne d203_118 (fun c118 => ?_) (fun c118 => ?_)
                · have sg2 := sgn_n (c := 32) (show ¬ bHe l (p + 2) = ((32 : Nat) : Int) from c118)
                  have bq : (0 : Int) = b2i false := rfl
                  refine w_iconst d203_125 (by decide) ?_
                  refine w_istore1 d203_126 rfl ?_
                  refine w_goto d203_127 ?_
                  rw [bq]
                  refine w_less ?_ (IH7 _ (by omega) h109 false (p + 2) (xs ++ [vVal (l.getD (p + 1) 0)]) rfl FR109 ⟨by omega, by rw [List.length_append]; show 2 * (xs.length + 1) ≤ _; omega⟩ PW VC VA (fun z => Bool.noConfusion z) (fun _ => by rw [E2, vo.2.2, sg2]; rfl))
                  exact ⟨Or.inr rfl, Or.inr rfl, Or.inl rfl, trivial⟩
                · have sg2 : pSign l 32 (p + 2) = true := sgn_h.mpr (by omega)
                  have bq : (1 : Int) = b2i true := rfl
                  refine w_iconst d203_121 (by decide) ?_
                  refine w_goto d203_122 ?_
                  refine w_istore1 d203_126 rfl ?_
                  refine w_goto d203_127 ?_
                  rw [bq]
                  refine w_less ?_ (IH7 _ (by omega) h109 true (p + 2) (xs ++ [vVal (l.getD (p + 1) 0)]) rfl FR109 ⟨by omega, by rw [List.length_append]; show 2 * (xs.length + 1) ≤ _; omega⟩ PW VC VA (fun _ => by rw [E2, vo.2.2, if_pos sg2, vcat_2, List.length_append]; rfl) (fun z => Bool.noConfusion z))
                  exact ⟨Or.inr rfl, Or.inr rfl, Or.inl rfl, trivial⟩
            · omega
          · refine w_iload_n d203_42 rfl ?_
            refine w_bipush d203_43 (by decide) ?_
            refine w_bipush d203_45 (by decide) ?_
            refine w_calls3 d203_47 (by omega) rfl rfl (by simp) (Nat.le_of_ble_eq_true rfl) ?_
            refine k_M_in (by omega) ?_
            refine w_ifne d203_50 (fun c50 => ?_) (fun c50 => ?_)
            · have hv : 49 ≤ bHe l (p + 1) ∧ bHe l (p + 1) ≤ 51 := by
                by_cases z : 49 ≤ bHe l (p + 1) ∧ bHe l (p + 1) ≤ 51
                · exact z
                · rw [decide_eq_false z] at c50; exact absurd rfl c50
              have vo := vrA_ok (f := 4096 - xs.length) (by omega) sg (Or.inr hv)
              refine w_aload_n d203_61 rfl ?_
              refine w_getI (x := (-1)) d203_62 (ok21.kd hm) PW.2 ?_
              refine w_iflt d203_65 (fun c65 => ?_) (fun c65 => ?_)
              · refine w_aload_n d203_69 rfl ?_
                refine w_dloadS d203_70 (ok21.kd hm) (fr1759 ok21 hm) ?_
                refine w_aload_n d203_73 rfl ?_
                refine w_getI (x := ((xs.length : Nat) : Int)) d203_74 (ok21.kd hm) VC ?_
                refine w_iload_n d203_77 rfl ?_
                refine w_bipush d203_78 (by decide) ?_
                refine w_icmpne d203_80 (fun c80 => ?_) (fun c80 => ?_)
                · refine w_iload_n d203_87 rfl ?_
                  refine w_bipush d203_88 (by decide) ?_
                  refine w_isub d203_90 (by constructor <;> omega) ?_
                  refine wa1759 d203_91 ok21 hm (by omega) (by omega) (fun h91 e91 m91 => ?_)
                  have e91 : h91 = sAI h21 (sT S 1759 m) xs.length ((bHe l (p + 1)) - 48) := e91
                  have f91 : Fr S m [1759] _ _ := Fr.wB ok21 hm m91 (fun ζ e => ⟨1759, by decide, by decide, e ▸ U_refl⟩)
                  have ok91 := f91.ok
                  have FR91 := Fr.tr (F := [1740, 1738, 1759, 1760]) FR21 f91 (by decide) (by decide)
                  have RQ := RQ.r f91 hm
                  have PW := PW.r f91 hm
                  have VC := (f91.i 1760).trans VC
                  have VA := VA.w (x := vVal (l.getD (p + 1) 0)) rfl (e91.trans (by rw [show ((vVal (l.getD (p + 1) 0) : Nat) : Int) = bHe l (p + 1) - 48 by unfold vVal; split <;> omega]))
                  refine w_aload_n d203_92 rfl ?_
                  refine w_dupR d203_93 ?_
                  refine w_getI (x := ((xs.length : Nat) : Int)) d203_94 (ok91.kd hm) VC ?_
                  refine w_iconst d203_97 (by decide) ?_
                  refine w_iadd d203_98 (by constructor <;> omega) ?_
                  refine wf1760 d203_99 ok91 hm (by omega) (fun h99 e99 m99 => ?_)
                  have f99 : Fr S m [1760] _ _ := Fr.wF ok91 m99 (FK.pI e99)
                  have ok99 := f99.ok
                  have FR99 := Fr.tr (F := [1740, 1738, 1759, 1760]) FR91 f99 (by decide) (by decide)
                  have RQ := RQ.r f99 hm
                  have PW := PW.r f99 hm
                  have VA := VA.r f99 hm
                  have VC : FI h99 1760 m = (((xs ++ [vVal (l.getD (p + 1) 0)]).length : Nat) : Int) := by rw [e99, FI_sFI, if_pos ⟨rfl, rfl⟩, List.length_append]; rfl
                  refine w_aload_n d203_102 rfl ?_
                  refine w_dupR d203_103 ?_
                  refine w_getI (x := ((p + 1 : Nat) : Int)) d203_104 (ok99.kd hm) PW.1 ?_
                  refine w_iconst d203_107 (by decide) ?_
                  refine w_iadd d203_108 (by constructor <;> omega) ?_
                  refine wf1740 d203_109 ok99 hm (by omega) (fun h109 e109 m109 => ?_)
                  have f109 : Fr S m [1740] _ _ := Fr.wF ok99 m109 (FK.pI e109)
                  have ok109 := f109.ok
                  have FR109 := Fr.tr (F := [1740, 1738, 1759, 1760]) FR99 f109 (by decide) (by decide)
                  have RQ := RQ.r f109 hm
                  have VA := VA.r f109 hm
                  have VC := (f109.i 1760).trans VC
                  have PW : PwR h109 m (p + 2) (-1) := ⟨by rw [e109, FI_sFI, if_pos ⟨rfl, rfl⟩]; omega, (f109.i 1738 (by decide)).trans PW.2⟩
                  refine w_aload_n d203_112 rfl ?_
                  refine w_callv1 d203_113 (by omega) rfl (ok109.kd hm) (by simp) (Nat.le_of_ble_eq_true rfl) ?_
                  refine k_M_byteHere ok109 (by omega) hm RQ PW ?_
                  refine w_bipush d203_116 (by decide) ?_
                  refine w_icmpne d203_118 (fun c118 => ?_) (fun c118 => ?_)
                  · have sg2 := sgn_n (c := 32) (show ¬ bHe l (p + 2) = ((32 : Nat) : Int) from c118)
                    have bq : (0 : Int) = b2i false := rfl
                    refine w_iconst d203_125 (by decide) ?_
                    refine w_istore1 d203_126 rfl ?_
                    refine w_goto d203_127 ?_
                    rw [bq]
                    refine w_less ?_ (IH7 _ (by omega) h109 false (p + 2) (xs ++ [vVal (l.getD (p + 1) 0)]) rfl FR109 ⟨by omega, by rw [List.length_append]; show 2 * (xs.length + 1) ≤ _; omega⟩ PW VC VA (fun z => Bool.noConfusion z) (fun _ => by rw [E2, vo.2.2, sg2]; rfl))
                    exact ⟨Or.inr rfl, Or.inr rfl, Or.inl rfl, trivial⟩
                  · have sg2 : pSign l 32 (p + 2) = true := sgn_h.mpr (by omega)
                    have bq : (1 : Int) = b2i true := rfl
                    refine w_iconst d203_121 (by decide) ?_
                    refine w_goto d203_122 ?_
                    refine w_istore1 d203_126 rfl ?_
                    refine w_goto d203_127 ?_
                    rw [bq]
                    refine w_less ?_ (IH7 _ (by omega) h109 true (p + 2) (xs ++ [vVal (l.getD (p + 1) 0)]) rfl FR109 ⟨by omega, by rw [List.length_append]; show 2 * (xs.length + 1) ≤ _; omega⟩ PW VC VA (fun _ => by rw [E2, vo.2.2, if_pos sg2, vcat_2, List.length_append]; rfl) (fun z => Bool.noConfusion z))
                    exact ⟨Or.inr rfl, Or.inr rfl, Or.inl rfl, trivial⟩
                · omega
              · omega
            · have hv : ¬ (49 ≤ bHe l (p + 1) ∧ bHe l (p + 1) ≤ 51) := fun z => by rw [decide_eq_true z] at c50; exact absurd c50 (by decide)
              have ev := E2.trans (by rw [vrA_bad (by omega) sg (fun z => z.elim (fun y => c39 y) hv)])
              rw [ev] at kk
              refine w_aload_n d203_53 rfl ?_
              refine w_aload_n d203_54 rfl ?_
              refine w_getI (x := ((p + 1 : Nat) : Int)) d203_55 (ok21.kd hm) PW.1 ?_
              refine wf1738 d203_58 ok21 hm (by omega) (fun h58 e58 m58 => ?_)
              have f58 : Fr S m [1738] _ _ := Fr.wF ok21 m58 (FK.pI e58)
              have ok58 := f58.ok
              have FR58 := Fr.tr (F := [1740, 1738, 1759, 1760]) FR21 f58 (by decide) (by decide)
              have RQ := RQ.r f58 hm
              have VC := (f58.i 1760).trans VC
              have VA := VA.r f58 hm
              have PW : PwR h58 m (p + 1) ((p + 1 : Nat) : Int) := ⟨(f58.i 1740 (by decide)).trans PW.1, by rw [e58, FI_sFI, if_pos ⟨rfl, rfl⟩]⟩
              refine w_aload_n d203_61 rfl ?_
              refine w_getI (x := ((p + 1 : Nat) : Int)) d203_62 (ok58.kd hm) PW.2 ?_
              refine w_iflt d203_65 (fun c65 => ?_) (fun c65 => ?_)
              · omega
              · refine w_return d203_68 ?_
                exact kk _ FR58 RQ PW (fun z => Bool.noConfusion (show false = true from z))
  refine w_less ?_ (L7 _ h2 true a [] rfl FR2 ⟨hal, Nat.zero_le _⟩ PW VC LsA.nil (fun _ => rfl) (fun z => absurd z (by decide)))
  exact ⟨Or.inr rfl, Or.inr rfl, Or.inl rfl, trivial⟩
