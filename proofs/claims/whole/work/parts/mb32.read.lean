/-! the reference: a request is read -/
/-- the place and what is wrong -/
def PwR (h : Hp) (m a : Nat) (w : Int) : Prop := FI h 1740 m = (a : Nat) ∧ FI h 1738 m = w
theorem PwR.r {S : Shp} {m a : Nat} {w : Int} {F : List Nat} {h h' : Hp} (D : PwR h m a w) (fr : Fr S m F h h') (_ : sK S m = 14) (h1 : 1740 ∉ F ∧ 1738 ∉ F := by decide) : PwR h' m a w := ⟨(fr.i 1740 h1.1).trans D.1, (fr.i 1738 h1.2).trans D.2⟩
def bHe (l : List Nat) (a : Nat) : Int := if a < l.length then ((l.getD a 0 : Nat) : Int) else -1
def rxp (l : List Nat) (c : Int) (a : Nat) (w : Int) : Nat × Int := if 0 ≤ w then (a, w) else if bHe l a = c then (a + 1, w) else (a, (a : Int))
def nB (b : Bool) : Nat := if b = true then 12 else 8
def lB (b : Bool) : Nat := if b = true then 46 else 48
def rsg (l : List Nat) (b : Bool) (a : Nat) (w : Int) : Nat × Int := if 0 ≤ w then (a, w) else if 97 ≤ bHe l a ∧ bHe l a ≤ 122 then (wordE l a (nB b) (lB b), w) else (a, (a : Int))
theorem later_48 {c : Nat} : isLater 48 c = true ↔ isNs (c : Int) = true := by
  unfold isLater isLet isNs
  simp
  omega
theorem later_46 {c : Nat} : isLater 46 c = true ↔ isNs (c : Int) = true ∨ c = 46 ∨ c = 47 := by
  unfold isLater isLet isNs
  simp
  omega
theorem bHe_in {l : List Nat} {a : Nat} (h : 0 ≤ bHe l a) : a < l.length ∧ bHe l a = ((l.getD a 0 : Nat) : Int) := by
  unfold bHe at h ⊢
  by_cases q : a < l.length
  · rw [if_pos q]; exact ⟨q, rfl⟩
  · rw [if_neg q] at h; exact absurd h (by decide)
theorem isNs_0 {c : Int} (h : isNs c = true) : 0 ≤ c := by
  unfold isNs at h
  simp at h
  omega
/-- a sign stands at p -/
theorem later_b {l : List Nat} {p : Nat} {b : Bool} (h : isNs (bHe l p) = true ∨ (b = true ∧ (bHe l p = 46 ∨ bHe l p = 47))) : p < l.length ∧ isLater (lB b) (l.getD p 0) = true := by
  have h0 : 0 ≤ bHe l p := by
    rcases h with h | h
    · exact isNs_0 h
    · omega
  obtain ⟨a, e⟩ := bHe_in h0
  refine ⟨a, ?_⟩
  rw [e] at h
  cases b with
  | true =>
    refine later_46.mpr ?_
    rcases h with h | h
    · exact Or.inl h
    · exact Or.inr (by omega)
  | false =>
    refine later_48.mpr ?_
    rcases h with h | h
    · exact h
    · exact absurd h.1 (by decide)
theorem later_no {l : List Nat} {p : Nat} {b : Bool} (h : ¬ (isNs (bHe l p) = true)) (h2 : b = true → ¬ (bHe l p = 46) ∧ ¬ (bHe l p = 47)) : l.length ≤ p ∨ isLater (lB b) (l.getD p 0) = false := by
  rcases Nat.lt_or_ge p l.length with q | q
  · refine Or.inr ?_
    have e : bHe l p = ((l.getD p 0 : Nat) : Int) := if_pos q
    rw [e] at h h2
    cases hz : isLater (lB b) (l.getD p 0) with
    | false => rfl
    | true =>
      exfalso
      cases b with
      | true =>
        rcases later_46.mp hz with z | z
        · exact h z
        · have := h2 rfl; omega
      | false => exact h (later_48.mp hz)
  · exact Or.inl q
theorem word_in {l : List Nat} {a : Nat} {b : Bool} (h : 97 ≤ bHe l a ∧ bHe l a ≤ 122) : wordE l a (nB b) (lB b) = scan l (isLater (lB b)) a (nB b) := by
  obtain ⟨q, e⟩ := bHe_in (l := l) (a := a) (by omega)
  rw [e] at h
  have il : isLet (l.getD a 0) = true := by
    show (decide (97 ≤ l.getD a 0) && decide (l.getD a 0 ≤ 122)) = true
    rw [decide_eq_true (by omega), decide_eq_true (by omega)]
    rfl
  have n0 : 0 < nB b := by unfold nB; split <;> decide
  unfold wordE
  rw [if_pos ⟨q, n0, il⟩]
  have := scan_go (l := l) (p := isLater (lB b)) (n := nB b - 1) q (by unfold isLater; rw [il]; rfl)
  rw [show nB b - 1 + 1 = nB b by omega] at this
  exact this.symm
theorem rsg_w {l : List Nat} {b : Bool} {a : Nat} {w : Int} (h : ¬ 0 ≤ w) (h2 : 97 ≤ bHe l a ∧ bHe l a ≤ 122) {p : Nat} (e : wordE l a (nB b) (lB b) = p) : rsg l b a w = (p, w) := by
  unfold rsg
  rw [if_neg h, if_pos h2, e]
theorem d205_0 : dc 205 0 = some (.aload_n 0, 1) := by decide +kernel
theorem d205_1 : dc 205 1 = some (.getfield 1740, 4) := by decide +kernel
theorem d205_4 : dc 205 4 = some (.aload_n 0, 5) := by decide +kernel
theorem d205_5 : dc 205 5 = some (.getfield 1731, 8) := by decide +kernel
theorem d205_8 : dc 205 8 = some (.if_icmp .ge ((23 : Nat) : Int), 11) := by decide +kernel
theorem d205_11 : dc 205 11 = some (.aload_n 0, 12) := by decide +kernel
theorem d205_12 : dc 205 12 = some (.dload 1730, 15) := by decide +kernel
theorem d205_15 : dc 205 15 = some (.aload_n 0, 16) := by decide +kernel
theorem d205_16 : dc 205 16 = some (.getfield 1740, 19) := by decide +kernel
theorem d205_19 : dc 205 19 = some (.iaload, 20) := by decide +kernel
theorem d205_20 : dc 205 20 = some (.goto ((24 : Nat) : Int), 23) := by decide +kernel
theorem d205_23 : dc 205 23 = some (.iconst (-1), 24) := by decide +kernel
theorem d205_24 : dc 205 24 = some (.ireturn, 25) := by decide +kernel
theorem k_M_byteHere {S : Shp} {G : Nat → Option Nat} {d : Nat} {h : Hp} {Q : Option MV → Hp → Prop} {m : Nat} {l : List Nat} {a : Nat} {w : Int} (ok : Ok S h) (h1 : 0 ≤ d) (hm : sK S m = 14) (RQ : RqR S h m l) (PW : PwR h m a w) 
    (kk : Q (some (vI (bHe l a))) h) : Cl G d 205 [vR (some m)] h Q := by
  show Wp G d 205 0 [some (vR (some m))] [] h Q
  have RQ_0 := RQ
  have PW_0 := PW
  refine w_aload_n d205_0 rfl ?_
  refine w_getI (x := ((a : Nat) : Int)) d205_1 (ok.kd hm) PW.1 ?_
  refine w_aload_n d205_4 rfl ?_
  refine w_getI (x := ((l.length : Nat) : Int)) d205_5 (ok.kd hm) RQ.1 ?_
  refine w_icmpge d205_8 (fun c8 => ?_) (fun c8 => ?_)
  · have e : bHe l a = -1 := if_neg (by omega)
    rw [e] at kk
    refine w_iconst d205_23 (by decide) ?_
    refine w_ireturn d205_24 ?_
    exact kk
  · have l9 := RQ.2.1
    have hb : a < l.length := by omega
    have e : bHe l a = ((l.getD a 0 : Nat) : Int) := if_pos hb
    rw [e] at kk
    refine w_aload_n d205_11 rfl ?_
    refine w_dloadS d205_12 (ok.kd hm) (fr1730 ok hm) ?_
    refine w_aload_n d205_15 rfl ?_
    refine w_getI (x := ((a : Nat) : Int)) d205_16 (ok.kd hm) PW.1 ?_
    refine w_ialoadV (x := ((l.getD a 0 : Nat) : Int)) d205_19 (gi1730 ok hm (by omega)) (RQ.2.2.at0 hb) ?_
    refine w_goto d205_20 ?_
    refine w_ireturn d205_24 ?_
    exact kk
theorem d204_0 : dc 204 0 = some (.aload_n 0, 1) := by decide +kernel
theorem d204_1 : dc 204 1 = some (.getfield 1738, 4) := by decide +kernel
theorem d204_4 : dc 204 4 = some (.ifCond .lt ((8 : Nat) : Int), 7) := by decide +kernel
theorem d204_7 : dc 204 7 = some (.return_, 8) := by decide +kernel
theorem d204_8 : dc 204 8 = some (.aload_n 0, 9) := by decide +kernel
theorem d204_9 : dc 204 9 = some (.invokevirtual 205, 12) := by decide +kernel
theorem d204_12 : dc 204 12 = some (.iload_n 1, 13) := by decide +kernel
theorem d204_13 : dc 204 13 = some (.if_icmp .eq ((27 : Nat) : Int), 16) := by decide +kernel
theorem d204_16 : dc 204 16 = some (.aload_n 0, 17) := by decide +kernel
theorem d204_17 : dc 204 17 = some (.aload_n 0, 18) := by decide +kernel
theorem d204_18 : dc 204 18 = some (.getfield 1740, 21) := by decide +kernel
theorem d204_21 : dc 204 21 = some (.putfield 1738, 24) := by decide +kernel
theorem d204_24 : dc 204 24 = some (.goto ((37 : Nat) : Int), 27) := by decide +kernel
theorem d204_27 : dc 204 27 = some (.aload_n 0, 28) := by decide +kernel
theorem d204_28 : dc 204 28 = some (.dup, 29) := by decide +kernel
theorem d204_29 : dc 204 29 = some (.getfield 1740, 32) := by decide +kernel
theorem d204_32 : dc 204 32 = some (.iconst 1, 33) := by decide +kernel
theorem d204_33 : dc 204 33 = some (.iadd, 34) := by decide +kernel
theorem d204_34 : dc 204 34 = some (.putfield 1740, 37) := by decide +kernel
theorem d204_37 : dc 204 37 = some (.return_, 38) := by decide +kernel
theorem k_M_expect {S : Shp} {G : Nat → Option Nat} {d : Nat} {h : Hp} {Q : Option MV → Hp → Prop} {m : Nat} {c : Int} {l : List Nat} {a : Nat} {w : Int} (ok : Ok S h) (h1 : 1 ≤ d) (hm : sK S m = 14) (RQ : RqR S h m l) (PW : PwR h m a w) (hc : 0 ≤ c)
    (kk : ∀ h', Fr S m [1740, 1738] h h' → RqR S h' m l → PwR h' m (rxp l c a w).1 (rxp l c a w).2 → Q none h') : Cl G d 204 [vR (some m), vI c] h Q := by
  show Wp G d 204 0 [some (vR (some m)), some (vI c)] [] h Q
  have RQ_0 := RQ
  have PW_0 := PW
  refine w_aload_n d204_0 rfl ?_
  refine w_getI (x := w) d204_1 (ok.kd hm) PW.2 ?_
  refine w_iflt d204_4 (fun c4 => ?_) (fun c4 => ?_)
  · refine w_aload_n d204_8 rfl ?_
    refine w_callv1 d204_9 (by omega) rfl (ok.kd hm) (by simp) (Nat.le_of_ble_eq_true rfl) ?_
    refine k_M_byteHere ok (by omega) hm RQ PW ?_
    refine w_iload_n d204_12 rfl ?_
    refine w_icmpeq d204_13 (fun c13 => ?_) (fun c13 => ?_)
    · obtain ⟨hb, eb⟩ := bHe_in (l := l) (a := a) (by omega)
      have l9 := RQ.2.1
      refine w_aload_n d204_27 rfl ?_
      refine w_dupR d204_28 ?_
      refine w_getI (x := ((a : Nat) : Int)) d204_29 (ok.kd hm) PW.1 ?_
      refine w_iconst d204_32 (by decide) ?_
      refine w_iadd d204_33 (by constructor <;> omega) ?_
      refine wf1740 d204_34 ok hm (by omega) (fun h34 e34 m34 => ?_)
      have f34 : Fr S m [1740] _ _ := Fr.wF ok m34 (FK.pI e34)
      have ok34 := f34.ok
      have FR34 := Fr.le (F := [1740, 1738]) f34 (by decide)
      have RQ := RQ.r f34 hm
      refine w_return d204_37 ?_
      refine kk h34 FR34 RQ ?_
      unfold rxp
      rw [if_neg (by omega), if_pos c13]
      exact ⟨by rw [e34, FI_sFI, if_pos ⟨rfl, rfl⟩]; rfl, (f34.i 1738 (by decide)).trans PW_0.2⟩
    · have rp := rg1740 ok hm
      rw [PW.1] at rp
      refine w_aload_n d204_16 rfl ?_
      refine w_aload_n d204_17 rfl ?_
      refine w_getI (x := ((a : Nat) : Int)) d204_18 (ok.kd hm) PW.1 ?_
      refine wf1738 d204_21 ok hm (by omega) (fun h21 e21 m21 => ?_)
      have f21 : Fr S m [1738] _ _ := Fr.wF ok m21 (FK.pI e21)
      have ok21 := f21.ok
      have FR21 := Fr.le (F := [1740, 1738]) f21 (by decide)
      have RQ := RQ.r f21 hm
      refine w_goto d204_24 ?_
      refine w_return d204_37 ?_
      refine kk h21 FR21 RQ ?_
      unfold rxp
      rw [if_neg (by omega), if_neg c13]
      exact ⟨(f21.i 1740 (by decide)).trans PW_0.1, by rw [e21, FI_sFI, if_pos ⟨rfl, rfl⟩]⟩
  · refine w_return d204_7 ?_
    exact kk h (Fr.refl ok) RQ (by unfold rxp; rw [if_pos (by omega)]; exact PW)
theorem d209_0 : dc 209 0 = some (.aload_n 0, 1) := by decide +kernel
theorem d209_1 : dc 209 1 = some (.getfield 1738, 4) := by decide +kernel
theorem d209_4 : dc 209 4 = some (.ifCond .lt ((8 : Nat) : Int), 7) := by decide +kernel
theorem d209_7 : dc 209 7 = some (.return_, 8) := by decide +kernel
theorem d209_8 : dc 209 8 = some (.aload_n 0, 9) := by decide +kernel
theorem d209_9 : dc 209 9 = some (.invokevirtual 205, 12) := by decide +kernel
theorem d209_12 : dc 209 12 = some (.bipush 97, 14) := by decide +kernel
theorem d209_14 : dc 209 14 = some (.bipush 122, 16) := by decide +kernel
theorem d209_16 : dc 209 16 = some (.invokevirtual 206, 19) := by decide +kernel
theorem d209_19 : dc 209 19 = some (.ifCond .ne ((31 : Nat) : Int), 22) := by decide +kernel
theorem d209_22 : dc 209 22 = some (.aload_n 0, 23) := by decide +kernel
theorem d209_23 : dc 209 23 = some (.aload_n 0, 24) := by decide +kernel
theorem d209_24 : dc 209 24 = some (.getfield 1740, 27) := by decide +kernel
theorem d209_27 : dc 209 27 = some (.putfield 1738, 30) := by decide +kernel
theorem d209_30 : dc 209 30 = some (.return_, 31) := by decide +kernel
theorem d209_31 : dc 209 31 = some (.aload_n 0, 32) := by decide +kernel
theorem d209_32 : dc 209 32 = some (.getfield 1740, 35) := by decide +kernel
theorem d209_35 : dc 209 35 = some (.istore_n 2, 36) := by decide +kernel
theorem d209_36 : dc 209 36 = some (.aload_n 0, 37) := by decide +kernel
theorem d209_37 : dc 209 37 = some (.getfield 1740, 40) := by decide +kernel
theorem d209_40 : dc 209 40 = some (.iload_n 2, 41) := by decide +kernel
theorem d209_41 : dc 209 41 = some (.iload_n 1, 42) := by decide +kernel
theorem d209_42 : dc 209 42 = some (.ifCond .eq ((50 : Nat) : Int), 45) := by decide +kernel
theorem d209_45 : dc 209 45 = some (.bipush 12, 47) := by decide +kernel
theorem d209_47 : dc 209 47 = some (.goto ((52 : Nat) : Int), 50) := by decide +kernel
theorem d209_50 : dc 209 50 = some (.bipush 8, 52) := by decide +kernel
theorem d209_52 : dc 209 52 = some (.iadd, 53) := by decide +kernel
theorem d209_53 : dc 209 53 = some (.if_icmp .ge ((101 : Nat) : Int), 56) := by decide +kernel
theorem d209_56 : dc 209 56 = some (.aload_n 0, 57) := by decide +kernel
theorem d209_57 : dc 209 57 = some (.invokevirtual 205, 60) := by decide +kernel
theorem d209_60 : dc 209 60 = some (.invokevirtual 210, 63) := by decide +kernel
theorem d209_63 : dc 209 63 = some (.ifCond .ne ((88 : Nat) : Int), 66) := by decide +kernel
theorem d209_66 : dc 209 66 = some (.iload_n 1, 67) := by decide +kernel
theorem d209_67 : dc 209 67 = some (.ifCond .eq ((101 : Nat) : Int), 70) := by decide +kernel
theorem d209_70 : dc 209 70 = some (.aload_n 0, 71) := by decide +kernel
theorem d209_71 : dc 209 71 = some (.invokevirtual 205, 74) := by decide +kernel
theorem d209_74 : dc 209 74 = some (.bipush 46, 76) := by decide +kernel
theorem d209_76 : dc 209 76 = some (.if_icmp .eq ((88 : Nat) : Int), 79) := by decide +kernel
theorem d209_79 : dc 209 79 = some (.aload_n 0, 80) := by decide +kernel
theorem d209_80 : dc 209 80 = some (.invokevirtual 205, 83) := by decide +kernel
theorem d209_83 : dc 209 83 = some (.bipush 47, 85) := by decide +kernel
theorem d209_85 : dc 209 85 = some (.if_icmp .ne ((101 : Nat) : Int), 88) := by decide +kernel
theorem d209_88 : dc 209 88 = some (.aload_n 0, 89) := by decide +kernel
theorem d209_89 : dc 209 89 = some (.dup, 90) := by decide +kernel
theorem d209_90 : dc 209 90 = some (.getfield 1740, 93) := by decide +kernel
theorem d209_93 : dc 209 93 = some (.iconst 1, 94) := by decide +kernel
theorem d209_94 : dc 209 94 = some (.iadd, 95) := by decide +kernel
theorem d209_95 : dc 209 95 = some (.putfield 1740, 98) := by decide +kernel
theorem d209_98 : dc 209 98 = some (.goto ((36 : Nat) : Int), 101) := by decide +kernel
theorem d209_101 : dc 209 101 = some (.return_, 102) := by decide +kernel
theorem k_M_readSigns {S : Shp} {G : Nat → Option Nat} {d : Nat} {h : Hp} {Q : Option MV → Hp → Prop} {m : Nat} {b : Bool} {l : List Nat} {a : Nat} {w : Int} (ok : Ok S h) (h1 : 2 ≤ d) (hm : sK S m = 14) (RQ : RqR S h m l) (PW : PwR h m a w) 
    (kk : ∀ h', Fr S m [1740, 1738] h h' → RqR S h' m l → PwR h' m (rsg l b a w).1 (rsg l b a w).2 → Q none h') : Cl G d 209 [vR (some m), vI (b2i b)] h Q := by
  show Wp G d 209 0 [some (vR (some m)), some (vI (b2i b)), none] [] h Q
  have RQ_0 := RQ
  have PW_0 := PW
  refine w_aload_n d209_0 rfl ?_
  refine w_getI (x := w) d209_1 (ok.kd hm) PW.2 ?_
  refine w_iflt d209_4 (fun c4 => ?_) (fun c4 => ?_)
  · refine w_aload_n d209_8 rfl ?_
    refine w_callv1 d209_9 (by omega) rfl (ok.kd hm) (by simp) (Nat.le_of_ble_eq_true rfl) ?_
    refine k_M_byteHere ok (by omega) hm RQ PW ?_
    refine w_bipush d209_12 (by decide) ?_
    refine w_bipush d209_14 (by decide) ?_
    refine w_calls3 d209_16 (by omega) rfl rfl (by simp) (Nat.le_of_ble_eq_true rfl) ?_
    refine k_M_in (by omega) ?_
    refine w_ifne d209_19 (fun c19 => ?_) (fun c19 => ?_)
    · have nw : ¬ 0 ≤ w := by omega
      have hin : 97 ≤ bHe l a ∧ bHe l a ≤ 122 := by
        by_cases z : 97 ≤ bHe l a ∧ bHe l a ≤ 122
        · exact z
        · rw [decide_eq_false z] at c19; exact absurd rfl c19
      have E0 := word_in (b := b) hin
      have hal := (bHe_in (l := l) (a := a) (by omega)).1
      have l9 := RQ.2.1
      refine w_aload_n d209_31 rfl ?_
      refine w_getI (x := ((a : Nat) : Int)) d209_32 (ok.kd hm) PW.1 ?_
      refine w_istore2 d209_35 rfl ?_
      have L36 : ∀ (m36 : Nat) (g : Hp) (p : Nat), a + nB b - p = m36 → Fr S m [1740, 1738] h g → (a ≤ p ∧ p ≤ l.length ∧ p ≤ a + nB b) → (PwR g m p w) → (wordE l a (nB b) (lB b) = scan l (isLater (lB b)) p (a + nB b - p)) → Wp G d 209 36 [some (vR (some m)), some (vI (b2i b)), some (vI (a : Nat))] [] g Q := by
        intro m36
        induction m36 using Nat.strongRecOn with | ind m36 IH36 => ?_
        intro g p hm36 FRg pr PW E1
        have okg := FRg.ok
        have RQ := RQ_0.r FRg hm
        refine w_aload_n d209_36 rfl ?_
        refine w_getI (x := ((p : Nat) : Int)) d209_37 (okg.kd hm) PW.1 ?_
        refine w_iload_n d209_40 rfl ?_
        refine w_iload_n d209_41 rfl ?_
        refine w_ifeq d209_42 (fun c42 => ?_) (fun c42 => ?_)
        · have bq : b = false := by
            cases hz : b with
            | true => rw [hz] at c42; exact absurd c42 (by decide)
            | false => rfl
          have nx : nB b = 8 := by rw [bq]; rfl
          refine w_bipush d209_50 (by decide) ?_
          refine w_iadd d209_52 (by constructor <;> omega) ?_
          refine w_icmpge d209_53 (fun c53 => ?_) (fun c53 => ?_)
          · have n0 : a + nB b - p = 0 := by omega
            refine w_return d209_101 ?_
            refine kk g FRg RQ ?_
            have es : wordE l a (nB b) (lB b) = p := by rw [E1]; exact scan_stop (Or.inr (Or.inl n0))
            rw [rsg_w nw hin es]
            exact PW
          · have nn0 : p < a + nB b := by omega
            refine w_aload_n d209_56 rfl ?_
            refine w_callv1 d209_57 (by omega) rfl (okg.kd hm) (by simp) (Nat.le_of_ble_eq_true rfl) ?_
            refine k_M_byteHere okg (by omega) hm RQ PW ?_
            refine w_calls1 d209_60 (by omega) rfl rfl (by simp) (Nat.le_of_ble_eq_true rfl) ?_
            refine k_M_isNameSign okg (by omega) ?_
            refine w_ifne d209_63 (fun c63 => ?_) (fun c63 => ?_)
            · have sn : isNs (bHe l p) = true := by
                cases hz : isNs (bHe l p) with
                | true => rfl
                | false => rw [hz] at c63; exact absurd rfl c63
              have lt := later_b (b := b) (Or.inl sn)
              refine w_aload_n d209_88 rfl ?_
              refine w_dupR d209_89 ?_
              refine w_getI (x := ((p : Nat) : Int)) d209_90 (okg.kd hm) PW.1 ?_
              refine w_iconst d209_93 (by decide) ?_
              refine w_iadd d209_94 (by constructor <;> omega) ?_
              refine wf1740 d209_95 okg hm (by omega) (fun h95 e95 m95 => ?_)
              have f95 : Fr S m [1740] _ _ := Fr.wF okg m95 (FK.pI e95)
              have ok95 := f95.ok
              have FR95 := Fr.tr (F := [1740, 1738]) FRg f95 (by decide) (by decide)
              have RQ := RQ.r f95 hm
              have PW : PwR h95 m (p + 1) w := ⟨by rw [e95, FI_sFI, if_pos ⟨rfl, rfl⟩]; rfl, (f95.i 1738 (by decide)).trans PW.2⟩
              refine w_goto d209_98 ?_
              have E2 := scan_go (n := a + nB b - (p + 1)) lt.1 lt.2
              rw [show a + nB b - (p + 1) + 1 = a + nB b - p by omega] at E2
              refine w_less ?_ (IH36 _ (by omega) h95 (p + 1) rfl FR95 ⟨by omega, by omega, by omega⟩ PW (E1.trans E2))
              exact ⟨Or.inr rfl, Or.inr rfl, Or.inr rfl, trivial⟩
            · have sn : ¬ isNs (bHe l p) = true := by
                intro hz
                rw [hz] at c63
                exact absurd c63 (by decide)
              refine w_iload_n d209_66 rfl ?_
              refine w_ifeq d209_67 (fun c67 => ?_) (fun c67 => ?_)
              · refine w_return d209_101 ?_
                refine kk g FRg RQ ?_
                have es : wordE l a (nB b) (lB b) = p := by rw [E1]; exact scan_stop ((later_no (b := b) sn (fun z => by rw [bq] at z; exact absurd z (by decide))).imp id Or.inr)
                rw [rsg_w nw hin es]
                exact PW
              · rw [bq] at c67; exact absurd rfl c67
        · have bq : b = true := by
            cases hz : b with
            | true => rfl
            | false => rw [hz] at c42; exact absurd rfl c42
          have nx : nB b = 12 := by rw [bq]; rfl
          refine w_bipush d209_45 (by decide) ?_
          refine w_goto d209_47 ?_
          refine w_iadd d209_52 (by constructor <;> omega) ?_
          refine w_icmpge d209_53 (fun c53 => ?_) (fun c53 => ?_)
          · have n0 : a + nB b - p = 0 := by omega
            refine w_return d209_101 ?_
            refine kk g FRg RQ ?_
            have es : wordE l a (nB b) (lB b) = p := by rw [E1]; exact scan_stop (Or.inr (Or.inl n0))
            rw [rsg_w nw hin es]
            exact PW
          · have nn0 : p < a + nB b := by omega
            refine w_aload_n d209_56 rfl ?_
            refine w_callv1 d209_57 (by omega) rfl (okg.kd hm) (by simp) (Nat.le_of_ble_eq_true rfl) ?_
            refine k_M_byteHere okg (by omega) hm RQ PW ?_
            refine w_calls1 d209_60 (by omega) rfl rfl (by simp) (Nat.le_of_ble_eq_true rfl) ?_
            refine k_M_isNameSign okg (by omega) ?_
            refine w_ifne d209_63 (fun c63 => ?_) (fun c63 => ?_)
            · have sn : isNs (bHe l p) = true := by
                cases hz : isNs (bHe l p) with
                | true => rfl
                | false => rw [hz] at c63; exact absurd rfl c63
              have lt := later_b (b := b) (Or.inl sn)
              refine w_aload_n d209_88 rfl ?_
              refine w_dupR d209_89 ?_
              refine w_getI (x := ((p : Nat) : Int)) d209_90 (okg.kd hm) PW.1 ?_
              refine w_iconst d209_93 (by decide) ?_
              refine w_iadd d209_94 (by constructor <;> omega) ?_
              refine wf1740 d209_95 okg hm (by omega) (fun h95 e95 m95 => ?_)
              have f95 : Fr S m [1740] _ _ := Fr.wF okg m95 (FK.pI e95)
              have ok95 := f95.ok
              have FR95 := Fr.tr (F := [1740, 1738]) FRg f95 (by decide) (by decide)
              have RQ := RQ.r f95 hm
              have PW : PwR h95 m (p + 1) w := ⟨by rw [e95, FI_sFI, if_pos ⟨rfl, rfl⟩]; rfl, (f95.i 1738 (by decide)).trans PW.2⟩
              refine w_goto d209_98 ?_
              have E2 := scan_go (n := a + nB b - (p + 1)) lt.1 lt.2
              rw [show a + nB b - (p + 1) + 1 = a + nB b - p by omega] at E2
              refine w_less ?_ (IH36 _ (by omega) h95 (p + 1) rfl FR95 ⟨by omega, by omega, by omega⟩ PW (E1.trans E2))
              exact ⟨Or.inr rfl, Or.inr rfl, Or.inr rfl, trivial⟩
            · have sn : ¬ isNs (bHe l p) = true := by
                intro hz
                rw [hz] at c63
                exact absurd c63 (by decide)
              refine w_iload_n d209_66 rfl ?_
              refine w_ifeq d209_67 (fun c67 => ?_) (fun c67 => ?_)
              · rw [bq] at c67; exact absurd c67 (by decide)
              · refine w_aload_n d209_70 rfl ?_
                refine w_callv1 d209_71 (by omega) rfl (okg.kd hm) (by simp) (Nat.le_of_ble_eq_true rfl) ?_
                refine k_M_byteHere okg (by omega) hm RQ PW ?_
                refine w_bipush d209_74 (by decide) ?_
                refine w_icmpeq d209_76 (fun c76 => ?_) (fun c76 => ?_)
                · have lt := later_b (l := l) (p := p) (b := b) (Or.inr ⟨bq, Or.inl c76⟩)
                  refine w_aload_n d209_88 rfl ?_
                  refine w_dupR d209_89 ?_
                  refine w_getI (x := ((p : Nat) : Int)) d209_90 (okg.kd hm) PW.1 ?_
                  refine w_iconst d209_93 (by decide) ?_
                  refine w_iadd d209_94 (by constructor <;> omega) ?_
                  refine wf1740 d209_95 okg hm (by omega) (fun h95 e95 m95 => ?_)
                  have f95 : Fr S m [1740] _ _ := Fr.wF okg m95 (FK.pI e95)
                  have ok95 := f95.ok
                  have FR95 := Fr.tr (F := [1740, 1738]) FRg f95 (by decide) (by decide)
                  have RQ := RQ.r f95 hm
                  have PW : PwR h95 m (p + 1) w := ⟨by rw [e95, FI_sFI, if_pos ⟨rfl, rfl⟩]; rfl, (f95.i 1738 (by decide)).trans PW.2⟩
                  refine w_goto d209_98 ?_
                  have E2 := scan_go (n := a + nB b - (p + 1)) lt.1 lt.2
                  rw [show a + nB b - (p + 1) + 1 = a + nB b - p by omega] at E2
                  refine w_less ?_ (IH36 _ (by omega) h95 (p + 1) rfl FR95 ⟨by omega, by omega, by omega⟩ PW (E1.trans E2))
                  exact ⟨Or.inr rfl, Or.inr rfl, Or.inr rfl, trivial⟩
                · refine w_aload_n d209_79 rfl ?_
                  refine w_callv1 d209_80 (by omega) rfl (okg.kd hm) (by simp) (Nat.le_of_ble_eq_true rfl) ?_
                  refine k_M_byteHere okg (by omega) hm RQ PW ?_
                  refine w_bipush d209_83 (by decide) ?_
                  refine w_icmpne d209_85 (fun c85 => ?_) (fun c85 => ?_)
                  · refine w_return d209_101 ?_
                    refine kk g FRg RQ ?_
                    have es : wordE l a (nB b) (lB b) = p := by rw [E1]; exact scan_stop ((later_no (b := b) sn (fun _ => ⟨c76, c85⟩)).imp id Or.inr)
                    rw [rsg_w nw hin es]
                    exact PW
                  · have lt := later_b (l := l) (p := p) (b := b) (Or.inr ⟨bq, Or.inr (by omega)⟩)
                    refine w_aload_n d209_88 rfl ?_
                    refine w_dupR d209_89 ?_
                    refine w_getI (x := ((p : Nat) : Int)) d209_90 (okg.kd hm) PW.1 ?_
                    refine w_iconst d209_93 (by decide) ?_
                    refine w_iadd d209_94 (by constructor <;> omega) ?_
                    refine wf1740 d209_95 okg hm (by omega) (fun h95 e95 m95 => ?_)
                    have f95 : Fr S m [1740] _ _ := Fr.wF okg m95 (FK.pI e95)
                    have ok95 := f95.ok
                    have FR95 := Fr.tr (F := [1740, 1738]) FRg f95 (by decide) (by decide)
                    have RQ := RQ.r f95 hm
                    have PW : PwR h95 m (p + 1) w := ⟨by rw [e95, FI_sFI, if_pos ⟨rfl, rfl⟩]; rfl, (f95.i 1738 (by decide)).trans PW.2⟩
                    refine w_goto d209_98 ?_
                    have E2 := scan_go (n := a + nB b - (p + 1)) lt.1 lt.2
                    rw [show a + nB b - (p + 1) + 1 = a + nB b - p by omega] at E2
                    refine w_less ?_ (IH36 _ (by omega) h95 (p + 1) rfl FR95 ⟨by omega, by omega, by omega⟩ PW (E1.trans E2))
                    exact ⟨Or.inr rfl, Or.inr rfl, Or.inr rfl, trivial⟩
      refine w_less ?_ (L36 _ h a rfl (Fr.refl ok) ⟨Nat.le_refl _, by omega, by omega⟩ PW (by rw [E0, show a + nB b - a = nB b by omega]))
      exact ⟨Or.inr rfl, Or.inr rfl, Or.inr rfl, trivial⟩
    · have nin : ¬ (97 ≤ bHe l a ∧ bHe l a ≤ 122) := fun z => by rw [decide_eq_true z] at c19; exact absurd c19 (by decide)
      have rp := rg1740 ok hm
      rw [PW.1] at rp
      refine w_aload_n d209_22 rfl ?_
      refine w_aload_n d209_23 rfl ?_
      refine w_getI (x := ((a : Nat) : Int)) d209_24 (ok.kd hm) PW.1 ?_
      refine wf1738 d209_27 ok hm (by omega) (fun h27 e27 m27 => ?_)
      have f27 : Fr S m [1738] _ _ := Fr.wF ok m27 (FK.pI e27)
      have ok27 := f27.ok
      have FR27 := Fr.le (F := [1740, 1738]) f27 (by decide)
      have RQ := RQ.r f27 hm
      refine w_return d209_30 ?_
      refine kk h27 FR27 RQ ?_
      unfold rsg
      rw [if_neg (by omega), if_neg nin]
      exact ⟨(f27.i 1740 (by decide)).trans PW_0.1, by rw [e27, FI_sFI, if_pos ⟨rfl, rfl⟩]⟩
  · refine w_return d209_7 ?_
    exact kk h (Fr.refl ok) RQ (by unfold rsg; rw [if_pos (by omega)]; exact PW)
