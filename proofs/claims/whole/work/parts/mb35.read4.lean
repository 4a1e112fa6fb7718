/-! the reference: numbers of a request -/
def rnQ (l : List Nat) (i : Nat) (p : Nat × Int) : Nat × Int := if 0 < i then rxp l 32 p.1 p.2 else p
def rnS (l : List Nat) (p : Nat × Int) : Nat → List Nat × Nat × Int
  | 0 => ([], p)
  | i + 1 => ((rnS l p i).1 ++ [(rnm l (rnQ l i (rnS l p i).2).1 (rnQ l i (rnS l p i).2).2).1], (rnm l (rnQ l i (rnS l p i).2).1 (rnQ l i (rnS l p i).2).2).2)
def AgR (S : Shp) (h : Hp) (m : Nat) (xs : List Nat) : Prop := ∀ j, j < xs.length → AI h (sT S 1741 m) j = ((xs.getD j 0 : Nat) : Int)
theorem AgR.r {S : Shp} {h h' : Hp} {m : Nat} {xs : List Nat} {F : List Nat} (D : AgR S h m xs) (fr : Fr S m F h h') (hm : sK S m = 14) (h1 : 1741 ∉ F ∧ ltF4 F := by decide) : AgR S h' m xs := fun j hj => by
  rw [fr.ai (by have := kT1741 fr.1 hm; omega) (by decide) h1.1 h1.2]
  exact D j hj
theorem AgR.w {S : Shp} {h h' : Hp} {m x i : Nat} {xs : List Nat} (D : AgR S h m xs) (hi : xs.length = i) (e : h' = sAI h (sT S 1741 m) i ((x : Nat) : Int)) : AgR S h' m (xs ++ [x]) := fun j hj => by
  rw [List.length_append] at hj
  have hj2 : j < xs.length + 1 := hj
  rw [e, sArr, List.getD_eq_getElem?_getD]
  by_cases q : j = i
  · rw [if_pos q, q, ← hi, List.getElem?_append_right (Nat.le_refl _), Nat.sub_self]; rfl
  · rw [if_neg q, List.getElem?_append_left (by omega), ← List.getD_eq_getElem?_getD]
    exact D j (by omega)
theorem rnS_len {l : List Nat} {p : Nat × Int} : ∀ {i : Nat}, (rnS l p i).1.length = i
  | 0 => rfl
  | i + 1 => by rw [rnS, List.length_append, rnS_len]; rfl
theorem rxp_le {l : List Nat} {c : Int} {a : Nat} {w : Int} (ha : a ≤ l.length) (hc : 0 ≤ c) : (rxp l c a w).1 ≤ l.length := by
  unfold rxp
  split
  · exact ha
  · split
    · rename_i z
      exact (bHe_in (l := l) (a := a) (by omega)).1
    · exact ha
theorem rnm_le {l : List Nat} {a : Nat} {w : Int} (ha : a ≤ l.length) : (rnm l a w).1 ≤ 9999 ∧ (rnm l a w).2.1 ≤ l.length := by
  unfold rnm
  split
  · exact ⟨Nat.zero_le _, ha⟩
  · split
    · exact ⟨num_ok ha, (scan_le ha).1⟩
    · exact ⟨Nat.zero_le _, ha⟩
theorem rnQ_le {l : List Nat} {i : Nat} {p : Nat × Int} (hp : p.1 ≤ l.length) : (rnQ l i p).1 ≤ l.length := by
  unfold rnQ
  split
  · exact rxp_le hp (by decide)
  · exact hp
theorem rnS_le {l : List Nat} {p : Nat × Int} (hp : p.1 ≤ l.length) : ∀ {i : Nat}, (rnS l p i).2.1 ≤ l.length
  | 0 => hp
  | i + 1 => (rnm_le (rnQ_le (rnS_le hp))).2
theorem d215_0 : dc 215 0 = some (.iconst 0, 1) := by decide +kernel
theorem d215_1 : dc 215 1 = some (.istore_n 2, 2) := by decide +kernel
theorem d215_2 : dc 215 2 = some (.iload_n 2, 3) := by decide +kernel
theorem d215_3 : dc 215 3 = some (.iload_n 1, 4) := by decide +kernel
theorem d215_4 : dc 215 4 = some (.if_icmp .ge ((33 : Nat) : Int), 7) := by decide +kernel
theorem d215_7 : dc 215 7 = some (.iload_n 2, 8) := by decide +kernel
theorem d215_8 : dc 215 8 = some (.ifCond .le ((17 : Nat) : Int), 11) := by decide +kernel
theorem d215_11 : dc 215 11 = some (.aload_n 0, 12) := by decide +kernel
theorem d215_12 : dc 215 12 = some (.bipush 32, 14) := by decide +kernel
theorem d215_14 : dc 215 14 = some (.invokevirtual 204, 17) := by decide +kernel
theorem d215_17 : dc 215 17 = some (.aload_n 0, 18) := by decide +kernel
theorem d215_18 : dc 215 18 = some (.dload 1741, 21) := by decide +kernel
theorem d215_21 : dc 215 21 = some (.iload_n 2, 22) := by decide +kernel
theorem d215_22 : dc 215 22 = some (.aload_n 0, 23) := by decide +kernel
theorem d215_23 : dc 215 23 = some (.invokevirtual 214, 26) := by decide +kernel
theorem d215_26 : dc 215 26 = some (.iastore, 27) := by decide +kernel
theorem d215_27 : dc 215 27 = some (.iinc 2 1, 30) := by decide +kernel
theorem d215_30 : dc 215 30 = some (.goto ((2 : Nat) : Int), 33) := by decide +kernel
theorem d215_33 : dc 215 33 = some (.return_, 34) := by decide +kernel
theorem k_M_readNumbers {S : Shp} {G : Nat → Option Nat} {d : Nat} {h : Hp} {Q : Option MV → Hp → Prop} {m : Nat} {n : Nat} {l : List Nat} {a : Nat} {w : Int} (ok : Ok S h) (h1 : 3 ≤ d) (hm : sK S m = 14) (RQ : RqR S h m l) (PW : PwR h m a w) (hal : a ≤ l.length) (hn : n ≤ 5)
    (kk : ∀ h', Fr S m [1740, 1738, 1741] h h' → RqR S h' m l → PwR h' m (rnS l (a, w) n).2.1 (rnS l (a, w) n).2.2 → AgR S h' m (rnS l (a, w) n).1 → Q none h') : Cl G d 215 [vR (some m), vI (n : Nat)] h Q := by
  show Wp G d 215 0 [some (vR (some m)), some (vI (n : Nat)), none] [] h Q
  have RQ_0 := RQ
  have PW_0 := PW
  refine w_iconst d215_0 (by decide) ?_
  refine w_istore2 d215_1 rfl ?_
  have L2 : ∀ (m2 : Nat) (g : Hp) (i : Nat), n - i = m2 → Fr S m [1740, 1738, 1741] h g → (i ≤ n) → (PwR g m (rnS l (a, w) i).2.1 (rnS l (a, w) i).2.2) → (AgR S g m (rnS l (a, w) i).1) → Wp G d 215 2 [some (vR (some m)), some (vI (n : Nat)), some (vI (i : Nat))] [] g Q := by
    intro m2
    induction m2 using Nat.strongRecOn with | ind m2 IH2 => ?_
    intro g i hm2 FRg il PW AR
    have okg := FRg.ok
    have RQ := RQ_0.r FRg hm
    refine w_iload_n d215_2 rfl ?_
    refine w_iload_n d215_3 rfl ?_
    refine w_icmpge d215_4 (fun c4 => ?_) (fun c4 => ?_)
    · have ei : i = n := by omega
      rw [ei] at PW AR
      refine w_return d215_33 ?_
      exact kk g FRg RQ PW AR
    · have hi : i < n := by omega
      have pl := rnS_le (p := (a, w)) (i := i) hal
      have ql := rnQ_le (i := i) pl
      have rl := rnm_le (w := (rnQ l i (rnS l (a, w) i).2).2) ql
      have sl := @rnS_len l (a, w) i
      refine w_iload_n d215_7 rfl ?_
      refine w_ifle d215_8 (fun c8 => ?_) (fun c8 => ?_)
      · have PW : PwR g m (rnQ l i (rnS l (a, w) i).2).1 (rnQ l i (rnS l (a, w) i).2).2 := by unfold rnQ; rw [if_neg (by omega)]; exact PW
        refine w_aload_n d215_17 rfl ?_
        refine w_dloadS d215_18 (okg.kd hm) (fr1741 okg hm) ?_
        refine w_iload_n d215_21 rfl ?_
        refine w_aload_n d215_22 rfl ?_
        refine w_callv1 d215_23 (by omega) rfl (okg.kd hm) (by simp) (Nat.le_of_ble_eq_true rfl) ?_
        refine k_M_readNumber okg (by omega) hm RQ PW (fun h23 f23 RQ PW => ?_)
        have ok23 := f23.ok
        have FR23 := Fr.tr (F := [1740, 1738, 1741]) FRg f23 (by decide) (by decide)
        have AR := AR.r f23 hm
        refine wa1741 d215_26 ok23 hm (by omega) (by omega) (fun h26 e26 m26 => ?_)
        have e26 : h26 = sAI h23 (sT S 1741 m) i (((rnm l (rnQ l i (rnS l (a, w) i).2).1 (rnQ l i (rnS l (a, w) i).2).2).1 : Nat) : Int) := e26
        have f26 : Fr S m [1741] _ _ := Fr.wB ok23 hm m26 (fun ζ e => ⟨1741, by decide, by decide, e ▸ U_refl⟩)
        have ok26 := f26.ok
        have FR26 := Fr.tr (F := [1740, 1738, 1741]) FR23 f26 (by decide) (by decide)
        have RQ := RQ.r f26 hm
        have PW := PW.r f26 hm
        have AR := AR.w sl e26
        refine w_iinc2 d215_27 rfl (by constructor <;> omega) ?_
        refine w_goto d215_30 ?_
        rw [show ((i : Nat) : Int) + 1 = ((i + 1 : Nat) : Int) by omega]
        refine w_less ?_ (IH2 _ (by omega) h26 (i + 1) rfl FR26 (by omega) PW AR)
        exact ⟨Or.inr rfl, Or.inr rfl, Or.inr rfl, trivial⟩
      · refine w_aload_n d215_11 rfl ?_
        refine w_bipush d215_12 (by decide) ?_
        refine w_callv2 d215_14 (by omega) rfl (okg.kd hm) (by simp) (Nat.le_of_ble_eq_true rfl) ?_
        refine k_M_expect okg (by omega) hm RQ PW (by decide) (fun h14 f14 RQ PW => ?_)
        have ok14 := f14.ok
        have FR14 := Fr.tr (F := [1740, 1738, 1741]) FRg f14 (by decide) (by decide)
        have AR := AR.r f14 hm
        have PW : PwR h14 m (rnQ l i (rnS l (a, w) i).2).1 (rnQ l i (rnS l (a, w) i).2).2 := by unfold rnQ; rw [if_pos (by omega)]; exact PW
        refine w_aload_n d215_17 rfl ?_
        refine w_dloadS d215_18 (ok14.kd hm) (fr1741 ok14 hm) ?_
        refine w_iload_n d215_21 rfl ?_
        refine w_aload_n d215_22 rfl ?_
        refine w_callv1 d215_23 (by omega) rfl (ok14.kd hm) (by simp) (Nat.le_of_ble_eq_true rfl) ?_
        refine k_M_readNumber ok14 (by omega) hm RQ PW (fun h23 f23 RQ PW => ?_)
        have ok23 := f23.ok
        have FR23 := Fr.tr (F := [1740, 1738, 1741]) FR14 f23 (by decide) (by decide)
        have AR := AR.r f23 hm
        refine wa1741 d215_26 ok23 hm (by omega) (by omega) (fun h26 e26 m26 => ?_)
        have e26 : h26 = sAI h23 (sT S 1741 m) i (((rnm l (rnQ l i (rnS l (a, w) i).2).1 (rnQ l i (rnS l (a, w) i).2).2).1 : Nat) : Int) := e26
        have f26 : Fr S m [1741] _ _ := Fr.wB ok23 hm m26 (fun ζ e => ⟨1741, by decide, by decide, e ▸ U_refl⟩)
        have ok26 := f26.ok
        have FR26 := Fr.tr (F := [1740, 1738, 1741]) FR23 f26 (by decide) (by decide)
        have RQ := RQ.r f26 hm
        have PW := PW.r f26 hm
        have AR := AR.w sl e26
        refine w_iinc2 d215_27 rfl (by constructor <;> omega) ?_
        refine w_goto d215_30 ?_
        rw [show ((i : Nat) : Int) + 1 = ((i + 1 : Nat) : Int) by omega]
        refine w_less ?_ (IH2 _ (by omega) h26 (i + 1) rfl FR26 (by omega) PW AR)
        exact ⟨Or.inr rfl, Or.inr rfl, Or.inr rfl, trivial⟩
  refine w_less ?_ (L2 _ h 0 rfl (Fr.refl ok) (Nat.zero_le _) PW (fun j hj => absurd hj (Nat.not_lt_zero _)))
  exact ⟨Or.inr rfl, Or.inr rfl, Or.inr rfl, trivial⟩
