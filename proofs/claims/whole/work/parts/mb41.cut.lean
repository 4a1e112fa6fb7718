/-! the reference: a book is cut -/
def cuF (bs : Nat → Int) (f e : Nat) : Nat → Int := fun i => if f ≤ i ∧ i < e then 0 else bs i
theorem d331_0 : dc 331 0 = some (.aload_n 0, 1) := by decide +kernel
theorem d331_1 : dc 331 1 = some (.getfield 1737, 4) := by decide +kernel
theorem d331_4 : dc 331 4 = some (.ifCond .lt ((20 : Nat) : Int), 7) := by decide +kernel
theorem d331_7 : dc 331 7 = some (.iload_n 1, 8) := by decide +kernel
theorem d331_8 : dc 331 8 = some (.aload_n 0, 9) := by decide +kernel
theorem d331_9 : dc 331 9 = some (.getfield 1735, 12) := by decide +kernel
theorem d331_12 : dc 331 12 = some (.aload_n 0, 13) := by decide +kernel
theorem d331_13 : dc 331 13 = some (.getfield 1737, 16) := by decide +kernel
theorem d331_16 : dc 331 16 = some (.isub, 17) := by decide +kernel
theorem d331_17 : dc 331 17 = some (.if_icmp .le ((28 : Nat) : Int), 20) := by decide +kernel
theorem d331_20 : dc 331 20 = some (.aload_n 0, 21) := by decide +kernel
theorem d331_21 : dc 331 21 = some (.getstatic 90, 24) := by decide +kernel
theorem d331_24 : dc 331 24 = some (.invokevirtual 217, 27) := by decide +kernel
theorem d331_27 : dc 331 27 = some (.return_, 28) := by decide +kernel
theorem d331_28 : dc 331 28 = some (.aload_n 0, 29) := by decide +kernel
theorem d331_29 : dc 331 29 = some (.getfield 1737, 32) := by decide +kernel
theorem d331_32 : dc 331 32 = some (.iload_n 1, 33) := by decide +kernel
theorem d331_33 : dc 331 33 = some (.iadd, 34) := by decide +kernel
theorem d331_34 : dc 331 34 = some (.istore_n 2, 35) := by decide +kernel
theorem d331_35 : dc 331 35 = some (.iload_n 2, 36) := by decide +kernel
theorem d331_36 : dc 331 36 = some (.aload_n 0, 37) := by decide +kernel
theorem d331_37 : dc 331 37 = some (.getfield 1735, 40) := by decide +kernel
theorem d331_40 : dc 331 40 = some (.if_icmp .ge ((56 : Nat) : Int), 43) := by decide +kernel
theorem d331_43 : dc 331 43 = some (.aload_n 0, 44) := by decide +kernel
theorem d331_44 : dc 331 44 = some (.dload 1734, 47) := by decide +kernel
theorem d331_47 : dc 331 47 = some (.iload_n 2, 48) := by decide +kernel
theorem d331_48 : dc 331 48 = some (.iconst 0, 49) := by decide +kernel
theorem d331_49 : dc 331 49 = some (.iastore, 50) := by decide +kernel
theorem d331_50 : dc 331 50 = some (.iinc 2 1, 53) := by decide +kernel
theorem d331_53 : dc 331 53 = some (.goto ((35 : Nat) : Int), 56) := by decide +kernel
theorem d331_56 : dc 331 56 = some (.aload_n 0, 57) := by decide +kernel
theorem d331_57 : dc 331 57 = some (.iconst 1, 58) := by decide +kernel
theorem d331_58 : dc 331 58 = some (.putstatic 1736, 61) := by decide +kernel
theorem d331_61 : dc 331 61 = some (.aload_n 0, 62) := by decide +kernel
theorem d331_62 : dc 331 62 = some (.getstatic 86, 65) := by decide +kernel
theorem d331_65 : dc 331 65 = some (.invokevirtual 217, 68) := by decide +kernel
theorem d331_68 : dc 331 68 = some (.return_, 69) := by decide +kernel
theorem k_M_cut {S : Shp} {G : Nat → Option Nat} {d : Nat} {h : Hp} {Q : Option MV → Hp → Prop} {m : Nat} {n : Nat} {la : List Nat} {lt : Int} {u : Nat} {bs : Nat → Int} (ok : Ok S h) (h1 : 5 ≤ d) (hm : sK S m = 14) (TE : TeR S h m la) (LT : FI h 1737 m = lt) (US : FI h 1735 m = ((u : Nat) : Int)) (BO : ArI S h m 1734 bs 2048) (tg : Tg S G) (hn : n ≤ 9999) (hu : u ≤ 2048) (hlt : lt ≤ u)
    (k0 : ∀ h', Fr S m [1734, 1736, 1732, 1733] h h' → (lt < 0 ∨ ((u : Nat) : Int) - lt < (n : Int)) → TeR S h' m (addBs 20000 la (txt 40)) → Q none h')
    (k1 : ∀ h', Fr S m [1734, 1736, 1732, 1733] h h' → 0 ≤ lt → (n : Int) ≤ ((u : Nat) : Int) - lt → TeR S h' m (addBs 20000 la (txt 36)) → ArI S h' m 1734 (cuF bs (lt.toNat + n) u) 2048 → FI h' 1736 m = 1 → Q none h') : Cl G d 331 [vR (some m), vI (n : Nat)] h Q := by
  show Wp G d 331 0 [some (vR (some m)), some (vI (n : Nat)), none] [] h Q
  have TE_0 := TE
  have LT_0 := LT
  have US_0 := US
  have BO_0 := BO
  refine w_aload_n d331_0 rfl ?_
  refine w_getI (x := lt) d331_1 (ok.kd hm) LT ?_
  refine w_iflt d331_4 (fun c4 => ?_) (fun c4 => ?_)
  · refine w_aload_n d331_20 rfl ?_
    obtain ⟨g21, v21, s21⟩ := tg.al ok 40 (by decide)
    refine w_getstaticS d331_21 v21 ?_
    refine w_callv2 d331_24 (by omega) rfl (ok.kd hm) (by simp) (Nat.le_of_ble_eq_true rfl) ?_
    refine k_M_say ok (by omega) hm TE s21 (fun h24 m24 q24 TE => ?_)
    have f24 : Fr S m [1732, 1733] _ _ := Fr.mk ok m24 (fun ζ q => q.elim ((fun ζ e => Or.inl e) ζ) ((fun ζ e => Or.inr ⟨1732, by decide, e ▸ U_refl⟩) ζ)) q24 (by decide)
    have ok24 := f24.ok
    have FR24 := Fr.le (F := [1734, 1736, 1732, 1733]) f24 (by decide)
    have LT := (f24.i 1737).trans LT
    have US := (f24.i 1735).trans US
    have BO := BO.r f24 hm
    refine w_return d331_27 ?_
    exact k0 h24 FR24 (Or.inl (by omega)) TE
  · refine w_iload_n d331_7 rfl ?_
    refine w_aload_n d331_8 rfl ?_
    refine w_getI (x := ((u : Nat) : Int)) d331_9 (ok.kd hm) US ?_
    refine w_aload_n d331_12 rfl ?_
    refine w_getI (x := lt) d331_13 (ok.kd hm) LT ?_
    refine w_isub d331_16 (by constructor <;> omega) ?_
    refine w_icmple d331_17 (fun c17 => ?_) (fun c17 => ?_)
    · obtain ⟨f0, hf0⟩ : ∃ f0 : Nat, lt = (f0 : Int) := ⟨lt.toNat, by omega⟩
      have et : lt.toNat = f0 := by omega
      refine w_aload_n d331_28 rfl ?_
      refine w_getI (x := ((f0 : Nat) : Int)) d331_29 (ok.kd hm) (LT.trans hf0) ?_
      refine w_iload_n d331_32 rfl ?_
      refine w_iadd d331_33 (by constructor <;> omega) ?_
      rw [show ((f0 : Nat) : Int) + ((n : Nat) : Int) = ((f0 + n : Nat) : Int) by omega]
      refine w_istore2 d331_34 rfl ?_
      have L35 : ∀ (m35 : Nat) (g : Hp) (i : Nat), u - i = m35 → Fr S m [1734, 1736, 1732, 1733] h g → (f0 + n ≤ i ∧ i ≤ u) → (∀ j, j < 2048 → AI g (sT S 1734 m) j = if f0 + n ≤ j ∧ j < i then 0 else bs j) → (TeR S g m la) → Wp G d 331 35 [some (vR (some m)), some (vI (n : Nat)), some (vI (i : Nat))] [] g Q := by
        intro m35
        induction m35 using Nat.strongRecOn with | ind m35 IH35 => ?_
        intro g i hm35 FRg il hc TE
        have okg := FRg.ok
        have LT := (FRg.i 1737).trans LT_0
        have US := (FRg.i 1735).trans US_0
        refine w_iload_n d331_35 rfl ?_
        refine w_aload_n d331_36 rfl ?_
        refine w_getI (x := ((u : Nat) : Int)) d331_37 (okg.kd hm) US ?_
        refine w_icmpge d331_40 (fun c40 => ?_) (fun c40 => ?_)
        · have ei : i = u := by omega
          refine w_aload_n d331_56 rfl ?_
          refine w_iconst d331_57 (by decide) ?_
          refine wf1736 d331_58 okg hm (by omega) (fun h58 e58 m58 => ?_)
          have f58 : Fr S m [1736] _ _ := Fr.wF okg m58 (FK.pI e58)
          have ok58 := f58.ok
          have FR58 := Fr.tr (F := [1734, 1736, 1732, 1733]) FRg f58 (by decide) (by decide)
          have TE := TE.r f58 hm
          have LT := (f58.i 1737).trans LT
          have US := (f58.i 1735).trans US
          have SH : FI h58 1736 m = 1 := by rw [e58, FI_sFI, if_pos ⟨rfl, rfl⟩]
          have BO : ArI S h58 m 1734 (cuF bs (lt.toNat + n) u) 2048 := fun j hj => by rw [f58.ai (by have := kT1734 ok hm; omega) (by decide) (by decide) (by decide), hc j hj, et, ei]; rfl
          refine w_aload_n d331_61 rfl ?_
          obtain ⟨g62, v62, s62⟩ := tg.al ok58 36 (by decide)
          refine w_getstaticS d331_62 v62 ?_
          refine w_callv2 d331_65 (by omega) rfl (ok58.kd hm) (by simp) (Nat.le_of_ble_eq_true rfl) ?_
          refine k_M_say ok58 (by omega) hm TE s62 (fun h65 m65 q65 TE => ?_)
          have f65 : Fr S m [1732, 1733] _ _ := Fr.mk ok58 m65 (fun ζ q => q.elim ((fun ζ e => Or.inl e) ζ) ((fun ζ e => Or.inr ⟨1732, by decide, e ▸ U_refl⟩) ζ)) q65 (by decide)
          have ok65 := f65.ok
          have FR65 := Fr.tr (F := [1734, 1736, 1732, 1733]) FR58 f65 (by decide) (by decide)
          have LT := (f65.i 1737).trans LT
          have US := (f65.i 1735).trans US
          have SH := (f65.i 1736).trans SH
          have BO := BO.r f65 hm
          refine w_return d331_68 ?_
          exact k1 h65 FR65 (by omega) (by omega) TE BO SH
        · have hi : i < u := by omega
          refine w_aload_n d331_43 rfl ?_
          refine w_dloadS d331_44 (okg.kd hm) (fr1734 okg hm) ?_
          refine w_iload_n d331_47 rfl ?_
          refine w_iconst d331_48 (by decide) ?_
          refine wa1734 d331_49 okg hm (by omega) (by omega) (fun h49 e49 m49 => ?_)
          have e49 : h49 = sAI g (sT S 1734 m) i 0 := e49
          have f49 : Fr S m [1734] _ _ := Fr.wB okg hm m49 (fun ζ e => ⟨1734, by decide, by decide, e ▸ U_refl⟩)
          have ok49 := f49.ok
          have FR49 := Fr.tr (F := [1734, 1736, 1732, 1733]) FRg f49 (by decide) (by decide)
          have TE := TE.r f49 hm
          have LT := (f49.i 1737).trans LT
          have US := (f49.i 1735).trans US
          refine w_iinc2 d331_50 rfl (by constructor <;> omega) ?_
          refine w_goto d331_53 ?_
          rw [show ((i : Nat) : Int) + 1 = ((i + 1 : Nat) : Int) by omega]
          refine w_less ?_ (IH35 _ (by omega) h49 (i + 1) rfl FR49 ⟨by omega, by omega⟩ (fun j hj => by rw [e49, sArr]; by_cases q : j = i; rw [if_pos q, if_pos (by omega)]; rw [if_neg q, hc j hj]; by_cases q2 : f0 + n ≤ j ∧ j < i; rw [if_pos q2, if_pos (by omega)]; rw [if_neg q2, if_neg (by omega)]) TE)
          exact ⟨Or.inr rfl, Or.inr rfl, Or.inr rfl, trivial⟩
      refine w_less ?_ (L35 _ h (f0 + n) rfl (Fr.refl ok) ⟨Nat.le_refl _, by omega⟩ (fun j hj => by rw [if_neg (by omega)]; exact BO j hj) TE)
      exact ⟨Or.inr rfl, Or.inr rfl, Or.inr rfl, trivial⟩
    · refine w_aload_n d331_20 rfl ?_
      obtain ⟨g21, v21, s21⟩ := tg.al ok 40 (by decide)
      refine w_getstaticS d331_21 v21 ?_
      refine w_callv2 d331_24 (by omega) rfl (ok.kd hm) (by simp) (Nat.le_of_ble_eq_true rfl) ?_
      refine k_M_say ok (by omega) hm TE s21 (fun h24 m24 q24 TE => ?_)
      have f24 : Fr S m [1732, 1733] _ _ := Fr.mk ok m24 (fun ζ q => q.elim ((fun ζ e => Or.inl e) ζ) ((fun ζ e => Or.inr ⟨1732, by decide, e ▸ U_refl⟩) ζ)) q24 (by decide)
      have ok24 := f24.ok
      have FR24 := Fr.le (F := [1734, 1736, 1732, 1733]) f24 (by decide)
      have LT := (f24.i 1737).trans LT
      have US := (f24.i 1735).trans US
      have BO := BO.r f24 hm
      refine w_return d331_27 ?_
      exact k0 h24 FR24 (Or.inr (by omega)) TE
