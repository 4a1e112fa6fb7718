/-! a plan: a target told, dropped; a flag -/
theorem tH_snoc (ts : List (Bool × TgV)) (v : Bool × TgV) (i : Nat) : tH (ts ++ [v]) i = (if i = ts.length then v.1 else tH ts i) ∧ tD (ts ++ [v]) i = if i = ts.length then v.2 else tD ts i := by
  unfold tH tD
  rw [getD_snoc]
  split <;> exact ⟨rfl, rfl⟩
theorem tH_set (ts : List (Bool × TgV)) (v : Bool × TgV) (k i : Nat) (hk : k < ts.length) : tH (ts.set k v) i = (if i = k then v.1 else tH ts i) ∧ tD (ts.set k v) i = if i = k then v.2 else tD ts i := by
  unfold tH tD
  rw [getD_set]
  by_cases q : i = k
  · rw [if_pos ⟨q, hk⟩, if_pos q, if_pos q]; exact ⟨rfl, rfl⟩
  · rw [if_neg (fun z => q z.1), if_neg q, if_neg q]; exact ⟨rfl, rfl⟩
theorem d93_0 : dc 93 0 = some (.aload_n 0, 1) := by decide +kernel
theorem d93_1 : dc 93 1 = some (.aload_n 1, 2) := by decide +kernel
theorem d93_2 : dc 93 2 = some (.fload 129, 5) := by decide +kernel
theorem d93_5 : dc 93 5 = some (.invokevirtual 74, 8) := by decide +kernel
theorem d93_8 : dc 93 8 = some (.istore_n 2, 9) := by decide +kernel
theorem d93_9 : dc 93 9 = some (.iload_n 2, 10) := by decide +kernel
theorem d93_10 : dc 93 10 = some (.ifCond .ge ((37 : Nat) : Int), 13) := by decide +kernel
theorem d93_13 : dc 93 13 = some (.aload_n 0, 14) := by decide +kernel
theorem d93_14 : dc 93 14 = some (.getfield 391, 17) := by decide +kernel
theorem d93_17 : dc 93 17 = some (.bipush 14, 19) := by decide +kernel
theorem d93_19 : dc 93 19 = some (.if_icmp .ge ((37 : Nat) : Int), 22) := by decide +kernel
theorem d93_22 : dc 93 22 = some (.aload_n 0, 23) := by decide +kernel
theorem d93_23 : dc 93 23 = some (.getfield 391, 26) := by decide +kernel
theorem d93_26 : dc 93 26 = some (.istore_n 2, 27) := by decide +kernel
theorem d93_27 : dc 93 27 = some (.aload_n 0, 28) := by decide +kernel
theorem d93_28 : dc 93 28 = some (.dup, 29) := by decide +kernel
theorem d93_29 : dc 93 29 = some (.getfield 391, 32) := by decide +kernel
theorem d93_32 : dc 93 32 = some (.iconst 1, 33) := by decide +kernel
theorem d93_33 : dc 93 33 = some (.iadd, 34) := by decide +kernel
theorem d93_34 : dc 93 34 = some (.putfield 391, 37) := by decide +kernel
theorem d93_37 : dc 93 37 = some (.iload_n 2, 38) := by decide +kernel
theorem d93_38 : dc 93 38 = some (.ifCond .lt ((61 : Nat) : Int), 41) := by decide +kernel
theorem d93_41 : dc 93 41 = some (.aload_n 0, 42) := by decide +kernel
theorem d93_42 : dc 93 42 = some (.dload 392, 45) := by decide +kernel
theorem d93_45 : dc 93 45 = some (.iload_n 2, 46) := by decide +kernel
theorem d93_46 : dc 93 46 = some (.aaload, 47) := by decide +kernel
theorem d93_47 : dc 93 47 = some (.aload_n 1, 48) := by decide +kernel
theorem d93_48 : dc 93 48 = some (.invokevirtual 94, 51) := by decide +kernel
theorem d93_51 : dc 93 51 = some (.aload_n 0, 52) := by decide +kernel
theorem d93_52 : dc 93 52 = some (.dload 392, 55) := by decide +kernel
theorem d93_55 : dc 93 55 = some (.iload_n 2, 56) := by decide +kernel
theorem d93_56 : dc 93 56 = some (.aaload, 57) := by decide +kernel
theorem d93_57 : dc 93 57 = some (.iconst 1, 58) := by decide +kernel
theorem d93_58 : dc 93 58 = some (.putstatic 128, 61) := by decide +kernel
theorem d93_61 : dc 93 61 = some (.return_, 62) := by decide +kernel
theorem k_Plan_tellTarget {S : Shp} {G : Nat → Option Nat} {d : Nat} {h : Hp} {Q : Option MV → Hp → Prop} {p : Nat} {a : Nat}  (ok : Ok S h) (h1 : 3 ≤ d) (hp : sK S p = 4) (ha : sK S a = 2) {ts : List (Bool × TgV)} {t : TgV} (tc : TsC S h p ts) (D : DefC S h a t (tgTxt t)) (hab : ¬ U S p a) (hpa : ¬ U S a p) (hok : tgOk t) (hl : (tgTxt t).length ≤ 608) (hr : tix ts (tgN t) < 0 → ts.length < 14)
    (kk : ∀ h', Mo S (U S p) h h' → TsC S h' p (tsPut ts t) → (∀ fl, FilC S h p fl → FilC S h' p fl) → (∀ gs, GsC S h p gs → GsC S h' p gs) → Q none h') : Cl G d 93 [vR (some p), vR (some a)] h Q := by
  show Wp G d 93 0 [some (vR (some p)), some (vR (some a)), none] [] h Q
  have tc0 := tc
  obtain ⟨q1, q2, q3⟩ := tc
  have on := D.2.2.2.2.2.2.2.2.2.1
  have er := tixJ_rg ts (hd (tgN t))
  have ee := tixJ_eq tc0.okn on
  have uE : ∀ k, k < 14 → ¬ U S (sE S (sT S 392 p) k) a := fun k hk u => hab (U_trans (ok.so.uE (by omega) (ok.so.uT (by decide) U_refl)) u)
  refine w_aload_n d93_0 rfl ?_
  refine w_aload_n d93_1 rfl ?_
  refine w_floadV (x := (hd (tgN t))) d93_2 (ok.kd ha) D.1 ?_
  refine w_callv2 d93_5 (by omega) rfl (ok.kd hp) (by simp) (Nat.le_of_ble_eq_true rfl) ?_
  refine k_Plan_numberOf ok (by omega) hp tc0 ?_
  rw [ee]
  have L37 : ∀ (m37 : Nat) (g : Hp) (k : Nat) (u : List (Bool × TgV)), 0 = m37 → Mo S (fun x => U S p x) h g → (FI g 391 p = u.length) → (u.length ≤ 14) → (k < u.length) → (u.set k (true, t) = tsPut ts t) → (∀ i, i < u.length → i ≠ k → FI g 128 (sE S (sT S 392 p) i) = b2i (tH u i) ∧ DefC S g (sE S (sT S 392 p) i) (tD u i) (tgTxt (tD u i)) ∧ tgOk (tD u i)) → (DefC S g a t (tgTxt t)) → ((∀ fl, FilC S h p fl → FilC S g p fl)) → ((∀ gs, GsC S h p gs → GsC S g p gs)) → Wp G d 93 37 [some (vR (some p)), some (vR (some a)), some (vI (k : Nat))] [] g Q := by
    intro m37
    induction m37 using Nat.strongRecOn with | ind m37 IH37 => ?_
    intro g k u hm37 Mg i1 i2 i3 i4 i5 i6 i7 i8
    have okg := Mg.ok
    refine w_iload_n d93_37 rfl ?_
    refine w_iflt d93_38 (fun c38 => ?_) (fun c38 => ?_)
    · omega
    · refine w_aload_n d93_41 rfl ?_
      refine w_dloadS d93_42 (okg.kd hp) (fr392 okg hp) ?_
      refine w_iload_n d93_45 rfl ?_
      have k46 := kE392 okg hp (j := k) (by omega)
      refine w_aaloadSN d93_46 (gi392 okg hp (by omega)) (er392 okg hp (by omega)) ?_
      refine w_aload_n d93_47 rfl ?_
      refine w_callv2 d93_48 (by omega) rfl (okg.kd k46) (by simp) (Nat.le_of_ble_eq_true rfl) ?_
      refine k_Def_copyFrom okg (by omega) k46 ha i6 (uE k (by omega)) hl (fun h48 m48 e48_1 e48_2 => ?_)
      have ok48 := m48.ok
      have M48 := Mo.tr ok Mg m48 (fun x u => (U_trans (ok.so.uE (by omega) (ok.so.uT (by decide) U_refl)) u))
      have kk46 := k46
      refine w_aload_n d93_51 rfl ?_
      refine w_dloadS d93_52 (ok48.kd hp) (fr392 ok48 hp) ?_
      refine w_iload_n d93_55 rfl ?_
      have k56 := kE392 ok48 hp (j := k) (by omega)
      refine w_aaloadSN d93_56 (gi392 ok48 hp (by omega)) (er392 ok48 hp (by omega)) ?_
      refine w_iconst d93_57 (by decide) ?_
      refine wf128 d93_58 ok48 k56 (Or.inr rfl) (fun h58 e58 m58 => ?_)
      have ok58 := m58.ok
      have M58 := Mo.tr ok M48 m58 (fun x e => (e ▸ (ok.so.uE (by omega) (ok.so.uT (by decide) U_refl))))
      refine w_return d93_61 ?_
      have kE := kE392 ok hp (j := k) (by omega)
      have fE : ∀ i, i < 14 → i ≠ k → ∀ y, U S (sE S (sT S 392 p) i) y → ¬ U S (sE S (sT S 392 p) k) y := fun i hi hik y u v => ok.so.defD (by omega) (by omega) hik u v
      have nE : ∀ i, i < 14 → i ≠ k → sE S (sT S 392 p) i ≠ sE S (sT S 392 p) k := fun i hi hik q => fE i hi hik _ U_refl (q ▸ U_refl)
      have zp := ok.so.defN (S := S) (p := p) (i := k) (f := 385) (by omega) (by decide) (by decide)
      have m2 : Mo S (fun y => U S (sE S (sT S 392 p) k) y) g h58 := m48.tr okg m58 (fun x e => e ▸ U_refl)
      refine kk _ M58 ?_ (fun fl D => (i7 fl D).fr okg m2 hp (Or.inl zp.1) (fun f hf => (ok.so.defN (by omega) (by omega) (by omega)).2.1) (fun i hi => (ok.so.defN (f := 387) (by omega) (by omega) (by omega)).2.2 i (by omega))) (fun gs D => (i8 gs D).fr okg m2 hp (Or.inl zp.1) (fun f hf => (ok.so.defN (by omega) (by omega) (by omega)).2.1))
      rw [← i4]
      refine ⟨?_, by rw [List.length_set]; exact i2, fun i hi => ?_⟩
      · rw [List.length_set, m2.fi okg (by omega) zp.1 391]; exact i1
      · rw [List.length_set] at hi
        rw [(tH_set u (true, t) k i i3).1, (tH_set u (true, t) k i i3).2]
        by_cases q : i = k
        · subst q
          rw [if_pos rfl, if_pos rfl]
          refine ⟨?_, ?_, hok⟩
          · rw [e58, FI_sFI, if_pos ⟨rfl, rfl⟩]; rfl
          · obtain ⟨d1, d2, d3, d4, d5, d6, d7, d8, d9, o⟩ := e48_1
            refine ⟨by rw [e58]; exact d1, by rw [e58]; exact d2, by rw [e58]; exact d3, by rw [e58]; exact d4, by rw [e58]; exact d5, by rw [e58]; exact d6, by rw [e58]; exact d7, by rw [e58]; exact d8, ?_, o⟩
            rw [m58.rb ok48 (kT139 ok kE) (fun q => by have := ok.so.ltT (f := 139) (a := sE S (sT S 392 p) i) (by decide); omega)]; exact d9
        · rw [if_neg q, if_neg q]
          obtain ⟨a1, a2, a3⟩ := i5 i hi q
          have ki := kE392 ok hp (j := i) (by omega)
          exact ⟨by rw [m2.fi okg (by omega) (fE i (by omega) q _ U_refl) 128]; exact a1, a2.mo okg m2 ki (fE i (by omega) q), a3⟩
  refine w_istore2 d93_8 rfl ?_
  refine w_iload_n d93_9 rfl ?_
  refine w_ifge d93_10 (fun c10 => ?_) (fun c10 => ?_)
  · have M0_ := Mo.refl (A := (fun x => U S p x)) ok
    refine w_less ?_ (L37 _ h (tix ts (tgN t)).toNat ts rfl M0_ q1 q2 (by omega) (by unfold tsPut; rw [if_neg (by omega)]) (fun i hi _ => q3 i hi) D (fun _ D => D) (fun _ D => D))
    exact ⟨Or.inr rfl, Or.inr rfl, Or.inr (by rw [show (((tix ts (tgN t)).toNat : Nat) : Int) = tix ts (tgN t) by omega]), trivial⟩
  · have hn := hr (by omega)
    refine w_aload_n d93_13 rfl ?_
    refine w_getI (x := (ts.length : Int)) d93_14 (ok.kd hp) q1 ?_
    refine w_bipush d93_17 (by decide) ?_
    refine w_icmpge d93_19 (fun c19 => ?_) (fun c19 => ?_)
    · omega
    · refine w_aload_n d93_22 rfl ?_
      refine w_getI (x := (ts.length : Int)) d93_23 (ok.kd hp) q1 ?_
      refine w_istore2 d93_26 rfl ?_
      refine w_aload_n d93_27 rfl ?_
      refine w_dupR d93_28 ?_
      refine w_getI (x := (ts.length : Int)) d93_29 (ok.kd hp) q1 ?_
      refine w_iconst d93_32 (by decide) ?_
      refine w_iadd d93_33 (by constructor <;> omega) ?_
      refine wf391 d93_34 ok hp (by omega) (fun h34 e34 m34 => ?_)
      have ok34 := m34.ok
      have M34 := Mo.tr ok (Mo.refl (A := (fun x => U S p x)) ok) m34 (fun x e => (e ▸ U_refl))
      refine w_less ?_ (L37 _ h34 ts.length (ts ++ [(true, t)]) rfl M34 (by rw [e34, FI_sFI, if_pos ⟨rfl, rfl⟩, List.length_append]; rfl) (by simp; omega) (by simp) (by unfold tsPut; rw [if_pos (by omega)]; simp) (fun i hi hik => by
        have hi : i < ts.length := by simp at hi; omega
        have nE : sE S (sT S 392 p) i ≠ p := fun q => by have := ok.so.ltT (f := 392) (a := p) (by decide); have := ok.so.ltE (b := sT S 392 p) (j := i) (by omega); omega
        have ki := kE392 ok hp (j := i) (by omega)
        obtain ⟨a1, a2, a3⟩ := q3 i hi
        rw [(tH_snoc ts (true, t) i).1, (tH_snoc ts (true, t) i).2, if_neg hik, if_neg hik, m34.fi ok (by omega) nE 128]
        exact ⟨a1, a2.mo ok m34 ki (fun y u e => by subst e; exact (ok.so.defN (f := 385) (by omega) (by decide) (by decide)).1 u), a3⟩) (D.mo ok m34 ha (fun y u e => by subst e; exact (by have := ok.so.uLe u; have z : U S a y := u; exact hpa z))) (fun _ D => D.fr ok m34 hp (Or.inr (by rw [e34]; rfl)) (fun f hf q => by have := ok.so.ltT (f := f) (a := p) (by omega); omega) (fun i hi q => by have := ok.so.ltT (f := 387) (a := p) (by omega); have := ok.so.ltE (b := sT S 387 p) (j := i) (by omega); omega)) (fun _ D => D.fr ok m34 hp (Or.inr (by rw [e34]; rfl)) (fun f hf q => by have := ok.so.ltT (f := f) (a := p) (by omega); omega)))
      exact ⟨Or.inr rfl, Or.inr rfl, Or.inr rfl, trivial⟩
