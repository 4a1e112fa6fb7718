/-! a plan: a target dropped, a flag -/
theorem gN_snoc (gs : List (List Nat × Nat)) (v : List Nat × Nat) (i : Nat) : gN (gs ++ [v]) i = (if i = gs.length then v.1 else gN gs i) ∧ gK (gs ++ [v]) i = if i = gs.length then v.2 else gK gs i := by
  unfold gN gK
  rw [getD_snoc]
  split <;> exact ⟨rfl, rfl⟩
theorem gN_set (gs : List (List Nat × Nat)) (v : List Nat × Nat) (k i : Nat) (hk : k < gs.length) : gN (gs.set k v) i = (if i = k then v.1 else gN gs i) ∧ gK (gs.set k v) i = if i = k then v.2 else gK gs i := by
  unfold gN gK
  rw [getD_set]
  by_cases q : i = k
  · rw [if_pos ⟨q, hk⟩, if_pos q, if_pos q]; exact ⟨rfl, rfl⟩
  · rw [if_neg (fun z => q z.1), if_neg q, if_neg q]; exact ⟨rfl, rfl⟩
theorem SOk.pT {S : Shp} (so : SOk S) {f p : Nat} (hf : f < 4096) : sT S f p ≠ p := fun q => by have := so.ltT (f := f) (a := p) hf; omega
theorem SOk.pE {S : Shp} (so : SOk S) {f p i : Nat} (hf : f < 4096) (hi : i < 4096) : sE S (sT S f p) i ≠ p := fun q => by have := so.ltT (f := f) (a := p) hf; have := so.ltE (b := sT S f p) (j := i) hi; omega
theorem d95_0 : dc 95 0 = some (.aload_n 0, 1) := by decide +kernel
theorem d95_1 : dc 95 1 = some (.lload_n 1, 2) := by decide +kernel
theorem d95_2 : dc 95 2 = some (.invokevirtual 74, 5) := by decide +kernel
theorem d95_5 : dc 95 5 = some (.istore_n 3, 6) := by decide +kernel
theorem d95_6 : dc 95 6 = some (.iload_n 3, 7) := by decide +kernel
theorem d95_7 : dc 95 7 = some (.ifCond .lt ((20 : Nat) : Int), 10) := by decide +kernel
theorem d95_10 : dc 95 10 = some (.aload_n 0, 11) := by decide +kernel
theorem d95_11 : dc 95 11 = some (.dload 392, 14) := by decide +kernel
theorem d95_14 : dc 95 14 = some (.iload_n 3, 15) := by decide +kernel
theorem d95_15 : dc 95 15 = some (.aaload, 16) := by decide +kernel
theorem d95_16 : dc 95 16 = some (.iconst 0, 17) := by decide +kernel
theorem d95_17 : dc 95 17 = some (.putstatic 128, 20) := by decide +kernel
theorem d95_20 : dc 95 20 = some (.return_, 21) := by decide +kernel
theorem k_Plan_drop {S : Shp} {G : Nat → Option Nat} {d : Nat} {h : Hp} {Q : Option MV → Hp → Prop} {p : Nat} {x : Int64}  (ok : Ok S h) (h1 : 1 ≤ d) (hp : sK S p = 4) {ts : List (Bool × TgV)} {n : List Nat} (tc : TsC S h p ts) (hn : okN n) (hx : x = hd n)
    (kk : ∀ h', Mo S (U S p) h h' → TsC S h' p (tsDrop ts n) → (∀ fl, FilC S h p fl → FilC S h' p fl) → (∀ gs, GsC S h p gs → GsC S h' p gs) → Q none h') : Cl G d 95 [vR (some p), vJ x] h Q := by
  show Wp G d 95 0 [some (vR (some p)), some (vJ x), none, none] [] h Q
  have tc0 := tc
  obtain ⟨q1, q2, q3⟩ := tc
  have er := tixJ_rg ts x
  have ee : tixJ ts x = tix ts n := by rw [hx]; exact tixJ_eq tc0.okn hn
  refine w_aload_n d95_0 rfl ?_
  refine w_lload_n d95_1 rfl ?_
  refine w_callv2 d95_2 (by omega) rfl (ok.kd hp) (by simp) (Nat.le_of_ble_eq_true rfl) ?_
  refine k_Plan_numberOf ok (by omega) hp tc0 ?_
  rw [ee]
  refine w_istore3 d95_5 rfl ?_
  refine w_iload_n d95_6 rfl ?_
  refine w_iflt d95_7 (fun c7 => ?_) (fun c7 => ?_)
  · refine w_return d95_20 ?_
    exact kk h (Mo.refl ok) (by unfold tsDrop; rw [if_pos (by omega)]; exact tc0) (fun _ D => D) (fun _ D => D)
  · have hk : 0 ≤ tix ts n := by omega
    refine w_aload_n d95_10 rfl ?_
    refine w_dloadS d95_11 (ok.kd hp) (fr392 ok hp) ?_
    refine w_iload_n d95_14 rfl ?_
    rw [show tix ts n = (((tix ts n).toNat : Nat) : Int) by omega]
    generalize hkk : (tix ts n).toNat = k
    refine w_aaloadS d95_15 (gi392 ok hp (by omega)) (er392 ok hp (j := k) (by omega)) ?_
    refine w_iconst d95_16 (by decide) ?_
    refine wf128 d95_17 ok (kE392 ok hp (j := k) (by omega)) (Or.inl rfl) (fun h17 e17 m17 => ?_)
    have ok17 := m17.ok
    have M17 := Mo.tr ok (Mo.refl (A := (fun x => U S p x)) ok) m17 (fun x e => (e ▸ (ok.so.uE (by omega) (ok.so.uT (by decide) U_refl))))
    refine w_return d95_20 ?_
    have kE := kE392 ok hp (j := k) (by omega)
    have nE : ∀ f, f < 4096 → sT S f p ≠ sE S (sT S 392 p) k := fun f hf => ok.so.neE hf (by omega)
    refine kk _ M17 ?_ (fun fl D => D.fr ok m17 hp (Or.inl (fun q => ok.so.pE (by decide) (by omega) q.symm)) (fun f hf => nE f (by omega)) (fun i hi q => absurd ((ok.so.inj (by decide) (by decide)).mp ((ok.so.injE (by omega) (by omega)).mp q).1).1 (by decide))) (fun gs D => D.fr ok m17 hp (Or.inl (fun q => ok.so.pE (by decide) (by omega) q.symm)) (fun f hf => nE f (by omega)))
    unfold tsDrop
    rw [if_neg (by omega), hkk]
    refine ⟨?_, by rw [List.length_set]; exact q2, fun i hi => ?_⟩
    · rw [List.length_set, m17.fi ok (by omega) (fun q => ok.so.pE (by decide) (by omega) q.symm) 391]; exact q1
    · rw [List.length_set] at hi
      have hk2 : k < ts.length := by omega
      rw [(tH_set ts (false, tD ts k) k i hk2).1, (tH_set ts (false, tD ts k) k i hk2).2]
      obtain ⟨a1, a2, a3⟩ := q3 i hi
      have ki := kE392 ok hp (j := i) (by omega)
      by_cases q : i = k
      · subst q
        rw [if_pos rfl, if_pos rfl]
        refine ⟨by rw [e17, FI_sFI, if_pos ⟨rfl, rfl⟩]; rfl, ?_, a3⟩
        obtain ⟨d1, d2, d3, d4, d5, d6, d7, d8, d9, o⟩ := a2
        refine ⟨by rw [e17]; exact d1, by rw [e17]; exact d2, by rw [e17]; exact d3, by rw [e17]; exact d4, by rw [e17]; exact d5, by rw [e17]; exact d6, by rw [e17]; exact d7, by rw [e17]; exact d8, ?_, o⟩
        rw [m17.rb ok (kT139 ok ki) (ok.so.pT (by decide))]; exact d9
      · rw [if_neg q, if_neg q]
        exact ⟨by rw [m17.fi ok (by omega) (fun z => q ((ok.so.injE (by omega) (by omega)).mp z).2) 128]; exact a1, a2.mo ok m17 ki (fun y u e => ok.so.defD (by omega) (by omega) q u (e ▸ U_refl)), a3⟩
theorem d92_0 : dc 92 0 = some (.aload_n 0, 1) := by decide +kernel
theorem d92_1 : dc 92 1 = some (.lload_n 1, 2) := by decide +kernel
theorem d92_2 : dc 92 2 = some (.invokevirtual 70, 5) := by decide +kernel
theorem d92_5 : dc 92 5 = some (.istore 4, 7) := by decide +kernel
theorem d92_7 : dc 92 7 = some (.iload 4, 9) := by decide +kernel
theorem d92_9 : dc 92 9 = some (.ifCond .ge ((37 : Nat) : Int), 12) := by decide +kernel
theorem d92_12 : dc 92 12 = some (.aload_n 0, 13) := by decide +kernel
theorem d92_13 : dc 92 13 = some (.getfield 388, 16) := by decide +kernel
theorem d92_16 : dc 92 16 = some (.bipush 6, 18) := by decide +kernel
theorem d92_18 : dc 92 18 = some (.if_icmp .ge ((37 : Nat) : Int), 21) := by decide +kernel
theorem d92_21 : dc 92 21 = some (.aload_n 0, 22) := by decide +kernel
theorem d92_22 : dc 92 22 = some (.getfield 388, 25) := by decide +kernel
theorem d92_25 : dc 92 25 = some (.istore 4, 27) := by decide +kernel
theorem d92_27 : dc 92 27 = some (.aload_n 0, 28) := by decide +kernel
theorem d92_28 : dc 92 28 = some (.dup, 29) := by decide +kernel
theorem d92_29 : dc 92 29 = some (.getfield 388, 32) := by decide +kernel
theorem d92_32 : dc 92 32 = some (.iconst 1, 33) := by decide +kernel
theorem d92_33 : dc 92 33 = some (.iadd, 34) := by decide +kernel
theorem d92_34 : dc 92 34 = some (.putfield 388, 37) := by decide +kernel
theorem d92_37 : dc 92 37 = some (.iload 4, 39) := by decide +kernel
theorem d92_39 : dc 92 39 = some (.ifCond .lt ((58 : Nat) : Int), 42) := by decide +kernel
theorem d92_42 : dc 92 42 = some (.aload_n 0, 43) := by decide +kernel
theorem d92_43 : dc 92 43 = some (.dload 389, 46) := by decide +kernel
theorem d92_46 : dc 92 46 = some (.iload 4, 48) := by decide +kernel
theorem d92_48 : dc 92 48 = some (.lload_n 1, 49) := by decide +kernel
theorem d92_49 : dc 92 49 = some (.lastore, 50) := by decide +kernel
theorem d92_50 : dc 92 50 = some (.aload_n 0, 51) := by decide +kernel
theorem d92_51 : dc 92 51 = some (.dload 390, 54) := by decide +kernel
theorem d92_54 : dc 92 54 = some (.iload 4, 56) := by decide +kernel
theorem d92_56 : dc 92 56 = some (.iload_n 3, 57) := by decide +kernel
theorem d92_57 : dc 92 57 = some (.iastore, 58) := by decide +kernel
theorem d92_58 : dc 92 58 = some (.return_, 59) := by decide +kernel
theorem k_Plan_setFlag {S : Shp} {G : Nat → Option Nat} {d : Nat} {h : Hp} {Q : Option MV → Hp → Prop} {p : Nat} {x : Int64} {v : Nat}  (ok : Ok S h) (h1 : 1 ≤ d) (hp : sK S p = 4) {gs : List (List Nat × Nat)} {n : List Nat} (gc : GsC S h p gs) (hn : okN n) (hx : x = hd n) (hv : v ≤ 9999) (hr : gix gs n < 0 → gs.length < 6)
    (kk : ∀ h', Mo S (U S p) h h' → GsC S h' p (gsPut gs n v) → (∀ fl, FilC S h p fl → FilC S h' p fl) → (∀ ts, TsC S h p ts → TsC S h' p ts) → Q none h') : Cl G d 92 [vR (some p), vJ x, vI (v : Nat)] h Q := by
  show Wp G d 92 0 [some (vR (some p)), some (vJ x), none, some (vI (v : Nat)), none] [] h Q
  have gc0 := gc
  obtain ⟨q1, q2, q3⟩ := gc
  have er := gixJ_rg gs x
  have ee : gixJ gs x = gix gs n := by rw [hx]; exact gixJ_eq gc0.okn hn
  refine w_aload_n d92_0 rfl ?_
  refine w_lload_n d92_1 rfl ?_
  refine w_callv2 d92_2 (by omega) rfl (ok.kd hp) (by simp) (Nat.le_of_ble_eq_true rfl) ?_
  refine k_Plan_flagAt ok (by omega) hp gc0 ?_
  rw [ee]
  have L37 : ∀ (m37 : Nat) (g : Hp) (k : Nat) (u : List (List Nat × Nat)), 0 = m37 → Mo S (fun x => U S p x) h g → (FI g 388 p = u.length) → (u.length ≤ 6) → (k < u.length) → (u.set k (n, v) = gsPut gs n v) → (∀ i, i < u.length → i ≠ k → AL g (sT S 389 p) i = hd (gN u i) ∧ AI g (sT S 390 p) i = (gK u i : Nat) ∧ okN (gN u i) ∧ gK u i ≤ 9999) → ((∀ fl, FilC S h p fl → FilC S g p fl)) → ((∀ ts, TsC S h p ts → TsC S g p ts)) → Wp G d 92 37 [some (vR (some p)), some (vJ x), none, some (vI (v : Nat)), some (vI (k : Nat))] [] g Q := by
    intro m37
    induction m37 using Nat.strongRecOn with | ind m37 IH37 => ?_
    intro g k u hm37 Mg i1 i2 i3 i4 i5 i6 i7
    have okg := Mg.ok
    refine w_iload d92_37 rfl ?_
    refine w_iflt d92_39 (fun c39 => ?_) (fun c39 => ?_)
    · omega
    · refine w_aload_n d92_42 rfl ?_
      refine w_dloadS d92_43 (okg.kd hp) (fr389 okg hp) ?_
      refine w_iload d92_46 rfl ?_
      refine w_lload_n d92_48 rfl ?_
      refine wa389 d92_49 okg hp (by omega) (fun h49 e49 m49 => ?_)
      have e49 : h49 = sAL g (sT S 389 p) k x := e49
      have ok49 := m49.ok
      have M49 := Mo.tr ok Mg m49 (fun x e => (e ▸ (ok.so.uT (by decide) U_refl)))
      refine w_aload_n d92_50 rfl ?_
      refine w_dloadS d92_51 (ok49.kd hp) (fr390 ok49 hp) ?_
      refine w_iload d92_54 rfl ?_
      refine w_iload_n d92_56 rfl ?_
      refine wa390 d92_57 ok49 hp (by omega) (by omega) (fun h57 e57 m57 => ?_)
      have e57 : h57 = sAI h49 (sT S 390 p) k ((v : Nat) : Int) := e57
      have ok57 := m57.ok
      have M57 := Mo.tr ok M49 m57 (fun x e => (e ▸ (ok.so.uT (by decide) U_refl)))
      refine w_return d92_58 ?_
      have k9 := kT389 ok hp
      have k0 := kT390 ok hp
      have ne : ∀ f g, f < 4096 → g < 4096 → f ≠ g → sT S f p ≠ sT S g p := fun f g hf hg hfg q => hfg ((ok.so.inj hf hg).mp q).1
      refine kk _ M57 ?_ (fun fl D => ((i6 fl D).fr okg m49 hp (Or.inl (fun q => ok.so.pT (by decide) q.symm)) (fun f hf => ne f 389 (by omega) (by decide) (by omega)) (fun i hi q => ok.so.neE (by decide) (by omega) q.symm)).fr ok49 m57 hp (Or.inl (fun q => ok.so.pT (by decide) q.symm)) (fun f hf => ne f 390 (by omega) (by decide) (by omega)) (fun i hi q => ok.so.neE (by decide) (by omega) q.symm)) (fun ts D => ((i7 ts D).fr okg m49 hp (Or.inl (fun q => ok.so.pT (by decide) q.symm)) (fun i y hi u q => by have := D.2.1; subst q; exact (ok.so.defN (f := 389) (by omega) (by decide) (by decide)).2.1 u)).fr ok49 m57 hp (Or.inl (fun q => ok.so.pT (by decide) q.symm)) (fun i y hi u q => by have := D.2.1; subst q; exact (ok.so.defN (f := 390) (by omega) (by decide) (by decide)).2.1 u))
      rw [← i4]
      refine ⟨?_, by rw [List.length_set]; exact i2, fun i hi => ?_⟩
      · rw [List.length_set, m57.fi ok49 (by omega) (fun q => ok.so.pT (by decide) q.symm) 388, m49.fi okg (by omega) (fun q => ok.so.pT (by decide) q.symm) 388]; exact i1
      · rw [List.length_set] at hi
        rw [(gN_set u (n, v) k i i3).1, (gN_set u (n, v) k i i3).2]
        have n90 := ne 389 390 (by decide) (by decide) (by decide)
        by_cases q : i = k
        · subst q
          simp [e57, e49, FI_sFI, FL_sFI, FR_sFI, AI_sFI, AL_sFI, AR_sFI, FI_sFL, FL_sFL, FR_sFL, AI_sFL, AL_sFL, AR_sFL, FI_sFR, FL_sFR, FR_sFR, AI_sFR, AL_sFR, AR_sFR, FI_sAI, FL_sAI, FR_sAI, AI_sAI, AL_sAI, AR_sAI, FI_sAL, FL_sAL, FR_sAL, AI_sAL, AL_sAL, AR_sAL, FI_sAR, FL_sAR, FR_sAR, AI_sAR, AL_sAR, AR_sAR, FI_cpI, FL_cpI, FR_cpI, AI_cpI, AL_cpI, AR_cpI, FI_cpL, FL_cpL, FR_cpL, AI_cpL, AL_cpL, AR_cpL, n90, n90.symm, hx, hv]
          exact hn
        · obtain ⟨a1, a2, a3, a4⟩ := i5 i hi q
          simp [e57, e49, FI_sFI, FL_sFI, FR_sFI, AI_sFI, AL_sFI, AR_sFI, FI_sFL, FL_sFL, FR_sFL, AI_sFL, AL_sFL, AR_sFL, FI_sFR, FL_sFR, FR_sFR, AI_sFR, AL_sFR, AR_sFR, FI_sAI, FL_sAI, FR_sAI, AI_sAI, AL_sAI, AR_sAI, FI_sAL, FL_sAL, FR_sAL, AI_sAL, AL_sAL, AR_sAL, FI_sAR, FL_sAR, FR_sAR, AI_sAR, AL_sAR, AR_sAR, FI_cpI, FL_cpI, FR_cpI, AI_cpI, AL_cpI, AR_cpI, FI_cpL, FL_cpL, FR_cpL, AI_cpL, AL_cpL, AR_cpL, n90, n90.symm, q, a1, a2, a4]
          exact a3
  refine w_istore4 d92_5 rfl ?_
  refine w_iload d92_7 rfl ?_
  refine w_ifge d92_9 (fun c9 => ?_) (fun c9 => ?_)
  · have M0_ := Mo.refl (A := (fun x => U S p x)) ok
    refine w_less ?_ (L37 _ h (gix gs n).toNat gs rfl M0_ q1 q2 (by omega) (by unfold gsPut; rw [if_neg (by omega)]) (fun i hi _ => q3 i hi) (fun _ D => D) (fun _ D => D))
    exact ⟨Or.inr rfl, Or.inr rfl, Or.inl rfl, Or.inr rfl, Or.inr (by rw [show (((gix gs n).toNat : Nat) : Int) = gix gs n by omega]), trivial⟩
  · have hm := hr (by omega)
    refine w_aload_n d92_12 rfl ?_
    refine w_getI (x := (gs.length : Int)) d92_13 (ok.kd hp) q1 ?_
    refine w_bipush d92_16 (by decide) ?_
    refine w_icmpge d92_18 (fun c18 => ?_) (fun c18 => ?_)
    · omega
    · refine w_aload_n d92_21 rfl ?_
      refine w_getI (x := (gs.length : Int)) d92_22 (ok.kd hp) q1 ?_
      refine w_istore4 d92_25 rfl ?_
      refine w_aload_n d92_27 rfl ?_
      refine w_dupR d92_28 ?_
      refine w_getI (x := (gs.length : Int)) d92_29 (ok.kd hp) q1 ?_
      refine w_iconst d92_32 (by decide) ?_
      refine w_iadd d92_33 (by constructor <;> omega) ?_
      refine wf388 d92_34 ok hp (by omega) (fun h34 e34 m34 => ?_)
      have ok34 := m34.ok
      have M34 := Mo.tr ok (Mo.refl (A := (fun x => U S p x)) ok) m34 (fun x e => (e ▸ U_refl))
      refine w_less ?_ (L37 _ h34 gs.length (gs ++ [(n, v)]) rfl M34 (by rw [e34, FI_sFI, if_pos ⟨rfl, rfl⟩, List.length_append]; rfl) (by simp; omega) (by simp) (by unfold gsPut; rw [if_pos (by omega)]; simp) (fun i hi hik => by
        have hi : i < gs.length := by simp at hi; omega
        rw [(gN_snoc gs (n, v) i).1, (gN_snoc gs (n, v) i).2, if_neg hik, if_neg hik, e34]
        exact q3 i hi) (fun _ D => D.fr ok m34 hp (Or.inr (by rw [e34]; rfl)) (fun f hf q => ok.so.pT (by omega) q) (fun i hi q => ok.so.pE (by decide) (by omega) q)) (fun _ D => D.fr ok m34 hp (Or.inr (by rw [e34]; rfl)) (fun i y hi u q => by have := D.2.1; subst q; exact (ok.so.defN (f := 385) (by omega) (by decide) (by decide)).1 u)))
      exact ⟨Or.inr rfl, Or.inr rfl, Or.inl rfl, Or.inr rfl, Or.inr rfl, trivial⟩
