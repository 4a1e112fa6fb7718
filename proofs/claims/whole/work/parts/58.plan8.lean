/-! a plan: files put, removed -/
theorem insL_set {α : Type} (l : List α) (f : Nat) (v w : α) (hf : f ≤ l.length) : (insL l f v).set f w = insL l f w := by
  unfold insL
  rw [List.set_append_right _ _ (by simp; omega)]
  simp [Nat.min_eq_left hf]
theorem fP_set (l : List (List Nat × List Nat)) (v : List Nat × List Nat) (k i : Nat) (hk : k < l.length) : fP (l.set k v) i = (if i = k then v.1 else fP l i) ∧ fB (l.set k v) i = if i = k then v.2 else fB l i := by
  unfold fP fB
  rw [getD_set]
  by_cases q : i = k
  · rw [if_pos ⟨q, hk⟩, if_pos q, if_pos q]; exact ⟨rfl, rfl⟩
  · rw [if_neg (fun z => q z.1), if_neg q, if_neg q]; exact ⟨rfl, rfl⟩
theorem fix_at {fl : List (List Nat × List Nat)} {n : List Nat} (h : 0 ≤ fix fl n) : (fix fl n).toNat < fl.length ∧ fP fl (fix fl n).toNat = n := by
  rcases srF_rg (p := fun i => fP fl i == n) (n := fl.length) (i := 0) with e | ⟨j, -, j2, e, hp⟩
  · unfold fix at h; omega
  · unfold fix at h ⊢
    rw [e]
    exact ⟨j2, by simpa using hp⟩
theorem FilC.hole {S : Shp} {h : Hp} {p : Nat} {fl : List (List Nat × List Nat)} (D : FilC S h p fl) (k : Nat) : FilH S h p fl k := by
  obtain ⟨σ, s1, s2, q1, q2, q3⟩ := D
  exact ⟨σ, s1, s2, q1, q2, fun i hi => ⟨(q3 i hi).1, (q3 i hi).2.1, (q3 i hi).2.2.2.1, fun _ => ⟨(q3 i hi).2.2.1, (q3 i hi).2.2.2.2⟩⟩⟩
theorem fix_rg (fl : List (List Nat × List Nat)) (n : List Nat) : -1 ≤ fix fl n ∧ fix fl n < fl.length := by
  rcases srF_rg (p := fun i => fP fl i == n) (n := fl.length) (i := 0) with e | ⟨j, -, j2, e, hp⟩ <;> unfold fix <;> omega
theorem d87_0 : dc 87 0 = some (.aload_n 1, 1) := by decide +kernel
theorem d87_1 : dc 87 1 = some (.dload 517, 4) := by decide +kernel
theorem d87_4 : dc 87 4 = some (.iconst 0, 5) := by decide +kernel
theorem d87_5 : dc 87 5 = some (.laload, 6) := by decide +kernel
theorem d87_6 : dc 87 6 = some (.lstore_n 2, 7) := by decide +kernel
theorem d87_7 : dc 87 7 = some (.aload_n 1, 8) := by decide +kernel
theorem d87_8 : dc 87 8 = some (.dload 518, 11) := by decide +kernel
theorem d87_11 : dc 87 11 = some (.iconst 0, 12) := by decide +kernel
theorem d87_12 : dc 87 12 = some (.laload, 13) := by decide +kernel
theorem d87_13 : dc 87 13 = some (.lstore 4, 15) := by decide +kernel
theorem d87_15 : dc 87 15 = some (.aload_n 0, 16) := by decide +kernel
theorem d87_16 : dc 87 16 = some (.lload_n 2, 17) := by decide +kernel
theorem d87_17 : dc 87 17 = some (.lload 4, 19) := by decide +kernel
theorem d87_19 : dc 87 19 = some (.invokevirtual 69, 22) := by decide +kernel
theorem d87_22 : dc 87 22 = some (.istore 6, 24) := by decide +kernel
theorem d87_24 : dc 87 24 = some (.iload 6, 26) := by decide +kernel
theorem d87_26 : dc 87 26 = some (.ifCond .ge ((38 : Nat) : Int), 29) := by decide +kernel
theorem d87_29 : dc 87 29 = some (.aload_n 0, 30) := by decide +kernel
theorem d87_30 : dc 87 30 = some (.lload_n 2, 31) := by decide +kernel
theorem d87_31 : dc 87 31 = some (.lload 4, 33) := by decide +kernel
theorem d87_33 : dc 87 33 = some (.invokevirtual 88, 36) := by decide +kernel
theorem d87_36 : dc 87 36 = some (.istore 6, 38) := by decide +kernel
theorem d87_38 : dc 87 38 = some (.iload 6, 40) := by decide +kernel
theorem d87_40 : dc 87 40 = some (.ifCond .lt ((65 : Nat) : Int), 43) := by decide +kernel
theorem d87_43 : dc 87 43 = some (.aload_n 0, 44) := by decide +kernel
theorem d87_44 : dc 87 44 = some (.dload 387, 47) := by decide +kernel
theorem d87_47 : dc 87 47 = some (.iload 6, 49) := by decide +kernel
theorem d87_49 : dc 87 49 = some (.aaload, 50) := by decide +kernel
theorem d87_50 : dc 87 50 = some (.aload_n 1, 51) := by decide +kernel
theorem d87_51 : dc 87 51 = some (.dload 512, 54) := by decide +kernel
theorem d87_54 : dc 87 54 = some (.aload_n 1, 55) := by decide +kernel
theorem d87_55 : dc 87 55 = some (.getfield 522, 58) := by decide +kernel
theorem d87_58 : dc 87 58 = some (.aload_n 1, 59) := by decide +kernel
theorem d87_59 : dc 87 59 = some (.getfield 523, 62) := by decide +kernel
theorem d87_62 : dc 87 62 = some (.invokevirtual 90, 65) := by decide +kernel
theorem d87_65 : dc 87 65 = some (.return_, 66) := by decide +kernel
theorem k_Plan_putFile {S : Shp} {G : Nat → Option Nat} {d : Nat} {h : Hp} {Q : Option MV → Hp → Prop} {p : Nat} {q : Nat}  (ok : Ok S h) (h1 : 3 ≤ d) (hp : sK S p = 4) (hq : sK S q = 5) {fl : List (List Nat × List Nat)} {n : List Nat} {f e : Nat} (fc : FilC S h p fl) (hn : okP n) (hx : AL h (sT S 517 q) 0 = hd n) (hy : AL h (sT S 518 q) 0 = tl n) (hf : FI h 522 q = (f : Nat)) (he : FI h 523 q = (e : Nat)) (hfe : f ≤ e ∧ e ≤ (rl h (sT S 512 q)).length ∧ e - f ≤ 160 ∧ e ≤ 100000) (hpq : ¬ U S p q) (hr : fix fl n < 0 → fl.length < 16)
    (kk : ∀ h', Mo S (U S p) h h' → FilC S h' p (flPut fl n ((sl (rl h (sT S 512 q)) f e).map untold)) → (∀ gs, GsC S h p gs → GsC S h' p gs) → (∀ ts, TsC S h p ts → TsC S h' p ts) → Q none h') : Cl G d 87 [vR (some p), vR (some q)] h Q := by
  show Wp G d 87 0 [some (vR (some p)), some (vR (some q)), none, none, none, none, none] [] h Q
  have fc0 := fc
  have ee := fixJ_eq fc0.okp hn
  have er := fix_rg fl n
  have nT : ∀ f, f < 4096 → sK S (sT S f q) ≠ 4 → ¬ U S p (sT S f q) := fun f hf hk u => by
    rcases (ok.so.U_T hf).mp u with z | z
    · exact hk (z ▸ hp)
    · exact hpq z
  have kR := kT512 ok hq
  refine w_aload_n d87_0 rfl ?_
  refine w_dloadS d87_1 (ok.kd hq) (fr517 ok hq) ?_
  refine w_iconst d87_4 (by decide) ?_
  refine w_laloadV (x := (hd n)) d87_5 (gi517 ok hq (by omega)) hx ?_
  refine w_lstore2 d87_6 rfl ?_
  refine w_aload_n d87_7 rfl ?_
  refine w_dloadS d87_8 (ok.kd hq) (fr518 ok hq) ?_
  refine w_iconst d87_11 (by decide) ?_
  refine w_laloadV (x := (tl n)) d87_12 (gi518 ok hq (by omega)) hy ?_
  refine w_lstore4 d87_13 rfl ?_
  refine w_aload_n d87_15 rfl ?_
  refine w_lload_n d87_16 rfl ?_
  refine w_lload d87_17 rfl ?_
  refine w_callv3 d87_19 (by omega) rfl (ok.kd hp) (by simp) (Nat.le_of_ble_eq_true rfl) ?_
  refine k_Plan_fileAt ok (by omega) hp fc0 ?_
  rw [ee]
  have L38 : ∀ (m38 : Nat) (g : Hp) (k : Nat) (u : List (List Nat × List Nat)), 0 = m38 → Mo S (fun x => U S p x) h g → (FilH S g p u k) → (k < u.length) → (u.set k (n, (sl (rl h (sT S 512 q)) f e).map untold) = flPut fl n ((sl (rl h (sT S 512 q)) f e).map untold)) → (fP u k = n) → ((∀ gs, GsC S h p gs → GsC S g p gs)) → ((∀ ts, TsC S h p ts → TsC S g p ts)) → Wp G d 87 38 [some (vR (some p)), some (vR (some q)), none, none, none, none, some (vI (k : Nat))] [] g Q := by
    intro m38
    induction m38 using Nat.strongRecOn with | ind m38 IH38 => ?_
    intro g k u hm38 Mg i1 i2 i3 i4 i5 i6
    have okg := Mg.ok
    obtain ⟨σ, s1, s2, z1, z2, z3⟩ := i1
    have k16 := (s1 k (by omega)).1
    refine w_iload d87_38 rfl ?_
    refine w_iflt d87_40 (fun c40 => ?_) (fun c40 => ?_)
    · omega
    · refine w_aload_n d87_43 rfl ?_
      refine w_dloadS d87_44 (okg.kd hp) (fr387 okg hp) ?_
      refine w_iload d87_47 rfl ?_
      refine w_aaloadSN d87_49 (gi387 okg hp (by omega)) (s1 k (by omega)).2 ?_
      refine w_aload_n d87_50 rfl ?_
      refine w_dloadS d87_51 (okg.kd hq) (fr512 okg hq) ?_
      refine w_aload_n d87_54 rfl ?_
      refine w_getI (x := ((f : Nat) : Int)) d87_55 (okg.kd hq) ((Mg.fi ok (by omega) hpq 522).trans hf) ?_
      refine w_aload_n d87_58 rfl ?_
      refine w_getI (x := ((e : Nat) : Int)) d87_59 (okg.kd hq) ((Mg.fi ok (by omega) hpq 523).trans he) ?_
      have eR : rl g (sT S 512 q) = rl h (sT S 512 q) := Mg.rb ok kR (nT 512 (by decide) (by omega))
      refine w_callv4 d87_62 (by omega) rfl (okg.kd (kE387 ok hp (s1 k (by omega)).1)) (by simp) (Nat.le_of_ble_eq_true rfl) ?_
      refine r_Row_setTold (by omega) okg (kE387 ok hp (s1 k (by omega)).1) (kT512 okg hq) (fun z => ok.so.neE (by decide) (by omega) z) ⟨by omega, by rw [eR]; omega⟩ (by omega) (fun h62 m62 e62_1 => ?_)
      have ok62 := m62.ok
      have M62 := Mo.tr ok Mg m62 (fun x e => (e ▸ (ok.so.uE (by omega) (ok.so.uT (by decide) U_refl))))
      refine w_return d87_65 ?_
      have nP : p ≠ sE S (sT S 387 p) (σ k) := fun z => ok.so.pE (by decide) (by omega) z.symm
      have nTE : ∀ f, f < 4096 → sT S f p ≠ sE S (sT S 387 p) (σ k) := fun f hf => ok.so.neE hf (by omega)
      refine kk _ M62 ?_ (fun gs D => (i5 gs D).fr okg m62 hp (Or.inl nP) (fun f hf => nTE f (by omega))) (fun ts D => (i6 ts D).fr okg m62 hp (Or.inl nP) (fun i y hi u v => by have := D.2.1; subst v; exact (ok.so.defN (f := 387) (by omega) (by decide) (by decide)).2.2 _ (by omega) u))
      rw [← i3]
      have a5 := kT385 ok hp
      have a6 := kT386 ok hp
      have a7 := kT387 ok hp
      refine ⟨σ, fun i hi => ⟨(s1 i hi).1, by rw [m62.ar okg (by omega) (nTE 387 (by decide))]; exact (s1 i hi).2⟩, s2, by rw [List.length_set, m62.fi okg (by omega) nP 384]; exact z1, by rw [List.length_set]; exact z2, fun i hi => ?_⟩
      rw [List.length_set] at hi
      obtain ⟨b1, b2, b3, b4⟩ := z3 i hi
      rw [(fP_set u _ k i i2).1, (fP_set u _ k i i2).2, m62.al okg (by omega) (nTE 385 (by decide)), m62.al okg (by omega) (nTE 386 (by decide))]
      by_cases c : i = k
      · subst c
        rw [if_pos rfl, if_pos rfl, ← i4]
        refine ⟨b1, b2, ?_, b3, by simp [sl_len ⟨hfe.1, hfe.2.1⟩]; omega⟩
        rw [e62_1, eR]
      · rw [if_neg c, if_neg c]
        refine ⟨b1, b2, ?_, b3, (b4 c).2⟩
        rw [m62.rb okg (kE387 ok hp (s1 i (by omega)).1) (fun z => c (s2 i k (by omega) (by omega) ((ok.so.injE (by have := (s1 i (by omega)).1; omega) (by omega)).mp z).2))]; exact (b4 c).1
  refine w_istore6 d87_22 rfl ?_
  refine w_iload d87_24 rfl ?_
  refine w_ifge d87_26 (fun c26 => ?_) (fun c26 => ?_)
  · have M0_ := Mo.refl (A := (fun x => U S p x)) ok
    refine w_less ?_ (L38 _ h (fix fl n).toNat fl rfl M0_ (fc0.hole _) (by omega) (by unfold flPut; rw [if_neg (by omega)]) ((fix_at (by omega)).2) (fun _ D => D) (fun _ D => D))
    exact ⟨Or.inr rfl, Or.inr rfl, Or.inl rfl, Or.inl rfl, Or.inl rfl, Or.inl rfl, Or.inr (by rw [show (((fix fl n).toNat : Nat) : Int) = fix fl n by omega]), trivial⟩
  · have hm := hr (by omega)
    refine w_aload_n d87_29 rfl ?_
    refine w_lload_n d87_30 rfl ?_
    refine w_lload d87_31 rfl ?_
    refine w_callv3 d87_33 (by omega) rfl (ok.kd hp) (by simp) (Nat.le_of_ble_eq_true rfl) ?_
    refine k_Plan_makePlace ok (by omega) hp fc0 hn rfl rfl hm (fun h33 m33 e33_1 e33_2 e33_3 => ?_)
    have ok33 := m33.ok
    have M33 := Mo.tr ok (Mo.refl (A := (fun x => U S p x)) ok) m33 (fun x u => (U_trans U_refl u))
    refine w_istore6 d87_36 rfl ?_
    have ip := insP_le fl (hd n) (tl n) fl.length
    refine w_less ?_ (L38 _ h33 (insP fl (hd n) (tl n) fl.length) (insL fl (insP fl (hd n) (tl n) fl.length) (n, [])) rfl M33 e33_1 (by rw [insL_len _ _ _ ip]; omega) (by rw [insL_set _ _ _ _ ip]; unfold flPut; rw [if_pos (by omega)]) (by unfold fP; rw [getD_insL _ _ _ _ ip, if_neg (Nat.lt_irrefl _), if_pos rfl]) e33_2 e33_3)
    exact ⟨Or.inr rfl, Or.inr rfl, Or.inl rfl, Or.inl rfl, Or.inl rfl, Or.inl rfl, Or.inr rfl, trivial⟩
theorem d91_0 : dc 91 0 = some (.aload_n 0, 1) := by decide +kernel
theorem d91_1 : dc 91 1 = some (.lload_n 1, 2) := by decide +kernel
theorem d91_2 : dc 91 2 = some (.lload_n 3, 3) := by decide +kernel
theorem d91_3 : dc 91 3 = some (.invokevirtual 69, 6) := by decide +kernel
theorem d91_6 : dc 91 6 = some (.istore 5, 8) := by decide +kernel
theorem d91_8 : dc 91 8 = some (.iload 5, 10) := by decide +kernel
theorem d91_10 : dc 91 10 = some (.ifCond .ge ((14 : Nat) : Int), 13) := by decide +kernel
theorem d91_13 : dc 91 13 = some (.return_, 14) := by decide +kernel
theorem d91_14 : dc 91 14 = some (.aload_n 0, 15) := by decide +kernel
theorem d91_15 : dc 91 15 = some (.dload 387, 18) := by decide +kernel
theorem d91_18 : dc 91 18 = some (.iload 5, 20) := by decide +kernel
theorem d91_20 : dc 91 20 = some (.aaload, 21) := by decide +kernel
theorem d91_21 : dc 91 21 = some (.astore 6, 23) := by decide +kernel
theorem d91_23 : dc 91 23 = some (.iload 5, 25) := by decide +kernel
theorem d91_25 : dc 91 25 = some (.istore 7, 27) := by decide +kernel
theorem d91_27 : dc 91 27 = some (.iload 7, 29) := by decide +kernel
theorem d91_29 : dc 91 29 = some (.iconst 1, 30) := by decide +kernel
theorem d91_30 : dc 91 30 = some (.iadd, 31) := by decide +kernel
theorem d91_31 : dc 91 31 = some (.aload_n 0, 32) := by decide +kernel
theorem d91_32 : dc 91 32 = some (.getfield 384, 35) := by decide +kernel
theorem d91_35 : dc 91 35 = some (.if_icmp .ge ((92 : Nat) : Int), 38) := by decide +kernel
theorem d91_38 : dc 91 38 = some (.aload_n 0, 39) := by decide +kernel
theorem d91_39 : dc 91 39 = some (.dload 385, 42) := by decide +kernel
theorem d91_42 : dc 91 42 = some (.iload 7, 44) := by decide +kernel
theorem d91_44 : dc 91 44 = some (.aload_n 0, 45) := by decide +kernel
theorem d91_45 : dc 91 45 = some (.dload 385, 48) := by decide +kernel
theorem d91_48 : dc 91 48 = some (.iload 7, 50) := by decide +kernel
theorem d91_50 : dc 91 50 = some (.iconst 1, 51) := by decide +kernel
theorem d91_51 : dc 91 51 = some (.iadd, 52) := by decide +kernel
theorem d91_52 : dc 91 52 = some (.laload, 53) := by decide +kernel
theorem d91_53 : dc 91 53 = some (.lastore, 54) := by decide +kernel
theorem d91_54 : dc 91 54 = some (.aload_n 0, 55) := by decide +kernel
theorem d91_55 : dc 91 55 = some (.dload 386, 58) := by decide +kernel
theorem d91_58 : dc 91 58 = some (.iload 7, 60) := by decide +kernel
theorem d91_60 : dc 91 60 = some (.aload_n 0, 61) := by decide +kernel
theorem d91_61 : dc 91 61 = some (.dload 386, 64) := by decide +kernel
theorem d91_64 : dc 91 64 = some (.iload 7, 66) := by decide +kernel
theorem d91_66 : dc 91 66 = some (.iconst 1, 67) := by decide +kernel
theorem d91_67 : dc 91 67 = some (.iadd, 68) := by decide +kernel
theorem d91_68 : dc 91 68 = some (.laload, 69) := by decide +kernel
theorem d91_69 : dc 91 69 = some (.lastore, 70) := by decide +kernel
theorem d91_70 : dc 91 70 = some (.aload_n 0, 71) := by decide +kernel
theorem d91_71 : dc 91 71 = some (.dload 387, 74) := by decide +kernel
theorem d91_74 : dc 91 74 = some (.iload 7, 76) := by decide +kernel
theorem d91_76 : dc 91 76 = some (.aload_n 0, 77) := by decide +kernel
theorem d91_77 : dc 91 77 = some (.dload 387, 80) := by decide +kernel
theorem d91_80 : dc 91 80 = some (.iload 7, 82) := by decide +kernel
theorem d91_82 : dc 91 82 = some (.iconst 1, 83) := by decide +kernel
theorem d91_83 : dc 91 83 = some (.iadd, 84) := by decide +kernel
theorem d91_84 : dc 91 84 = some (.aaload, 85) := by decide +kernel
theorem d91_85 : dc 91 85 = some (.aastore, 86) := by decide +kernel
theorem d91_86 : dc 91 86 = some (.iinc 7 1, 89) := by decide +kernel
theorem d91_89 : dc 91 89 = some (.goto ((27 : Nat) : Int), 92) := by decide +kernel
theorem d91_92 : dc 91 92 = some (.aload_n 0, 93) := by decide +kernel
theorem d91_93 : dc 91 93 = some (.dup, 94) := by decide +kernel
theorem d91_94 : dc 91 94 = some (.getfield 384, 97) := by decide +kernel
theorem d91_97 : dc 91 97 = some (.iconst 1, 98) := by decide +kernel
theorem d91_98 : dc 91 98 = some (.isub, 99) := by decide +kernel
theorem d91_99 : dc 91 99 = some (.putfield 384, 102) := by decide +kernel
theorem d91_102 : dc 91 102 = some (.aload_n 0, 103) := by decide +kernel
theorem d91_103 : dc 91 103 = some (.dload 387, 106) := by decide +kernel
theorem d91_106 : dc 91 106 = some (.aload_n 0, 107) := by decide +kernel
theorem d91_107 : dc 91 107 = some (.getfield 384, 110) := by decide +kernel
theorem d91_110 : dc 91 110 = some (.aload 6, 112) := by decide +kernel
theorem d91_112 : dc 91 112 = some (.aastore, 113) := by decide +kernel
theorem d91_113 : dc 91 113 = some (.return_, 114) := by decide +kernel
theorem k_Plan_removeFile {S : Shp} {G : Nat → Option Nat} {d : Nat} {h : Hp} {Q : Option MV → Hp → Prop} {p : Nat} {x : Int64} {y : Int64}  (ok : Ok S h) (h1 : 1 ≤ d) (hp : sK S p = 4) {fl : List (List Nat × List Nat)} {n : List Nat} (fc : FilC S h p fl) (hn : okP n) (hx : x = hd n) (hy : y = tl n)
    (kk : ∀ h', Mo S (U S p) h h' → FilC S h' p (flDrop fl n) → (∀ gs, GsC S h p gs → GsC S h' p gs) → (∀ ts, TsC S h p ts → TsC S h' p ts) → Q none h') : Cl G d 91 [vR (some p), vJ x, vJ y] h Q := by
  show Wp G d 91 0 [some (vR (some p)), some (vJ x), none, some (vJ y), none, none, none, none] [] h Q
  have fc0 := fc
  have ee : fixJ fl x y = fix fl n := by rw [hx, hy]; exact fixJ_eq fc0.okp hn
  have er := fix_rg fl n
  obtain ⟨σ, s1, s2, q1, q2, q3⟩ := fc
  have k5 := kT385 ok hp
  have k6 := kT386 ok hp
  have k7 := kT387 ok hp
  have ne : ∀ f g, f < 4096 → g < 4096 → f ≠ g → sT S f p ≠ sT S g p := fun f g hf hg hfg q => hfg ((ok.so.inj hf hg).mp q).1
  have n56 := ne 385 386 (by decide) (by decide) (by decide)
  have n57 := ne 385 387 (by decide) (by decide) (by decide)
  have n67 := ne 386 387 (by decide) (by decide) (by decide)
  refine w_aload_n d91_0 rfl ?_
  refine w_lload_n d91_1 rfl ?_
  refine w_lload_n d91_2 rfl ?_
  refine w_callv3 d91_3 (by omega) rfl (ok.kd hp) (by simp) (Nat.le_of_ble_eq_true rfl) ?_
  refine k_Plan_fileAt ok (by omega) hp fc0 ?_
  rw [ee]
  refine w_istore5 d91_6 rfl ?_
  refine w_iload d91_8 rfl ?_
  refine w_ifge d91_10 (fun c10 => ?_) (fun c10 => ?_)
  · have hf0 : fix fl n = (((fix fl n).toNat : Nat) : Int) := by omega
    rw [hf0]
    generalize hff : (fix fl n).toNat = f at *
    have hf : f < fl.length := by omega
    refine w_aload_n d91_14 rfl ?_
    refine w_dloadS d91_15 (ok.kd hp) (fr387 ok hp) ?_
    refine w_iload d91_18 rfl ?_
    refine w_aaloadS d91_20 (gi387 ok hp (by omega)) (s1 f (by omega)).2 ?_
    refine w_astore6 d91_21 rfl ?_
    refine w_iload d91_23 rfl ?_
    refine w_istore7 d91_25 rfl ?_
    have L27 : ∀ (m27 : Nat) (g : Hp) (i : Nat), fl.length - i = m27 → Mo S (fun x => U S p x) h g → (f ≤ i) → (i + 1 ≤ fl.length) → (Mo S (fun z => z = sT S 385 p ∨ z = sT S 386 p ∨ z = sT S 387 p) h g) → (∀ j, j < 16 → AL g (sT S 385 p) j = AL h (sT S 385 p) (if f ≤ j ∧ j < i then j + 1 else j) ∧ AL g (sT S 386 p) j = AL h (sT S 386 p) (if f ≤ j ∧ j < i then j + 1 else j) ∧ AR g (sT S 387 p) j = AR h (sT S 387 p) (if f ≤ j ∧ j < i then j + 1 else j)) → Wp G d 91 27 [some (vR (some p)), some (vJ x), none, some (vJ y), none, none, some (vR (some (sE S (sT S 387 p) (σ f)))), some (vI (i : Nat))] [] g Q := by
      intro m27
      induction m27 using Nat.strongRecOn with | ind m27 IH27 => ?_
      intro g i hm27 Mg i1 i2 N i4
      have okg := Mg.ok
      have hsn := (s1 f (by omega)).1
      have n0 : ¬ (p = sT S 385 p ∨ p = sT S 386 p ∨ p = sT S 387 p) := fun q => q.elim (fun q => ok.so.pT (by decide) q.symm) (fun q => q.elim (fun q => ok.so.pT (by decide) q.symm) (fun q => ok.so.pT (by decide) q.symm))
      have A1 : FI g 384 p = fl.length := (N.fi ok (by omega) n0 384).trans q1
      refine w_iload d91_27 rfl ?_
      refine w_iconst d91_29 (by decide) ?_
      refine w_iadd d91_30 (by constructor <;> omega) ?_
      refine w_aload_n d91_31 rfl ?_
      refine w_getI (x := (fl.length : Int)) d91_32 (okg.kd hp) A1 ?_
      refine w_icmpge d91_35 (fun c35 => ?_) (fun c35 => ?_)
      · have hil : i + 1 = fl.length := by omega
        refine w_aload_n d91_92 rfl ?_
        refine w_dupR d91_93 ?_
        refine w_getI (x := (fl.length : Int)) d91_94 (okg.kd hp) A1 ?_
        refine w_iconst d91_97 (by decide) ?_
        refine w_isub d91_98 (by constructor <;> omega) ?_
        refine wf384 d91_99 okg hp (by omega) (fun h99 e99 m99 => ?_)
        have ok99 := m99.ok
        have M99 := Mo.tr ok Mg m99 (fun x e => (e ▸ U_refl))
        refine w_aload_n d91_102 rfl ?_
        refine w_dloadS d91_103 (ok99.kd hp) (fr387 ok99 hp) ?_
        refine w_aload_n d91_106 rfl ?_
        refine w_getI (x := ((i : Nat) : Int)) d91_107 (ok99.kd hp) (by rw [e99, FI_sFI, if_pos ⟨rfl, rfl⟩]; omega) ?_
        refine w_aload d91_110 rfl ?_
        refine p_AR (f := 387) (i := σ f) (n := 16) (e := 6) d91_112 ok99 hp rfl (by decide) (sL387 ok hp) (by omega) (by omega) (fun h112 e112 m112 => ?_)
        have e112 : h112 = sAR h99 (sT S 387 p) i (some (sE S (sT S 387 p) (σ f))) := e112
        have ok112 := m112.ok
        have M112 := Mo.tr ok M99 m112 (fun x e => (e ▸ (ok.so.uT (by decide) U_refl)))
        refine w_return d91_113 ?_
        have N2 := N
        have n3 : ∀ g, g < 4096 → g ≠ 385 → g ≠ 386 → g ≠ 387 → ¬ (sT S g p = sT S 385 p ∨ sT S g p = sT S 386 p ∨ sT S g p = sT S 387 p) := fun g hg a b c q => q.elim (ne g 385 hg (by decide) a) (fun q => q.elim (ne g 386 hg (by decide) b) (ne g 387 hg (by decide) c))
        have nE : ∀ i, i < 16 → ¬ (sE S (sT S 387 p) i = sT S 385 p ∨ sE S (sT S 387 p) i = sT S 386 p ∨ sE S (sT S 387 p) i = sT S 387 p) := fun i hi q => q.elim (fun q => ok.so.neE (by decide) (by omega) q.symm) (fun q => q.elim (fun q => ok.so.neE (by decide) (by omega) q.symm) (fun q => ok.so.neE (by decide) (by omega) q.symm))
        refine kk _ M112 ?_ (fun gs D => ((D.fr ok N hp (Or.inl n0) (fun g hg => n3 g (by omega) (by omega) (by omega) (by omega))).fr okg m99 hp (Or.inr (by rw [e99]; rfl)) (fun f hf q => ok.so.pT (by omega) q)).fr ok99 m112 hp (Or.inl (fun q => ok.so.pT (by decide) q.symm)) (fun g hg => ne g 387 (by omega) (by decide) (by omega))) (fun ts D => ((D.fr ok N hp (Or.inl n0) (fun i y hi u q => by have := D.2.1; rcases q with q | q | q <;> subst q <;> exact (ok.so.defN (by omega) (by decide) (by decide)).2.1 u)).fr okg m99 hp (Or.inr (by rw [e99]; rfl)) (fun i y hi u q => by have := D.2.1; subst q; exact (ok.so.defN (f := 385) (by omega) (by decide) (by decide)).1 u)).fr ok99 m112 hp (Or.inl (fun q => ok.so.pT (by decide) q.symm)) (fun i y hi u q => by have := D.2.1; subst q; exact (ok.so.defN (f := 387) (by omega) (by decide) (by decide)).2.1 u))
        have ed : flDrop fl n = fl.eraseIdx f := by unfold flDrop; rw [if_neg (by omega), hff]
        rw [ed]
        have le : (fl.eraseIdx f).length = fl.length - 1 := List.length_eraseIdx_of_lt hf
        refine ⟨fun j => if j = i then σ f else if f ≤ j ∧ j < i then σ (j + 1) else σ j, fun j hj => ?_, fun a b ha hb e => ?_, ?_, by rw [le]; omega, fun j hj => ?_⟩
        · have b := (i4 j hj).2.2
          have c : AR h112 (sT S 387 p) j = if j = i then some (sE S (sT S 387 p) (σ f)) else AR g (sT S 387 p) j := by rw [e112, e99]; simp only [FI_sFI, FL_sFI, FR_sFI, AI_sFI, AL_sFI, AR_sFI, FI_sFL, FL_sFL, FR_sFL, AI_sFL, AL_sFL, AR_sFL, FI_sFR, FL_sFR, FR_sFR, AI_sFR, AL_sFR, AR_sFR, FI_sAI, FL_sAI, FR_sAI, AI_sAI, AL_sAI, AR_sAI, FI_sAL, FL_sAL, FR_sAL, AI_sAL, AL_sAL, AR_sAL, FI_sAR, FL_sAR, FR_sAR, AI_sAR, AL_sAR, AR_sAR, FI_cpI, FL_cpI, FR_cpI, AI_cpI, AL_cpI, AR_cpI, FI_cpL, FL_cpL, FR_cpL, AI_cpL, AL_cpL, AR_cpL]; simp
          rw [c]
          by_cases q : j = i
          · simp only [q, if_true]; exact ⟨hsn, trivial⟩
          · simp only [q, if_false, b]
            by_cases q2 : f ≤ j ∧ j < i
            · simp only [q2, and_self, if_true]; exact s1 (j + 1) (by omega)
            · simp only [q2, if_false]; exact s1 j hj
        · dsimp only at e
          have key : ∀ j, j < 16 → ∃ t, t < 16 ∧ (if j = i then σ f else if f ≤ j ∧ j < i then σ (j + 1) else σ j) = σ t ∧ t = (if j = i then f else if f ≤ j ∧ j < i then j + 1 else j) := fun j hj => by
            by_cases q : j = i
            · exact ⟨f, by omega, by rw [if_pos q], by rw [if_pos q]⟩
            · by_cases q2 : f ≤ j ∧ j < i
              · exact ⟨j + 1, by omega, by rw [if_neg q, if_pos q2], by rw [if_neg q, if_pos q2]⟩
              · exact ⟨j, hj, by rw [if_neg q, if_neg q2], by rw [if_neg q, if_neg q2]⟩
          obtain ⟨t, t1, t2, t3⟩ := key a ha
          obtain ⟨u, u1, u2, u3⟩ := key b hb
          rw [t2, u2] at e
          have z := s2 t u t1 u1 e
          rw [t3, u3] at z
          (repeat' split at z) <;> omega
        · rw [m112.fi ok99 (by omega) (fun q => ok.so.pT (by decide) q.symm) 384, e99, FI_sFI, if_pos ⟨rfl, rfl⟩, le]; omega
        · rw [le] at hj
          have b := i4 j (by omega)
          have eP : fP (fl.eraseIdx f) j = if j < f then fP fl j else fP fl (j + 1) := by unfold fP; rw [getD_erase]; split <;> rfl
          have eB : fB (fl.eraseIdx f) j = if j < f then fB fl j else fB fl (j + 1) := by unfold fB; rw [getD_erase]; split <;> rfl
          have c1 : AL h112 (sT S 385 p) j = AL g (sT S 385 p) j := by rw [e112, e99]; rfl
          have c2 : AL h112 (sT S 386 p) j = AL g (sT S 386 p) j := by rw [e112, e99]; rfl
          have c3 : ∀ r, r < 16 → rl h112 (sE S (sT S 387 p) r) = rl h (sE S (sT S 387 p) r) := fun r hr2 => by rw [m112.rb ok99 (kE387 ok hp hr2) (fun q => ok.so.neE (by decide) (by omega) q.symm), m99.rb okg (kE387 ok hp hr2) (fun q => ok.so.pE (by decide) (by omega) q), N.rb ok (kE387 ok hp hr2) (nE r hr2)]
          rw [eP, eB, c1, c2, b.1, b.2.1]
          have q : ¬ j = i := by omega
          by_cases q2 : j < f
          · have q3n : ¬ (f ≤ j ∧ j < i) := by omega
            simp only [q, q3n, q2, if_true, if_false]
            rw [c3 _ (s1 j (by omega)).1]; exact q3 j (by omega)
          · have q3n : f ≤ j ∧ j < i := by omega
            simp only [q, q3n, q2, and_self, if_true, if_false]
            rw [c3 _ (s1 (j + 1) (by omega)).1]; exact q3 (j + 1) (by omega)
      · have hil : i + 1 < fl.length := by omega
        have i4f := i4 (i + 1) (by omega)
        rw [if_neg (show ¬ (f ≤ i + 1 ∧ i + 1 < i) by omega)] at i4f
        have sf1 := (s1 (i + 1) (by omega)).1
        refine w_aload_n d91_38 rfl ?_
        refine w_dloadS d91_39 (okg.kd hp) (fr385 okg hp) ?_
        refine w_iload d91_42 rfl ?_
        refine w_aload_n d91_44 rfl ?_
        refine w_dloadS d91_45 (okg.kd hp) (fr385 okg hp) ?_
        refine w_iload d91_48 rfl ?_
        refine w_iconst d91_50 (by decide) ?_
        refine w_iadd d91_51 (by constructor <;> omega) ?_
        rw [show (((i : Nat) : Int) + 1) = ((i + 1 : Nat) : Int) by omega]
        refine w_laloadV (x := (AL h (sT S 385 p) (i + 1))) d91_52 (gi385 okg hp (by omega)) i4f.1 ?_
        refine wa385 d91_53 okg hp (by omega) (fun h53 e53 m53 => ?_)
        have e53 : h53 = sAL g (sT S 385 p) i (AL h (sT S 385 p) (i + 1)) := e53
        have ok53 := m53.ok
        have M53 := Mo.tr ok Mg m53 (fun x e => (e ▸ (ok.so.uT (by decide) U_refl)))
        refine w_aload_n d91_54 rfl ?_
        refine w_dloadS d91_55 (ok53.kd hp) (fr386 ok53 hp) ?_
        refine w_iload d91_58 rfl ?_
        refine w_aload_n d91_60 rfl ?_
        refine w_dloadS d91_61 (ok53.kd hp) (fr386 ok53 hp) ?_
        refine w_iload d91_64 rfl ?_
        refine w_iconst d91_66 (by decide) ?_
        refine w_iadd d91_67 (by constructor <;> omega) ?_
        rw [show (((i : Nat) : Int) + 1) = ((i + 1 : Nat) : Int) by omega]
        refine w_laloadV (x := (AL h (sT S 386 p) (i + 1))) d91_68 (gi386 ok53 hp (by omega)) (by simp [e53, FI_sFI, FL_sFI, FR_sFI, AI_sFI, AL_sFI, AR_sFI, FI_sFL, FL_sFL, FR_sFL, AI_sFL, AL_sFL, AR_sFL, FI_sFR, FL_sFR, FR_sFR, AI_sFR, AL_sFR, AR_sFR, FI_sAI, FL_sAI, FR_sAI, AI_sAI, AL_sAI, AR_sAI, FI_sAL, FL_sAL, FR_sAL, AI_sAL, AL_sAL, AR_sAL, FI_sAR, FL_sAR, FR_sAR, AI_sAR, AL_sAR, AR_sAR, FI_cpI, FL_cpI, FR_cpI, AI_cpI, AL_cpI, AR_cpI, FI_cpL, FL_cpL, FR_cpL, AI_cpL, AL_cpL, AR_cpL, n56, n56.symm]; exact i4f.2.1) ?_
        refine wa386 d91_69 ok53 hp (by omega) (fun h69 e69 m69 => ?_)
        have e69 : h69 = sAL h53 (sT S 386 p) i (AL h (sT S 386 p) (i + 1)) := e69
        have ok69 := m69.ok
        have M69 := Mo.tr ok M53 m69 (fun x e => (e ▸ (ok.so.uT (by decide) U_refl)))
        refine w_aload_n d91_70 rfl ?_
        refine w_dloadS d91_71 (ok69.kd hp) (fr387 ok69 hp) ?_
        refine w_iload d91_74 rfl ?_
        refine w_aload_n d91_76 rfl ?_
        refine w_dloadS d91_77 (ok69.kd hp) (fr387 ok69 hp) ?_
        refine w_iload d91_80 rfl ?_
        refine w_iconst d91_82 (by decide) ?_
        refine w_iadd d91_83 (by constructor <;> omega) ?_
        rw [show (((i : Nat) : Int) + 1) = ((i + 1 : Nat) : Int) by omega]
        refine w_aaloadS d91_84 (gi387 ok69 hp (by omega)) (by rw [e69, e53]; exact i4f.2.2.trans (s1 (i + 1) (by omega)).2) ?_
        refine p_AR (f := 387) (i := σ (i + 1)) (n := 16) (e := 6) d91_85 ok69 hp rfl (by decide) (sL387 ok hp) (by omega) (by omega) (fun h85 e85 m85 => ?_)
        have e85 : h85 = sAR h69 (sT S 387 p) i (some (sE S (sT S 387 p) (σ (i + 1)))) := e85
        have ok85 := m85.ok
        have M85 := Mo.tr ok M69 m85 (fun x e => (e ▸ (ok.so.uT (by decide) U_refl)))
        refine w_iinc7 d91_86 rfl (by constructor <;> omega) ?_
        refine w_goto d91_89 ?_
        refine w_less ?_ (IH27 _ (by omega) h85 (i + 1) rfl M85 (by omega) (by omega) (((N.tr ok m53 (fun x e => Or.inl e)).tr ok m69 (fun x e => Or.inr (Or.inl e))).tr ok m85 (fun x e => Or.inr (Or.inr e))) (fun j hj => by
        have b := i4 j hj
        rw [e85, e69, e53]
        simp only [FI_sFI, FL_sFI, FR_sFI, AI_sFI, AL_sFI, AR_sFI, FI_sFL, FL_sFL, FR_sFL, AI_sFL, AL_sFL, AR_sFL, FI_sFR, FL_sFR, FR_sFR, AI_sFR, AL_sFR, AR_sFR, FI_sAI, FL_sAI, FR_sAI, AI_sAI, AL_sAI, AR_sAI, FI_sAL, FL_sAL, FR_sAL, AI_sAL, AL_sAL, AR_sAL, FI_sAR, FL_sAR, FR_sAR, AI_sAR, AL_sAR, AR_sAR, FI_cpI, FL_cpI, FR_cpI, AI_cpI, AL_cpI, AR_cpI, FI_cpL, FL_cpL, FR_cpL, AI_cpL, AL_cpL, AR_cpL]
        by_cases q : j = i
        · subst q
          simp [n56, n56.symm, show f ≤ j ∧ j < j + 1 by omega, s1 (j + 1) (by omega)]
        · have e1 : (if f ≤ j ∧ j < i + 1 then j + 1 else j) = (if f ≤ j ∧ j < i then j + 1 else j) := by split <;> split <;> omega
          simp [q, e1, b]))
        exact ⟨Or.inr rfl, Or.inr rfl, Or.inl rfl, Or.inr rfl, Or.inl rfl, Or.inl rfl, Or.inr rfl, Or.inr rfl, trivial⟩
    have M0_ := Mo.refl (A := (fun x => U S p x)) ok
    refine w_less ?_ (L27 _ h f rfl M0_ (Nat.le_refl _) (by omega) (Mo.refl ok) (fun j hj => by rw [if_neg (show ¬ (f ≤ j ∧ j < f) by omega)]; exact ⟨rfl, rfl, rfl⟩))
    exact ⟨Or.inr rfl, Or.inr rfl, Or.inl rfl, Or.inr rfl, Or.inl rfl, Or.inl rfl, Or.inr rfl, Or.inr rfl, trivial⟩
  · refine w_return d91_13 ?_
    exact kk h (Mo.refl ok) (by unfold flDrop; rw [if_pos (by omega)]; exact fc0) (fun _ D => D) (fun _ D => D)
