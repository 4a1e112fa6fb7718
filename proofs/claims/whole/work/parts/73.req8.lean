/-! requests: read -/
theorem vf_d : ∀ t : Fin 35, ∀ i : Fin 9, (vf t.val).getD i.val 0 = 100 → i.val = 0 := by decide +kernel
theorem vf_len : ∀ t : Fin 35, (vf t.val).length ≤ 9 := by decide +kernel
theorem vf_c : ∀ t : Fin 35, ∀ i : Fin 9, (vf t.val).getD i.val 0 < 256 := by decide +kernel
/-- where the reading of parts stands: i parts are read -/
def rdK (S : Shp) (G : Nat → Option Nat) (h : Hp) (q : Nat) (l : List Nat) (i : Nat) (v : Bool) (a : Nat) (ws : List (List Nat)) (ns : List Nat) (vb : Option Nat) : Prop :=
  ((vbR l 35 0 0).1 = none ∧ v = false ∧ a = (vbR l 35 0 0).2) ∨ ∃ t, (vbR l 35 0 0).1 = some t ∧ t < 35 ∧ vb = G t ∧ i ≤ (vf t).length ∧ v = (pFo l ((vf t).take i) (vbR l 35 0 0).2).1 ∧ a = (pFo l ((vf t).take i) (vbR l 35 0 0).2).2.1 ∧
    (100 ∉ (vf t).take i → ws = (pFo l ((vf t).take i) (vbR l 35 0 0).2).2.2.1 ∧ ns = (pFo l ((vf t).take i) (vbR l 35 0 0).2).2.2.2) ∧ (∀ f c, (vf t).take i = f ++ [c] → v = true → pMore S h q l c (pFo l f (vbR l 35 0 0).2).2.1)
/-- what a request that is read says: the verb, or where it is wrong -/
def rdPost (S : Shp) (G : Nat → Option Nat) (h : Hp) (q : Nat) (l : List Nat) (ws : List (List Nat)) (ns : List Nat) (vb : Option Nat) (w : Int) : Prop :=
  ((vbR l 35 0 0).1 = none ∧ w = ((vbR l 35 0 0).2 : Nat)) ∨ ∃ t, (vbR l 35 0 0).1 = some t ∧ t < 35 ∧ vb = G t ∧ w = (if (pFo l (vf t) (vbR l 35 0 0).2).1 = true ∧ (pFo l (vf t) (vbR l 35 0 0).2).2.1 = l.length then (-1 : Int) else (((pFo l (vf t) (vbR l 35 0 0).2).2.1 : Nat) : Int)) ∧
    ((pFo l (vf t) (vbR l 35 0 0).2).1 = true → (100 ∉ vf t → ws = (pFo l (vf t) (vbR l 35 0 0).2).2.2.1 ∧ ns = (pFo l (vf t) (vbR l 35 0 0).2).2.2.2) ∧ (∀ f c, vf t = f ++ [c] → pMore S h q l c (pFo l f (vbR l 35 0 0).2).2.1))
/-- all parts are read, or one was wrong -/
def rdE (S : Shp) (G : Nat → Option Nat) (h : Hp) (q : Nat) (l : List Nat) (v : Bool) (a : Nat) (ws : List (List Nat)) (ns : List Nat) (vb : Option Nat) : Prop :=
  ((vbR l 35 0 0).1 = none ∧ v = false ∧ a = (vbR l 35 0 0).2) ∨ ∃ t, (vbR l 35 0 0).1 = some t ∧ t < 35 ∧ vb = G t ∧ v = (pFo l (vf t) (vbR l 35 0 0).2).1 ∧ a = (pFo l (vf t) (vbR l 35 0 0).2).2.1 ∧
    (v = true → (100 ∉ vf t → ws = (pFo l (vf t) (vbR l 35 0 0).2).2.2.1 ∧ ns = (pFo l (vf t) (vbR l 35 0 0).2).2.2.2) ∧ ∀ f c, vf t = f ++ [c] → pMore S h q l c (pFo l f (vbR l 35 0 0).2).2.1)
theorem rdK.fin {S : Shp} {G : Nat → Option Nat} {h : Hp} {q i a : Nat} {l : List Nat} {v : Bool} {ws : List (List Nat)} {ns : List Nat} {vb : Option Nat} (K : rdK S G h q l i v a ws ns vb) (hi : v = false ∨ ∀ t, (vbR l 35 0 0).1 = some t → (vf t).length ≤ i) : rdE S G h q l v a ws ns vb := by
  rcases K with K | ⟨t, t1, t2, t3, t4, t5, t6, t7, t8⟩
  · exact Or.inl K
  · refine Or.inr ⟨t, t1, t2, t3, ?_⟩
    rcases hi with hv | hi
    · have e : pFo l (vf t) (vbR l 35 0 0).2 = pFo l ((vf t).take i) (vbR l 35 0 0).2 := by
        have := pFo_bad (l := l) (f := (vf t).take i) (a := (vbR l 35 0 0).2) (by rw [← t5]; exact hv) ((vf t).drop i)
        rwa [List.take_append_drop] at this
      rw [e]
      exact ⟨t5, t6, fun z => by rw [hv] at z; cases z⟩
    · have e : (vf t).take i = vf t := List.take_of_length_le (hi t t1)
      rw [e] at t5 t6 t7 t8
      exact ⟨t5, t6, fun z => ⟨t7, fun f c w => t8 f c w z⟩⟩
theorem pMore.wr {S : Shp} {h h' : Hp} {q c a : Nat} {l : List Nat} {v : Int} (ok : Ok S h) (hq : sK S q = 5) (m : Mo S (fun y => y = q) h h') (e : h' = sFI h 515 q v) (p : pMore S h q l c a) : pMore S h' q l c a := by
  refine ⟨fun z => ?_, fun z => (p.2 z).mo ok m (kT524 ok hq) (fun y u w => ?_)⟩
  · rw [e, FI_sFI, if_neg (by simp), FI_sFI, if_neg (by simp)]; exact p.1 z
  · subst w; have := ok.so.uLe u; have := ok.so.ltT (f := 524) (a := y) (by decide); omega
theorem d19_0 : dc 19 0 = some (.aload_n 0, 1) := by decide +kernel
theorem d19_1 : dc 19 1 = some (.iconst 0, 2) := by decide +kernel
theorem d19_2 : dc 19 2 = some (.putfield 516, 5) := by decide +kernel
theorem d19_5 : dc 19 5 = some (.aload_n 0, 6) := by decide +kernel
theorem d19_6 : dc 19 6 = some (.iconst 0, 7) := by decide +kernel
theorem d19_7 : dc 19 7 = some (.putfield 519, 10) := by decide +kernel
theorem d19_10 : dc 19 10 = some (.aload_n 0, 11) := by decide +kernel
theorem d19_11 : dc 19 11 = some (.iconst 0, 12) := by decide +kernel
theorem d19_12 : dc 19 12 = some (.putfield 521, 15) := by decide +kernel
theorem d19_15 : dc 19 15 = some (.aload_n 0, 16) := by decide +kernel
theorem d19_16 : dc 19 16 = some (.invokevirtual 20, 19) := by decide +kernel
theorem d19_19 : dc 19 19 = some (.istore_n 1, 20) := by decide +kernel
theorem d19_20 : dc 19 20 = some (.iconst 0, 21) := by decide +kernel
theorem d19_21 : dc 19 21 = some (.istore_n 2, 22) := by decide +kernel
theorem d19_22 : dc 19 22 = some (.iload_n 1, 23) := by decide +kernel
theorem d19_23 : dc 19 23 = some (.ifCond .eq ((62 : Nat) : Int), 26) := by decide +kernel
theorem d19_26 : dc 19 26 = some (.iload_n 2, 27) := by decide +kernel
theorem d19_27 : dc 19 27 = some (.aload_n 0, 28) := by decide +kernel
theorem d19_28 : dc 19 28 = some (.dload 514, 31) := by decide +kernel
theorem d19_31 : dc 19 31 = some (.dload 2177, 34) := by decide +kernel
theorem d19_34 : dc 19 34 = some (.invokevirtual 21, 37) := by decide +kernel
theorem d19_37 : dc 19 37 = some (.if_icmp .ge ((62 : Nat) : Int), 40) := by decide +kernel
theorem d19_40 : dc 19 40 = some (.aload_n 0, 41) := by decide +kernel
theorem d19_41 : dc 19 41 = some (.aload_n 0, 42) := by decide +kernel
theorem d19_42 : dc 19 42 = some (.dload 514, 45) := by decide +kernel
theorem d19_45 : dc 19 45 = some (.dload 2177, 48) := by decide +kernel
theorem d19_48 : dc 19 48 = some (.iload_n 2, 49) := by decide +kernel
theorem d19_49 : dc 19 49 = some (.invokevirtual 24, 52) := by decide +kernel
theorem d19_52 : dc 19 52 = some (.invokevirtual 29, 55) := by decide +kernel
theorem d19_55 : dc 19 55 = some (.istore_n 1, 56) := by decide +kernel
theorem d19_56 : dc 19 56 = some (.iinc 2 1, 59) := by decide +kernel
theorem d19_59 : dc 19 59 = some (.goto ((22 : Nat) : Int), 62) := by decide +kernel
theorem d19_62 : dc 19 62 = some (.aload_n 0, 63) := by decide +kernel
theorem d19_63 : dc 19 63 = some (.iload_n 1, 64) := by decide +kernel
theorem d19_64 : dc 19 64 = some (.ifCond .eq ((85 : Nat) : Int), 67) := by decide +kernel
theorem d19_67 : dc 19 67 = some (.aload_n 0, 68) := by decide +kernel
theorem d19_68 : dc 19 68 = some (.getfield 516, 71) := by decide +kernel
theorem d19_71 : dc 19 71 = some (.aload_n 0, 72) := by decide +kernel
theorem d19_72 : dc 19 72 = some (.dload 512, 75) := by decide +kernel
theorem d19_75 : dc 19 75 = some (.invokevirtual 13, 78) := by decide +kernel
theorem d19_78 : dc 19 78 = some (.if_icmp .ne ((85 : Nat) : Int), 81) := by decide +kernel
theorem d19_81 : dc 19 81 = some (.iconst (-1), 82) := by decide +kernel
theorem d19_82 : dc 19 82 = some (.goto ((89 : Nat) : Int), 85) := by decide +kernel
theorem d19_85 : dc 19 85 = some (.aload_n 0, 86) := by decide +kernel
theorem d19_86 : dc 19 86 = some (.getfield 516, 89) := by decide +kernel
theorem d19_89 : dc 19 89 = some (.putfield 515, 92) := by decide +kernel
theorem d19_92 : dc 19 92 = some (.return_, 93) := by decide +kernel
theorem k_Rq_read {S : Shp} {G : Nat → Option Nat} {d : Nat} {h : Hp} {Q : Option MV → Hp → Prop} {q : Nat}  (ok : Ok S h) (h1 : 8 ≤ d) (hq : sK S q = 5) {l : List Nat} (tg : Tg S G) (hl0 : rl h (sT S 512 q) = l) (hl : l.length ≤ 4200)
    (kk : ∀ h' a' ws ns vb', Mo S (fun x => U S q x) h h' → RqC S h' q l a' ws ns vb' → rdPost S G h' q l ws ns vb' (FI h' 515 q) → Q none h') : Cl G d 19 [vR (some q)] h Q := by
  show Wp G d 19 0 [some (vR (some q)), none, none] [] h Q
  have nT : ∀ f, f < 4096 → sT S f q ≠ q := fun f hf => ok.so.pT hf
  have kR := kT512 ok hq
  refine w_aload_n d19_0 rfl ?_
  refine w_iconst d19_1 (by decide) ?_
  refine wf516 d19_2 ok hq (by omega) (fun h2 e2 m2 => ?_)
  have ok2 := m2.ok
  have M2 := Mo.tr ok (Mo.refl (A := (fun x => U S q x)) ok) m2 (fun x e => (e ▸ U_refl))
  refine w_aload_n d19_5 rfl ?_
  refine w_iconst d19_6 (by decide) ?_
  refine wf519 d19_7 ok2 hq (by omega) (fun h7 e7 m7 => ?_)
  have ok7 := m7.ok
  have M7 := Mo.tr ok M2 m7 (fun x e => (e ▸ U_refl))
  refine w_aload_n d19_10 rfl ?_
  refine w_iconst d19_11 (by decide) ?_
  refine wf521 d19_12 ok7 hq (by omega) (fun h12 e12 m12 => ?_)
  have ok12 := m12.ok
  have M12 := Mo.tr ok M7 m12 (fun x e => (e ▸ U_refl))
  have R : RqC S h12 q l 0 [] [] (FR h 514 q) := ⟨by rw [m12.rb ok7 kR (nT 512 (by decide)), m7.rb ok2 kR (nT 512 (by decide)), m2.rb ok kR (nT 512 (by decide))]; exact hl0, hl, by simp [e12, e7, e2, FI_sFI], Nat.zero_le _, by simp [e12, e7, e2, FI_sFI], by simp, fun i hi => absurd hi (by simp), by simp [e12, FI_sFI], by simp, fun i hi => absurd hi (by simp), by rw [e12, e7, e2]; rfl⟩
  refine w_aload_n d19_15 rfl ?_
  refine w_callv1 d19_16 (by omega) rfl (ok12.kd hq) (by simp) (Nat.le_of_ble_eq_true rfl) ?_
  refine k_Rq_readVerb ok12 (by omega) hq tg R (fun h16 b16 vb16 m16 R f1 f0 f2 => ?_)
  have ok16 := m16.ok
  have M16 := Mo.tr ok M12 m16 (fun x e => (e ▸ U_refl))
  refine w_istore1 d19_19 rfl ?_
  have L62 : ∀ (m62 : Nat) (u : Hp) (v : Bool) (a : Nat) (ws : List (List Nat)) (ns : List Nat) (vb : Option Nat), 0 = m62 → Mo S (fun x => U S q x) h u → (RqC S u q l a ws ns vb) → (rdE S G u q l v a ws ns vb) → Wp G d 19 62 [some (vR (some q)), some (vI (b2i v)), none] [] u Q := by
    intro m62
    induction m62 using Nat.strongRecOn with | ind m62 IH62 => ?_
    intro u v a ws ns vb hm62 Mu R E
    have oku := Mu.ok
    refine w_aload_n d19_62 rfl ?_
    refine w_iload_n d19_63 rfl ?_
    refine w_ifeq d19_64 (fun c64 => ?_) (fun c64 => ?_)
    · have b64 := b2i_f.mp c64
      have W : ((a : Nat) : Int) = if v = true ∧ a = l.length then (-1 : Int) else ((a : Nat) : Int) := (if_neg (fun z => by rw [b64] at z; cases z.1)).symm
      refine w_aload_n d19_85 rfl ?_
      refine w_getI (x := ((a : Nat) : Int)) d19_86 (oku.kd hq) R.2.2.1 ?_
      refine wf515 d19_89 oku hq (by have := R.2.1; have := R.2.2.2.1; omega) (fun h89 e89 m89 => ?_)
      have ok89 := m89.ok
      have M89 := Mo.tr ok Mu m89 (fun x e => (e ▸ U_refl))
      refine w_return d19_92 ?_
      refine kk h89 a ws ns vb M89 (R.wr oku hq e89 m89) ?_
      generalize hw : FI h89 515 q = w89
      rw [e89, FI_sFI, if_pos ⟨rfl, rfl⟩] at hw
      subst hw
      rcases E with ⟨x1, x2, x3⟩ | ⟨t, x1, x2, x3, x4, x5, x6⟩
      · first | (exfalso; rw [b64] at x2; cases x2; done) | exact Or.inl ⟨x1, by rw [← x3]⟩
      · refine Or.inr ⟨t, x1, x2, x3, ?_, fun z => ⟨(x6 (x4.trans z)).1, fun f c w => ((x6 (x4.trans z)).2 f c w).wr oku hq m89 e89⟩⟩
        rw [← x4, ← x5]
        exact W
    · have b64 := b2i_nz c64
      refine w_aload_n d19_67 rfl ?_
      refine w_getI (x := ((a : Nat) : Int)) d19_68 (oku.kd hq) R.2.2.1 ?_
      refine w_aload_n d19_71 rfl ?_
      refine w_dloadS d19_72 (oku.kd hq) (fr512 oku hq) ?_
      refine w_callv1 d19_75 (by omega) rfl (oku.kd (kT512 oku hq)) (by simp) (Nat.le_of_ble_eq_true rfl) ?_
      refine r_Row_size oku (kT512 oku hq) ?_
      rw [R.1]
      refine w_icmpne d19_78 (fun c78 => ?_) (fun c78 => ?_)
      · have W : ((a : Nat) : Int) = if v = true ∧ a = l.length then (-1 : Int) else ((a : Nat) : Int) := (if_neg (fun z => c78 (by rw [z.2]))).symm
        refine w_aload_n d19_85 rfl ?_
        refine w_getI (x := ((a : Nat) : Int)) d19_86 (oku.kd hq) R.2.2.1 ?_
        refine wf515 d19_89 oku hq (by have := R.2.1; have := R.2.2.2.1; omega) (fun h89 e89 m89 => ?_)
        have ok89 := m89.ok
        have M89 := Mo.tr ok Mu m89 (fun x e => (e ▸ U_refl))
        refine w_return d19_92 ?_
        refine kk h89 a ws ns vb M89 (R.wr oku hq e89 m89) ?_
        generalize hw : FI h89 515 q = w89
        rw [e89, FI_sFI, if_pos ⟨rfl, rfl⟩] at hw
        subst hw
        rcases E with ⟨x1, x2, x3⟩ | ⟨t, x1, x2, x3, x4, x5, x6⟩
        · first | (exfalso; rw [b64] at x2; cases x2; done) | exact Or.inl ⟨x1, by rw [← x3]⟩
        · refine Or.inr ⟨t, x1, x2, x3, ?_, fun z => ⟨(x6 (x4.trans z)).1, fun f c w => ((x6 (x4.trans z)).2 f c w).wr oku hq m89 e89⟩⟩
          rw [← x4, ← x5]
          exact W
      · have W : (-1 : Int) = if v = true ∧ a = l.length then (-1 : Int) else ((a : Nat) : Int) := (if_pos ⟨b64, by omega⟩).symm
        refine w_iconst d19_81 (by decide) ?_
        refine w_goto d19_82 ?_
        refine wf515 d19_89 oku hq (by have := R.2.1; have := R.2.2.2.1; omega) (fun h89 e89 m89 => ?_)
        have ok89 := m89.ok
        have M89 := Mo.tr ok Mu m89 (fun x e => (e ▸ U_refl))
        refine w_return d19_92 ?_
        refine kk h89 a ws ns vb M89 (R.wr oku hq e89 m89) ?_
        generalize hw : FI h89 515 q = w89
        rw [e89, FI_sFI, if_pos ⟨rfl, rfl⟩] at hw
        subst hw
        rcases E with ⟨x1, x2, x3⟩ | ⟨t, x1, x2, x3, x4, x5, x6⟩
        · first | (exfalso; rw [b64] at x2; cases x2; done) | exact Or.inl ⟨x1, by rw [← x3]⟩
        · refine Or.inr ⟨t, x1, x2, x3, ?_, fun z => ⟨(x6 (x4.trans z)).1, fun f c w => ((x6 (x4.trans z)).2 f c w).wr oku hq m89 e89⟩⟩
          rw [← x4, ← x5]
          exact W
  refine w_iconst d19_20 (by decide) ?_
  refine w_istore2 d19_21 rfl ?_
  have L22 : ∀ (m22 : Nat) (g : Hp) (i : Nat) (v : Bool) (a : Nat) (ws : List (List Nat)) (ns : List Nat) (vb : Option Nat), 9 - i = m22 → Mo S (fun x => U S q x) h g → (i ≤ 9) → (RqC S g q l a ws ns vb) → (rdK S G g q l i v a ws ns vb) → Wp G d 19 22 [some (vR (some q)), some (vI (b2i v)), some (vI (i : Nat))] [] g Q := by
    intro m22
    induction m22 using Nat.strongRecOn with | ind m22 IH22 => ?_
    intro g i v a ws ns vb hm22 Mg i1 R K
    have okg := Mg.ok
    refine w_iload_n d19_22 rfl ?_
    refine w_ifeq d19_23 (fun c23 => ?_) (fun c23 => ?_)
    · have b23 := b2i_f.mp c23
      refine w_less ?_ (L62 _ g v a ws ns vb rfl Mg R (K.fin (Or.inl b23)))
      exact ⟨Or.inr rfl, Or.inr rfl, Or.inl rfl, trivial⟩
    · have b23 := b2i_nz c23
      obtain ⟨t, t1, t2, t3, t4, t5, t6, t7, t8⟩ := K.resolve_left (fun z => by rw [b23] at z; cases z.2.1)
      obtain ⟨av, g1, g2, g3, g4, g5, g6⟩ := tg.vb okg t t2
      obtain ⟨gf, w1, w2⟩ := tg.tx okg (vbF.getD t 0) (vbW_lt ⟨t, t2⟩).2
      have ev := R.2.2.2.2.2.2.2.2.2.2
      have l9 : (vf t).length ≤ 9 := vf_len ⟨t, t2⟩
      refine w_iload_n d19_26 rfl ?_
      refine w_aload_n d19_27 rfl ?_
      refine w_dloadS d19_28 (okg.kd hq) (ev.trans (t3.trans g1)) ?_
      refine w_dloadS d19_31 g2 (g6.trans w1) ?_
      refine w_callv1 d19_34 (by omega) rfl w2.1 (by simp) (Nat.le_of_ble_eq_true rfl) ?_
      refine c_Str_length (by omega) w2 ?_
      refine w_icmpge d19_37 (fun c37 => ?_) (fun c37 => ?_)
      · have il : i = (vf t).length := by have : (vf t).length = (txt (vbF.getD t 0)).length := rfl; omega
        refine w_less ?_ (L62 _ g v a ws ns vb rfl Mg R (K.fin (Or.inr (fun t2 ht => by rw [t1] at ht; cases ht; omega))))
        exact ⟨Or.inr rfl, Or.inr rfl, Or.inl rfl, trivial⟩
      · have il : i < (vf t).length := by have : (vf t).length = (txt (vbF.getD t 0)).length := rfl; omega
        have hd0 : (vf t).getD i 0 = 100 → i = 0 := vf_d ⟨t, t2⟩ ⟨i, by omega⟩
        have hc0 := vf_c ⟨t, t2⟩ ⟨i, by omega⟩
        have tk : (vf t).take (i + 1) = (vf t).take i ++ [(vf t).getD i 0] := take_succ il
        refine w_aload_n d19_40 rfl ?_
        refine w_aload_n d19_41 rfl ?_
        refine w_dloadS d19_42 (okg.kd hq) (ev.trans (t3.trans g1)) ?_
        refine w_dloadS d19_45 g2 (g6.trans w1) ?_
        refine w_iload_n d19_48 rfl ?_
        refine w_callv2 d19_49 (by omega) rfl w2.1 (by simp) (Nat.le_of_ble_eq_true rfl) ?_
        refine r_charAtN (S := S) (by omega) w2 il ?_
        refine w_callv2 d19_52 (by omega) rfl (okg.kd hq) (by simp) (Nat.le_of_ble_eq_true rfl) ?_
        have hns : (vf t).getD i 0 = 100 → ns = [] := fun z => by
          have i0 := hd0 z
          subst i0
          exact (t7 (by simp)).2
        refine k_Rq_readPart (c := (vf t).getD i 0) okg (by omega) hq tg R hc0 hns (fun h52 v52 a52 ws52 ns52 m52 R f1 f2 f3 => ?_)
        have ok52 := m52.ok
        have M52 := Mo.tr ok Mg m52 (fun x u => (U_trans U_refl u))
        refine w_istore1 d19_55 rfl ?_
        refine w_iinc2 d19_56 rfl (by constructor <;> omega) ?_
        refine w_goto d19_59 ?_
        refine w_less ?_ (IH22 _ (by omega) h52 (i + 1) v52 a52 ws52 ns52 vb rfl M52 (by omega) R (Or.inr ⟨t, t1, t2, t3, il, by rw [tk, pFo_snoc, pStep, ← t5, b23, if_pos rfl, ← t6]; exact f1.1, by rw [tk, pFo_snoc, pStep, ← t5, b23, if_pos rfl, ← t6]; exact f1.2, fun hz => by
          rw [tk] at hz
          have hz1 : 100 ∉ (vf t).take i := fun z => hz (List.mem_append_left _ z)
          have hz2 : (vf t).getD i 0 ≠ 100 := fun z => hz (List.mem_append_right _ (List.mem_singleton.mpr z.symm))
          obtain ⟨y1, y2⟩ := t7 hz1
          have y := f2 hz2
          rw [tk, pFo_snoc, pStep, ← t5, b23, if_pos rfl, ← t6, ← y1, ← y2]
          exact y, fun f c e hv => by
          rw [tk] at e
          have e2 := List.append_inj' e rfl
          rw [← e2.1, ← t6]
          have e3 := e2.2
          cases e3
          exact f3 hv⟩))
        exact ⟨Or.inr rfl, Or.inr rfl, Or.inr rfl, trivial⟩
  refine w_less ?_ (L22 _ h16 0 b16 (vbR l 35 0 0).2 [] [] vb16 rfl M16 (by omega) R (by
    unfold rdK
    cases hP : (vbR l 35 0 0).1 with
    | none => rw [hP] at f1; exact Or.inl ⟨rfl, f1, rfl⟩
    | some t =>
      rw [hP] at f1
      refine Or.inr ⟨t, rfl, (f2 t hP).1, (f2 t hP).2, Nat.zero_le _, f1, rfl, fun _ => ⟨rfl, rfl⟩, fun f c e => ?_⟩
      simp at e))
  exact ⟨Or.inr rfl, Or.inr rfl, Or.inr rfl, trivial⟩
