/-! the store -/
section STORE
variable {S : Shp} {h h' : Hp} {A : Nat → Prop} {a b s : Nat} {v : OutV} {ps : List Int64} {pu : Nat → OutV} {pp : Nat → List Int64} {re : Nat → OutV} {ed : Nat → Nat → Nat} {ra : Nat → Nat} {ks : List (Int64 × OutV)}
theorem OA.kind (ok : Ok S h) (ha : sK S a = 3) {x : Nat} (q : OA S a x) : sK S x = 3 ∨ sK S x = 6 ∨ sK S x = 44 := by
  have K7 := kT257 ok ha
  have K8 := kT258 ok ha
  have K9 := kT259 ok ha
  have K0 := kT260 ok ha
  rcases q with q | q | q | q | q <;> rw [q] <;> omega
theorem OA.no (ok : Ok S h) (ha : sK S a = 3) {x : Nat} (hx : sK S x ≠ 3 ∧ sK S x ≠ 6 ∧ sK S x ≠ 44) : ¬ OA S a x := fun q => by
  have := q.kind ok ha
  omega
theorem OA.off (ok : Ok S h) (ha : sK S a = 3) (hb : sK S b = 3) (ne : a ≠ b) : ¬ OA S a b ∧ ∀ f, 257 ≤ f → f ≤ 260 → ¬ OA S a (sT S f b) := by
  have K7 := kT257 ok ha
  have K8 := kT258 ok ha
  have K9 := kT259 ok ha
  have K0 := kT260 ok ha
  refine ⟨fun q => ?_, fun f f1 f2 q => ?_⟩
  · rcases q with q | q | q | q | q
    · exact ne q.symm
    all_goals rw [q] at hb; omega
  · rcases q with q | q | q | q | q
    · have : f = 257 ∨ f = 258 ∨ f = 259 ∨ f = 260 := by omega
      have B7 := kT257 ok hb
      have B8 := kT258 ok hb
      have B9 := kT259 ok hb
      have B0 := kT260 ok hb
      rcases this with e | e | e | e <;> subst e
      all_goals first | (rw [q] at B7; omega) | (rw [q] at B8; omega) | (rw [q] at B9; omega) | (rw [q] at B0; omega)
    all_goals exact ok.so.ou (by omega) (by decide) (Or.inr ne.symm) q
theorem OA.u (so : SOk S) {x : Nat} (q : OA S a x) : U S a x := by
  rcases q with q | q | q | q | q <;> rw [q]
  · exact U_refl
  all_goals exact so.uT (by decide) U_refl
/-- an outcome is not touched -/
def OFr (A : Nat → Prop) (S : Shp) (a : Nat) : Prop := ¬ A a ∧ ∀ f, 257 ≤ f → f ≤ 260 → ¬ A (sT S f a)
theorem OuC.f (ok : Ok S h) (m : Mo S A h h') (ha : sK S a = 3) (q : OFr A S a) (D : OuC S h a v) : OuC S h' a v := D.mo ok m ha q.1 (q.2 257 (by decide) (by decide)) (q.2 258 (by decide) (by decide)) (q.2 259 (by decide) (by decide))
theorem PaC.f (ok : Ok S h) (m : Mo S A h h') (ha : sK S a = 3) (q : OFr A S a) (D : PaC S h a ps) : PaC S h' a ps := D.mo ok m ha q.1 (q.2 260 (by decide) (by decide))
theorem OFr.fl (ok : Ok S h) (m : Mo S A h h') (ha : sK S a = 3) (q : OFr A S a) (f : Nat) : FL h' f a = FL h f a := m.fl ok (by omega) q.1 f
def kK (ks : List (Int64 × OutV)) (i : Nat) : Int64 := (ks.getD i (0, (false, [], [], []))).1
def kO (ks : List (Int64 × OutV)) (i : Nat) : OutV := (ks.getD i (0, (false, [], [], []))).2
def PutC (S : Shp) (h : Hp) (s : Nat) (pu : Nat → OutV) (pp : Nat → List Int64) : Prop := ∀ t, t < 14 → OuC S h (sE S (sT S 896 s) t) (pu t) ∧ PaC S h (sE S (sT S 896 s) t) (pp t)
def RelC (S : Shp) (h : Hp) (s : Nat) (re : Nat → OutV) (ed : Nat → Nat → Nat) : Prop := ∀ t, t < 14 → OuC S h (sE S (sT S 897 s) t) (re t) ∧ ∀ i, i < 3 → AI h (sE S (sT S 898 s) t) i = (ed t i : Nat)
def ReaC (S : Shp) (h : Hp) (s : Nat) (ra : Nat → Nat) : Prop := ∀ t, t < 14 → AI h (sT S 899 s) t = (ra t : Nat)
def KepC (S : Shp) (h : Hp) (s : Nat) (ks : List (Int64 × OutV)) : Prop := ∃ σ : Nat → Nat, (∀ i, i < sL S (sT S 900 s) → σ i < sL S (sT S 900 s) ∧ AR h (sT S 900 s) i = some (sE S (sT S 900 s) (σ i))) ∧ (∀ i j, i < sL S (sT S 900 s) → j < sL S (sT S 900 s) → σ i = σ j → i = j) ∧ FI h 901 s = ks.length ∧ ks.length ≤ sL S (sT S 900 s) ∧ sL S (sT S 900 s) ≤ 24 ∧
  ∀ i, i < ks.length → FL h 262 (sE S (sT S 900 s) (σ i)) = kK ks i ∧ OuC S h (sE S (sT S 900 s) (σ i)) (kO ks i)
/-- the store: what was put and its parts, what was released and its edition, reasons, what is kept -/
def StC (S : Shp) (h : Hp) (s : Nat) (pu : Nat → OutV) (pp : Nat → List Int64) (re : Nat → OutV) (ed : Nat → Nat → Nat) (ra : Nat → Nat) (ks : List (Int64 × OutV)) : Prop := PutC S h s pu pp ∧ RelC S h s re ed ∧ ReaC S h s ra ∧ KepC S h s ks
theorem PutC.f (ok : Ok S h) (m : Mo S A h h') (hs : sK S s = 8) (q : ∀ t, t < 14 → OFr A S (sE S (sT S 896 s) t)) (D : PutC S h s pu pp) : PutC S h' s pu pp := fun t ht => ⟨(D t ht).1.f ok m (kE896 ok hs ht) (q t ht), (D t ht).2.f ok m (kE896 ok hs ht) (q t ht)⟩
theorem RelC.f (ok : Ok S h) (m : Mo S A h h') (hs : sK S s = 8) (q : ∀ t, t < 14 → OFr A S (sE S (sT S 897 s) t) ∧ ¬ A (sE S (sT S 898 s) t)) (D : RelC S h s re ed) : RelC S h' s re ed := fun t ht => by
  have k := kE898 ok hs ht
  exact ⟨(D t ht).1.f ok m (kE897 ok hs ht) (q t ht).1, fun i hi => (congrFun (m.ai ok (by omega) (q t ht).2) i).trans ((D t ht).2 i hi)⟩
theorem ReaC.f (ok : Ok S h) (m : Mo S A h h') (hs : sK S s = 8) (q : ¬ A (sT S 899 s)) (D : ReaC S h s ra) : ReaC S h' s ra := fun t ht => by
  have k := kT899 ok hs
  exact (congrFun (m.ai ok (by omega) q) t).trans (D t ht)
theorem k900 (ok : Ok S h) (hs : sK S s = 8) {i : Nat} (hi : i < sL S (sT S 900 s)) : sK S (sE S (sT S 900 s) i) = 3 := (ok.so.2.2.2.1 900 s i (by decide) hs hi).1
theorem KepC.f (ok : Ok S h) (m : Mo S A h h') (hs : sK S s = 8) (q0 : ¬ A s ∨ FI h' 901 s = FI h 901 s) (q1 : ¬ A (sT S 900 s)) (q2 : ∀ i, i < sL S (sT S 900 s) → OFr A S (sE S (sT S 900 s) i)) (D : KepC S h s ks) : KepC S h' s ks := by
  obtain ⟨σ, d1, d2, d3, d4, d5, d6⟩ := D
  have k := kT900 ok hs
  refine ⟨σ, fun i hi => ⟨(d1 i hi).1, (congrFun (m.ar ok (by omega) q1) i).trans (d1 i hi).2⟩, d2, ?_, d4, d5, fun i hi => ?_⟩
  · rcases q0 with q | q
    · exact (m.fi ok (by omega) q 901).trans d3
    · exact q.trans d3
  · have si := (d1 i (by omega)).1
    have ke := k900 ok hs si
    exact ⟨(m.fl ok (by omega) (q2 _ si).1 262).trans (d6 i hi).1, (d6 i hi).2.f ok m ke (q2 _ si)⟩
theorem OFr.u (so : SOk S) (hA : ∀ y, U S s y → ¬ A y) {f t : Nat} (hf : f < 4096) (ht : t < 4096) : OFr A S (sE S (sT S f s) t) := ⟨hA _ (so.uE ht (so.uT hf U_refl)), fun g _ g2 => hA _ (so.uT (by omega) (so.uE ht (so.uT hf U_refl)))⟩
theorem StC.u (ok : Ok S h) (m : Mo S A h h') (hs : sK S s = 8) (hA : ∀ y, U S s y → ¬ A y) (D : StC S h s pu pp re ed ra ks) : StC S h' s pu pp re ed ra ks := by
  have l5 : sL S (sT S 900 s) ≤ 24 := D.2.2.2.choose_spec.2.2.2.2.1
  exact ⟨D.1.f ok m hs (fun t ht => OFr.u ok.so hA (by decide) (by omega)), D.2.1.f ok m hs (fun t ht => ⟨OFr.u ok.so hA (by decide) (by omega), hA _ (ok.so.uE (by omega) (ok.so.uT (by decide) U_refl))⟩), D.2.2.1.f ok m hs (hA _ (ok.so.uT (by decide) U_refl)), D.2.2.2.f ok m hs (Or.inl (hA _ U_refl)) (hA _ (ok.so.uT (by decide) U_refl)) (fun i hi => OFr.u ok.so hA (by decide) (by omega))⟩
theorem l898 (ok : Ok S h) (hs : sK S s = 8) {n : Nat} (hn : n < 14) : sL S (sE S (sT S 898 s) n) = 3 := (ok.so.2.2.2.1 898 s n (by decide) hs (by have := lT898 ok hs; rw [(ok.st.1 _ (by have := kT898 ok hs; omega)).2] at this; omega)).2 rfl
theorem g_e898 (ok : Ok S h) (hs : sK S s = 8) {n i : Nat} (hn : n < 14) (hi : i < 3) : isIA (KD h (sE S (sT S 898 s) n)) = true ∧ bnd (i : Nat) (LN h (sE S (sT S 898 s) n)) := by
  have k := kE898 ok hs hn
  refine ⟨by rw [ok.kd k]; decide, ?_⟩
  rw [(ok.st.1 _ (by omega)).2, l898 ok hs hn]
  exact ⟨by omega, by omega⟩
/-- whether a target has been put -/
def hpB (pu : Nat → OutV) (t : Int) : Bool := decide (0 ≤ t ∧ t < 14) && (pu t.toNat).1
/-- the place of a key among what is kept -/
def kfd (ks : List (Int64 × OutV)) (x : Int64) : Int := srF (fun i => kK ks i == x) ks.length 0
/-- what is told of a reason -/
def reaTxt (ra : Nat → Nat) (t : Int) : List Nat := if 0 ≤ t ∧ t < 14 then (if ra t.toNat < 5 then txt (10 + ra t.toNat) else txt 15 ++ dec (ra t.toNat - 5)) else txt 10
/-- an edition told: its first numbers -/
def ediTxt (e : Nat → Nat) : Nat → List Nat
  | 0 => []
  | i + 1 => ediTxt e i ++ ((if 0 < i then [46] else []) ++ dec (e i))
end STORE
theorem d80_0 : dc 80 0 = some (.iload_n 1, 1) := by decide +kernel
theorem d80_1 : dc 80 1 = some (.ifCond .lt ((26 : Nat) : Int), 4) := by decide +kernel
theorem d80_4 : dc 80 4 = some (.iload_n 1, 5) := by decide +kernel
theorem d80_5 : dc 80 5 = some (.bipush 14, 7) := by decide +kernel
theorem d80_7 : dc 80 7 = some (.if_icmp .ge ((26 : Nat) : Int), 10) := by decide +kernel
theorem d80_10 : dc 80 10 = some (.aload_n 0, 11) := by decide +kernel
theorem d80_11 : dc 80 11 = some (.dload 896, 14) := by decide +kernel
theorem d80_14 : dc 80 14 = some (.iload_n 1, 15) := by decide +kernel
theorem d80_15 : dc 80 15 = some (.aaload, 16) := by decide +kernel
theorem d80_16 : dc 80 16 = some (.getfield 256, 19) := by decide +kernel
theorem d80_19 : dc 80 19 = some (.ifCond .eq ((26 : Nat) : Int), 22) := by decide +kernel
theorem d80_22 : dc 80 22 = some (.iconst 1, 23) := by decide +kernel
theorem d80_23 : dc 80 23 = some (.goto ((27 : Nat) : Int), 26) := by decide +kernel
theorem d80_26 : dc 80 26 = some (.iconst 0, 27) := by decide +kernel
theorem d80_27 : dc 80 27 = some (.freturn, 28) := by decide +kernel
theorem k_St_hasPut {S : Shp} {G : Nat → Option Nat} {d : Nat} {h : Hp} {Q : Option MV → Hp → Prop} {s : Nat} {t : Int}  (ok : Ok S h) (h1 : 0 ≤ d) (hs : sK S s = 8) {pu : Nat → OutV} {pp : Nat → List Int64} {re : Nat → OutV} {ed : Nat → Nat → Nat} {ra : Nat → Nat} {ks : List (Int64 × OutV)} (sc : StC S h s pu pp re ed ra ks)
    (kk : Q (some (vI (b2i (hpB pu t)))) h) : Cl G d 80 [vR (some s), vI t] h Q := by
  show Wp G d 80 0 [some (vR (some s)), some (vI t)] [] h Q
  refine w_iload_n d80_0 rfl ?_
  refine w_iflt d80_1 (fun c1 => ?_) (fun c1 => ?_)
  · have hn : ¬ (0 ≤ t ∧ t < 14) := by omega
    refine w_iconst d80_26 (by decide) ?_
    refine w_zreturn d80_27 (by decide) ?_
    refine qI ?_ kk
    unfold hpB
    first | (rw [decide_eq_false hn]; first | done | rfl) | (rw [decide_eq_true (show 0 ≤ ((n : Nat) : Int) ∧ ((n : Nat) : Int) < 14 by omega), show ((n : Nat) : Int).toNat = n from rfl, hq]; first | done | rfl)
  · refine w_iload_n d80_4 rfl ?_
    refine w_bipush d80_5 (by decide) ?_
    refine w_icmpge d80_7 (fun c7 => ?_) (fun c7 => ?_)
    · have hn : ¬ (0 ≤ t ∧ t < 14) := by omega
      refine w_iconst d80_26 (by decide) ?_
      refine w_zreturn d80_27 (by decide) ?_
      refine qI ?_ kk
      unfold hpB
      first | (rw [decide_eq_false hn]; first | done | rfl) | (rw [decide_eq_true (show 0 ≤ ((n : Nat) : Int) ∧ ((n : Nat) : Int) < 14 by omega), show ((n : Nat) : Int).toNat = n from rfl, hq]; first | done | rfl)
    · obtain ⟨n, rfl⟩ : ∃ n : Nat, t = (n : Int) := ⟨t.toNat, (Int.toNat_of_nonneg (by omega)).symm⟩
      have hp := (sc.1 n (by omega)).1.1
      refine w_aload_n d80_10 rfl ?_
      refine w_dloadS d80_11 (ok.kd hs) (fr896 ok hs) ?_
      refine w_iload_n d80_14 rfl ?_
      have k15 := kE896 ok hs (j := n) (by omega)
      refine w_aaloadSN d80_15 (gi896 ok hs (by omega)) (er896 ok hs (by omega)) ?_
      refine w_getI (x := (b2i (pu n).1)) d80_16 (ok.kd k15) hp ?_
      refine w_ifeq d80_19 (fun c19 => ?_) (fun c19 => ?_)
      · have hq : (pu n).1 = false := by cases z : (pu n).1 with
          | true => rw [z] at c19; exact absurd c19 (by decide)
          | false => rfl
        refine w_iconst d80_26 (by decide) ?_
        refine w_zreturn d80_27 (by decide) ?_
        refine qI ?_ kk
        unfold hpB
        first | (rw [decide_eq_false hn]; first | done | rfl) | (rw [decide_eq_true (show 0 ≤ ((n : Nat) : Int) ∧ ((n : Nat) : Int) < 14 by omega), show ((n : Nat) : Int).toNat = n from rfl, hq]; first | done | rfl)
      · have hq : (pu n).1 = true := by cases z : (pu n).1 with
          | false => rw [z] at c19; exact absurd rfl c19
          | true => rfl
        refine w_iconst d80_22 (by decide) ?_
        refine w_goto d80_23 ?_
        refine w_zreturn d80_27 (by decide) ?_
        refine qI ?_ kk
        unfold hpB
        first | (rw [decide_eq_false hn]; first | done | rfl) | (rw [decide_eq_true (show 0 ≤ ((n : Nat) : Int) ∧ ((n : Nat) : Int) < 14 by omega), show ((n : Nat) : Int).toNat = n from rfl, hq]; first | done | rfl)
theorem d110_0 : dc 110 0 = some (.iconst 0, 1) := by decide +kernel
theorem d110_1 : dc 110 1 = some (.istore_n 3, 2) := by decide +kernel
theorem d110_2 : dc 110 2 = some (.iload_n 3, 3) := by decide +kernel
theorem d110_3 : dc 110 3 = some (.aload_n 0, 4) := by decide +kernel
theorem d110_4 : dc 110 4 = some (.getfield 901, 7) := by decide +kernel
theorem d110_7 : dc 110 7 = some (.if_icmp .ge ((32 : Nat) : Int), 10) := by decide +kernel
theorem d110_10 : dc 110 10 = some (.aload_n 0, 11) := by decide +kernel
theorem d110_11 : dc 110 11 = some (.dload 900, 14) := by decide +kernel
theorem d110_14 : dc 110 14 = some (.iload_n 3, 15) := by decide +kernel
theorem d110_15 : dc 110 15 = some (.aaload, 16) := by decide +kernel
theorem d110_16 : dc 110 16 = some (.fload 262, 19) := by decide +kernel
theorem d110_19 : dc 110 19 = some (.lload_n 1, 20) := by decide +kernel
theorem d110_20 : dc 110 20 = some (.lcmp, 21) := by decide +kernel
theorem d110_21 : dc 110 21 = some (.ifCond .ne ((26 : Nat) : Int), 24) := by decide +kernel
theorem d110_24 : dc 110 24 = some (.iload_n 3, 25) := by decide +kernel
theorem d110_25 : dc 110 25 = some (.ireturn, 26) := by decide +kernel
theorem d110_26 : dc 110 26 = some (.iinc 3 1, 29) := by decide +kernel
theorem d110_29 : dc 110 29 = some (.goto ((2 : Nat) : Int), 32) := by decide +kernel
theorem d110_32 : dc 110 32 = some (.iconst (-1), 33) := by decide +kernel
theorem d110_33 : dc 110 33 = some (.ireturn, 34) := by decide +kernel
theorem k_St_find {S : Shp} {G : Nat → Option Nat} {d : Nat} {h : Hp} {Q : Option MV → Hp → Prop} {s : Nat} {x : Int64}  (ok : Ok S h) (h1 : 0 ≤ d) (hs : sK S s = 8) {ks : List (Int64 × OutV)} (kc : KepC S h s ks)
    (kk : Q (some (vI (kfd ks x))) h) : Cl G d 110 [vR (some s), vJ x] h Q := by
  show Wp G d 110 0 [some (vR (some s)), some (vJ x), none, none] [] h Q
  obtain ⟨σ, s1, s2, q1, q2, q4, q3⟩ := kc
  refine w_iconst d110_0 (by decide) ?_
  refine w_istore3 d110_1 rfl ?_
  have L2 : ∀ (m2 : Nat) (i : Nat), ks.length - i = m2 → (i ≤ ks.length) → (srF (fun i => kK ks i == x) ks.length 0 = srF (fun i => kK ks i == x) ks.length i) → Wp G d 110 2 [some (vR (some s)), some (vJ x), none, some (vI (i : Nat))] [] h Q := by
    intro m2
    induction m2 using Nat.strongRecOn with | ind m2 IH2 => ?_
    intro i hm2 i1 i2
    refine w_iload_n d110_2 rfl ?_
    refine w_aload_n d110_3 rfl ?_
    refine w_getI (x := ((ks.length : Nat) : Int)) d110_4 (ok.kd hs) q1 ?_
    refine w_icmpge d110_7 (fun c7 => ?_) (fun c7 => ?_)
    · refine w_iconst d110_32 (by decide) ?_
      refine w_ireturn d110_33 ?_
      unfold kfd at kk
      rw [i2, srF_end (by omega)] at kk
      exact kk
    · have hi : i < ks.length := by omega
      obtain ⟨a1, a2⟩ := q3 i hi
      have K900 := kT900 ok hs
      refine w_aload_n d110_10 rfl ?_
      refine w_dloadS d110_11 (ok.kd hs) (fr900 ok hs) ?_
      refine w_iload_n d110_14 rfl ?_
      refine w_aaloadSN d110_15 ⟨by rw [ok.kd K900]; decide, by rw [(ok.st.1 _ (by omega)).2]; exact ⟨by omega, by omega⟩⟩ (s1 i (by omega)).2 ?_
      refine w_floadV (x := (kK ks i)) d110_16 (ok.kd (show sK S (sE S (sT S 900 s) (σ i)) = 3 from k900 ok hs (s1 i (by omega)).1)) a1 ?_
      refine w_lload_n d110_19 rfl ?_
      refine w_lcmp d110_20 ?_
      refine w_ifne d110_21 (fun c21 => ?_) (fun c21 => ?_)
      · have z : (kK ks i == x) = false := by simp; intro q; exact absurd (lcmp0.mpr q) c21
        refine w_iinc3 d110_26 rfl (by constructor <;> omega) ?_
        refine w_goto d110_29 ?_
        refine w_less ?_ (IH2 _ (by omega) (i + 1) rfl (by omega) (by rw [i2, srF_no hi z]))
        exact ⟨Or.inr rfl, Or.inr rfl, Or.inl rfl, Or.inr rfl, trivial⟩
      · have z : (kK ks i == x) = true := by simp [lcmp0.mp c21]
        refine w_iload_n d110_24 rfl ?_
        refine w_ireturn d110_25 ?_
        unfold kfd at kk
        rw [i2, srF_yes hi z] at kk
        exact kk
  refine w_less ?_ (L2 _ 0 rfl (by omega) rfl)
  exact ⟨Or.inr rfl, Or.inr rfl, Or.inl rfl, Or.inr rfl, trivial⟩
theorem d172_0 : dc 172 0 = some (.aload_n 0, 1) := by decide +kernel
theorem d172_1 : dc 172 1 = some (.iload_n 1, 2) := by decide +kernel
theorem d172_2 : dc 172 2 = some (.invokevirtual 80, 5) := by decide +kernel
theorem d172_5 : dc 172 5 = some (.ifCond .eq ((40 : Nat) : Int), 8) := by decide +kernel
theorem d172_8 : dc 172 8 = some (.aload_n 3, 9) := by decide +kernel
theorem d172_9 : dc 172 9 = some (.iload_n 2, 10) := by decide +kernel
theorem d172_10 : dc 172 10 = some (.ifCond .eq ((25 : Nat) : Int), 13) := by decide +kernel
theorem d172_13 : dc 172 13 = some (.aload_n 0, 14) := by decide +kernel
theorem d172_14 : dc 172 14 = some (.dload 896, 17) := by decide +kernel
theorem d172_17 : dc 172 17 = some (.iload_n 1, 18) := by decide +kernel
theorem d172_18 : dc 172 18 = some (.aaload, 19) := by decide +kernel
theorem d172_19 : dc 172 19 = some (.dload 258, 22) := by decide +kernel
theorem d172_22 : dc 172 22 = some (.goto ((34 : Nat) : Int), 25) := by decide +kernel
theorem d172_25 : dc 172 25 = some (.aload_n 0, 26) := by decide +kernel
theorem d172_26 : dc 172 26 = some (.dload 896, 29) := by decide +kernel
theorem d172_29 : dc 172 29 = some (.iload_n 1, 30) := by decide +kernel
theorem d172_30 : dc 172 30 = some (.aaload, 31) := by decide +kernel
theorem d172_31 : dc 172 31 = some (.dload 257, 34) := by decide +kernel
theorem d172_34 : dc 172 34 = some (.invokevirtual 170, 37) := by decide +kernel
theorem d172_37 : dc 172 37 = some (.goto ((46 : Nat) : Int), 40) := by decide +kernel
theorem d172_40 : dc 172 40 = some (.aload_n 3, 41) := by decide +kernel
theorem d172_41 : dc 172 41 = some (.getstatic 54, 43) := by decide +kernel
theorem d172_43 : dc 172 43 = some (.invokevirtual 84, 46) := by decide +kernel
theorem d172_46 : dc 172 46 = some (.return_, 47) := by decide +kernel
theorem k_St_tellPut {S : Shp} {G : Nat → Option Nat} {d : Nat} {h : Hp} {Q : Option MV → Hp → Prop} {s : Nat} {t : Int} {z : Int} {r : Nat}  (ok : Ok S h) (h1 : 5 ≤ d) (hs : sK S s = 8) (hr : sK S r = 6) (tg : Tg S G) {pu : Nat → OutV} {pp : Nat → List Int64} {re : Nat → OutV} {ed : Nat → Nat → Nat} {ra : Nat → Nat} {ks : List (Int64 × OutV)} (sc : StC S h s pu pp re ed ra ks) {fc : Bool} (hz : z = b2i fc) (hsr : ¬ U S s r)
    (kk : ∀ h', Mo S (fun y => y = r) h h' → rl h' r = addBs (cap h r) (rl h r) (if hpB pu t = true then (if fc = true then oF (pu t.toNat) else oO (pu t.toNat)).map told else txt 4) → cap h' r = cap h r → Q none h') : Cl G d 172 [vR (some s), vI t, vI z, vR (some r)] h Q := by
  show Wp G d 172 0 [some (vR (some s)), some (vI t), some (vI z), some (vR (some r))] [] h Q
  refine w_aload_n d172_0 rfl ?_
  refine w_iload_n d172_1 rfl ?_
  refine w_callv2 d172_2 (by omega) rfl (ok.kd hs) (by simp) (Nat.le_of_ble_eq_true rfl) ?_
  refine k_St_hasPut ok (by omega) hs sc ?_
  refine w_ifeq d172_5 (fun c5 => ?_) (fun c5 => ?_)
  · have hpf : hpB pu t = false := by cases z : hpB pu t with
      | false => rfl
      | true => rw [z] at c5; exact absurd c5 (by decide)
    rw [if_neg (by rw [hpf]; decide)] at kk
    refine w_aload_n d172_40 rfl ?_
    obtain ⟨g41, v41, s41⟩ := tg.tx ok 4 (by decide)
    refine w_getstaticS d172_41 v41 ?_
    refine w_callv2 d172_43 (by omega) rfl (ok.kd hr) (by simp) (Nat.le_of_ble_eq_true rfl) ?_
    refine r_Row_addText (by omega) ok hr s41 (fun h43 m43 e43_1 e43_2 => ?_)
    have ok43 := m43.ok
    have M43 := Mo.tr ok (Mo.refl (A := (fun x => x = r)) ok) m43 (fun x e => e)
    refine w_return d172_46 ?_
    first | exact kk h43 M43 e43_1 e43_2 | exact kk h34 M34 (by rw [e34_1]; first | rw [D.2.1]; rfl | rw [D.2.2.1]; rfl) e34_2
  · have hpt : hpB pu t = true := by cases z : hpB pu t with
      | true => rfl
      | false => rw [z] at c5; exact absurd rfl c5
    have hpt2 := hpt
    unfold hpB at hpt2
    rw [Bool.and_eq_true, decide_eq_true_eq] at hpt2
    obtain ⟨n, rfl⟩ : ∃ n : Nat, t = (n : Int) := ⟨t.toNat, (Int.toNat_of_nonneg (by omega)).symm⟩
    have hn : n < 14 := by omega
    have D := (sc.1 n hn).1
    rw [if_pos hpt] at kk
    refine w_aload_n d172_8 rfl ?_
    refine w_iload_n d172_9 rfl ?_
    refine w_ifeq d172_10 (fun c10 => ?_) (fun c10 => ?_)
    · have fF : ¬ fc = true := by rw [hz] at c10; cases fc with
        | true => exact absurd c10 (by decide)
        | false => decide
      rw [if_neg fF] at kk
      refine w_aload_n d172_25 rfl ?_
      refine w_dloadS d172_26 (ok.kd hs) (fr896 ok hs) ?_
      refine w_iload_n d172_29 rfl ?_
      have k30 := kE896 ok hs (j := n) (by omega)
      refine w_aaloadSN d172_30 (gi896 ok hs (by omega)) (er896 ok hs (by omega)) ?_
      refine w_dloadS d172_31 (ok.kd k30) (fr257 ok k30) ?_
      refine w_callv2 d172_34 (by omega) rfl (ok.kd hr) (by simp) (Nat.le_of_ble_eq_true rfl) ?_
      refine r_Row_addTold (by omega) ok hr (kT257 ok k30) (fun z => hsr (z ▸ ok.so.uT (by decide) (ok.so.uE (by omega) (ok.so.uT (by decide) U_refl)))) (fun h34 m34 e34_1 e34_2 => ?_)
      have ok34 := m34.ok
      have M34 := Mo.tr ok (Mo.refl (A := (fun x => x = r)) ok) m34 (fun x e => e)
      refine w_goto d172_37 ?_
      refine w_return d172_46 ?_
      first | exact kk h43 M43 e43_1 e43_2 | exact kk h34 M34 (by rw [e34_1]; first | rw [D.2.1]; rfl | rw [D.2.2.1]; rfl) e34_2
    · have fT : fc = true := by rw [hz] at c10; cases fc with
        | false => exact absurd rfl c10
        | true => rfl
      rw [if_pos fT] at kk
      refine w_aload_n d172_13 rfl ?_
      refine w_dloadS d172_14 (ok.kd hs) (fr896 ok hs) ?_
      refine w_iload_n d172_17 rfl ?_
      have k18 := kE896 ok hs (j := n) (by omega)
      refine w_aaloadSN d172_18 (gi896 ok hs (by omega)) (er896 ok hs (by omega)) ?_
      refine w_dloadS d172_19 (ok.kd k18) (fr258 ok k18) ?_
      refine w_goto d172_22 ?_
      refine w_callv2 d172_34 (by omega) rfl (ok.kd hr) (by simp) (Nat.le_of_ble_eq_true rfl) ?_
      refine r_Row_addTold (by omega) ok hr (kT258 ok k18) (fun z => hsr (z ▸ ok.so.uT (by decide) (ok.so.uE (by omega) (ok.so.uT (by decide) U_refl)))) (fun h34 m34 e34_1 e34_2 => ?_)
      have ok34 := m34.ok
      have M34 := Mo.tr ok (Mo.refl (A := (fun x => x = r)) ok) m34 (fun x e => e)
      refine w_goto d172_37 ?_
      refine w_return d172_46 ?_
      first | exact kk h43 M43 e43_1 e43_2 | exact kk h34 M34 (by rw [e34_1]; first | rw [D.2.1]; rfl | rw [D.2.2.1]; rfl) e34_2
theorem d173_0 : dc 173 0 = some (.iload_n 1, 1) := by decide +kernel
theorem d173_1 : dc 173 1 = some (.ifCond .lt ((19 : Nat) : Int), 4) := by decide +kernel
theorem d173_4 : dc 173 4 = some (.iload_n 1, 5) := by decide +kernel
theorem d173_5 : dc 173 5 = some (.bipush 14, 7) := by decide +kernel
theorem d173_7 : dc 173 7 = some (.if_icmp .ge ((19 : Nat) : Int), 10) := by decide +kernel
theorem d173_10 : dc 173 10 = some (.aload_n 0, 11) := by decide +kernel
theorem d173_11 : dc 173 11 = some (.dload 899, 14) := by decide +kernel
theorem d173_14 : dc 173 14 = some (.iload_n 1, 15) := by decide +kernel
theorem d173_15 : dc 173 15 = some (.iaload, 16) := by decide +kernel
theorem d173_16 : dc 173 16 = some (.goto ((20 : Nat) : Int), 19) := by decide +kernel
theorem d173_19 : dc 173 19 = some (.iconst 0, 20) := by decide +kernel
theorem d173_20 : dc 173 20 = some (.istore_n 3, 21) := by decide +kernel
theorem d173_21 : dc 173 21 = some (.iload_n 3, 22) := by decide +kernel
theorem d173_22 : dc 173 22 = some (.tableswitch ((101 : Nat) : Int) 0 4 #[((56 : Nat) : Int), ((65 : Nat) : Int), ((74 : Nat) : Int), ((83 : Nat) : Int), ((92 : Nat) : Int)], 56) := by decide +kernel
theorem d173_56 : dc 173 56 = some (.aload_n 2, 57) := by decide +kernel
theorem d173_57 : dc 173 57 = some (.getstatic 60, 59) := by decide +kernel
theorem d173_59 : dc 173 59 = some (.invokevirtual 84, 62) := by decide +kernel
theorem d173_62 : dc 173 62 = some (.goto ((114 : Nat) : Int), 65) := by decide +kernel
theorem d173_65 : dc 173 65 = some (.aload_n 2, 66) := by decide +kernel
theorem d173_66 : dc 173 66 = some (.getstatic 61, 68) := by decide +kernel
theorem d173_68 : dc 173 68 = some (.invokevirtual 84, 71) := by decide +kernel
theorem d173_71 : dc 173 71 = some (.goto ((114 : Nat) : Int), 74) := by decide +kernel
theorem d173_74 : dc 173 74 = some (.aload_n 2, 75) := by decide +kernel
theorem d173_75 : dc 173 75 = some (.getstatic 62, 77) := by decide +kernel
theorem d173_77 : dc 173 77 = some (.invokevirtual 84, 80) := by decide +kernel
theorem d173_80 : dc 173 80 = some (.goto ((114 : Nat) : Int), 83) := by decide +kernel
theorem d173_83 : dc 173 83 = some (.aload_n 2, 84) := by decide +kernel
theorem d173_84 : dc 173 84 = some (.getstatic 63, 86) := by decide +kernel
theorem d173_86 : dc 173 86 = some (.invokevirtual 84, 89) := by decide +kernel
theorem d173_89 : dc 173 89 = some (.goto ((114 : Nat) : Int), 92) := by decide +kernel
theorem d173_92 : dc 173 92 = some (.aload_n 2, 93) := by decide +kernel
theorem d173_93 : dc 173 93 = some (.getstatic 64, 95) := by decide +kernel
theorem d173_95 : dc 173 95 = some (.invokevirtual 84, 98) := by decide +kernel
theorem d173_98 : dc 173 98 = some (.goto ((114 : Nat) : Int), 101) := by decide +kernel
theorem d173_101 : dc 173 101 = some (.aload_n 2, 102) := by decide +kernel
theorem d173_102 : dc 173 102 = some (.getstatic 65, 104) := by decide +kernel
theorem d173_104 : dc 173 104 = some (.invokevirtual 84, 107) := by decide +kernel
theorem d173_107 : dc 173 107 = some (.aload_n 2, 108) := by decide +kernel
theorem d173_108 : dc 173 108 = some (.iload_n 3, 109) := by decide +kernel
theorem d173_109 : dc 173 109 = some (.iconst 5, 110) := by decide +kernel
theorem d173_110 : dc 173 110 = some (.isub, 111) := by decide +kernel
theorem d173_111 : dc 173 111 = some (.invokevirtual 124, 114) := by decide +kernel
theorem d173_114 : dc 173 114 = some (.return_, 115) := by decide +kernel
theorem k_St_tellReason {S : Shp} {G : Nat → Option Nat} {d : Nat} {h : Hp} {Q : Option MV → Hp → Prop} {s : Nat} {t : Int} {r : Nat}  (ok : Ok S h) (h1 : 5 ≤ d) (hs : sK S s = 8) (hr : sK S r = 6) (tg : Tg S G) {pu : Nat → OutV} {pp : Nat → List Int64} {re : Nat → OutV} {ed : Nat → Nat → Nat} {ra : Nat → Nat} {ks : List (Int64 × OutV)} (sc : StC S h s pu pp re ed ra ks) (hsr : ¬ U S s r)
    (kk : ∀ h', Mo S (fun y => y = r) h h' → rl h' r = addBs (cap h r) (rl h r) (reaTxt ra t) → cap h' r = cap h r → Q none h') : Cl G d 173 [vR (some s), vI t, vR (some r)] h Q := by
  show Wp G d 173 0 [some (vR (some s)), some (vI t), some (vR (some r)), none] [] h Q
  refine w_iload_n d173_0 rfl ?_
  refine w_iflt d173_1 (fun c1 => ?_) (fun c1 => ?_)
  · have hn : ¬ (0 ≤ t ∧ t < 14) := by omega
    unfold reaTxt at kk
    rw [if_neg hn] at kk
    refine w_iconst d173_19 (by decide) ?_
    refine w_istore3 d173_20 rfl ?_
    refine w_iload_n d173_21 rfl ?_
    refine w_tsw 56 d173_22 (by decide) ?_
    refine w_aload_n d173_56 rfl ?_
    obtain ⟨g57, v57, s57⟩ := tg.tx ok 10 (by decide)
    refine w_getstaticS d173_57 v57 ?_
    refine w_callv2 d173_59 (by omega) rfl (ok.kd hr) (by simp) (Nat.le_of_ble_eq_true rfl) ?_
    refine r_Row_addText (by omega) ok hr s57 (fun h59 m59 e59_1 e59_2 => ?_)
    have ok59 := m59.ok
    have M59 := Mo.tr ok (Mo.refl (A := (fun x => x = r)) ok) m59 (fun x e => e)
    refine w_goto d173_62 ?_
    refine w_return d173_114 ?_
    exact kk h59 M59 e59_1 e59_2
  · refine w_iload_n d173_4 rfl ?_
    refine w_bipush d173_5 (by decide) ?_
    refine w_icmpge d173_7 (fun c7 => ?_) (fun c7 => ?_)
    · have hn : ¬ (0 ≤ t ∧ t < 14) := by omega
      unfold reaTxt at kk
      rw [if_neg hn] at kk
      refine w_iconst d173_19 (by decide) ?_
      refine w_istore3 d173_20 rfl ?_
      refine w_iload_n d173_21 rfl ?_
      refine w_tsw 56 d173_22 (by decide) ?_
      refine w_aload_n d173_56 rfl ?_
      obtain ⟨g57, v57, s57⟩ := tg.tx ok 10 (by decide)
      refine w_getstaticS d173_57 v57 ?_
      refine w_callv2 d173_59 (by omega) rfl (ok.kd hr) (by simp) (Nat.le_of_ble_eq_true rfl) ?_
      refine r_Row_addText (by omega) ok hr s57 (fun h59 m59 e59_1 e59_2 => ?_)
      have ok59 := m59.ok
      have M59 := Mo.tr ok (Mo.refl (A := (fun x => x = r)) ok) m59 (fun x e => e)
      refine w_goto d173_62 ?_
      refine w_return d173_114 ?_
      exact kk h59 M59 e59_1 e59_2
    · obtain ⟨n, rfl⟩ : ∃ n : Nat, t = (n : Int) := ⟨t.toNat, (Int.toNat_of_nonneg (by omega)).symm⟩
      have hp := sc.2.2.1 n (by omega)
      have h11 := (ra899 ok hs n).2
      rw [hp] at h11
      have kt : reaTxt ra (n : Int) = (if ra n < 5 then txt (10 + ra n) else txt 15 ++ dec (ra n - 5)) := if_pos ⟨by omega, by omega⟩
      rw [kt] at kk
      refine w_aload_n d173_10 rfl ?_
      refine w_dloadS d173_11 (ok.kd hs) (fr899 ok hs) ?_
      refine w_iload_n d173_14 rfl ?_
      refine w_ialoadV (x := ((ra n : Nat) : Int)) d173_15 (gi899 ok hs (by omega)) hp ?_
      generalize hrn : ra n = rn at *
      refine w_goto d173_16 ?_
      refine w_istore3 d173_20 rfl ?_
      refine w_iload_n d173_21 rfl ?_
      by_cases s0 : rn = 0
      · refine w_tsw 56 d173_22 (by rw [s0]; decide) ?_
        refine w_aload_n d173_56 rfl ?_
        obtain ⟨g57, v57, s57⟩ := tg.tx ok 10 (by decide)
        refine w_getstaticS d173_57 v57 ?_
        refine w_callv2 d173_59 (by omega) rfl (ok.kd hr) (by simp) (Nat.le_of_ble_eq_true rfl) ?_
        refine r_Row_addText (by omega) ok hr s57 (fun h59 m59 e59_1 e59_2 => ?_)
        have ok59 := m59.ok
        have M59 := Mo.tr ok (Mo.refl (A := (fun x => x = r)) ok) m59 (fun x e => e)
        refine w_goto d173_62 ?_
        refine w_return d173_114 ?_
        exact kk h59 M59 (by rw [e59_1, if_pos (by omega), s0]) e59_2
      by_cases s1 : rn = 1
      · refine w_tsw 65 d173_22 (by rw [s1]; decide) ?_
        refine w_aload_n d173_65 rfl ?_
        obtain ⟨g66, v66, s66⟩ := tg.tx ok 11 (by decide)
        refine w_getstaticS d173_66 v66 ?_
        refine w_callv2 d173_68 (by omega) rfl (ok.kd hr) (by simp) (Nat.le_of_ble_eq_true rfl) ?_
        refine r_Row_addText (by omega) ok hr s66 (fun h68 m68 e68_1 e68_2 => ?_)
        have ok68 := m68.ok
        have M68 := Mo.tr ok (Mo.refl (A := (fun x => x = r)) ok) m68 (fun x e => e)
        refine w_goto d173_71 ?_
        refine w_return d173_114 ?_
        exact kk h68 M68 (by rw [e68_1, if_pos (by omega), s1]) e68_2
      by_cases s2 : rn = 2
      · refine w_tsw 74 d173_22 (by rw [s2]; decide) ?_
        refine w_aload_n d173_74 rfl ?_
        obtain ⟨g75, v75, s75⟩ := tg.tx ok 12 (by decide)
        refine w_getstaticS d173_75 v75 ?_
        refine w_callv2 d173_77 (by omega) rfl (ok.kd hr) (by simp) (Nat.le_of_ble_eq_true rfl) ?_
        refine r_Row_addText (by omega) ok hr s75 (fun h77 m77 e77_1 e77_2 => ?_)
        have ok77 := m77.ok
        have M77 := Mo.tr ok (Mo.refl (A := (fun x => x = r)) ok) m77 (fun x e => e)
        refine w_goto d173_80 ?_
        refine w_return d173_114 ?_
        exact kk h77 M77 (by rw [e77_1, if_pos (by omega), s2]) e77_2
      by_cases s3 : rn = 3
      · refine w_tsw 83 d173_22 (by rw [s3]; decide) ?_
        refine w_aload_n d173_83 rfl ?_
        obtain ⟨g84, v84, s84⟩ := tg.tx ok 13 (by decide)
        refine w_getstaticS d173_84 v84 ?_
        refine w_callv2 d173_86 (by omega) rfl (ok.kd hr) (by simp) (Nat.le_of_ble_eq_true rfl) ?_
        refine r_Row_addText (by omega) ok hr s84 (fun h86 m86 e86_1 e86_2 => ?_)
        have ok86 := m86.ok
        have M86 := Mo.tr ok (Mo.refl (A := (fun x => x = r)) ok) m86 (fun x e => e)
        refine w_goto d173_89 ?_
        refine w_return d173_114 ?_
        exact kk h86 M86 (by rw [e86_1, if_pos (by omega), s3]) e86_2
      by_cases s4 : rn = 4
      · refine w_tsw 92 d173_22 (by rw [s4]; decide) ?_
        refine w_aload_n d173_92 rfl ?_
        obtain ⟨g93, v93, s93⟩ := tg.tx ok 14 (by decide)
        refine w_getstaticS d173_93 v93 ?_
        refine w_callv2 d173_95 (by omega) rfl (ok.kd hr) (by simp) (Nat.le_of_ble_eq_true rfl) ?_
        refine r_Row_addText (by omega) ok hr s93 (fun h95 m95 e95_1 e95_2 => ?_)
        have ok95 := m95.ok
        have M95 := Mo.tr ok (Mo.refl (A := (fun x => x = r)) ok) m95 (fun x e => e)
        refine w_goto d173_98 ?_
        refine w_return d173_114 ?_
        exact kk h95 M95 (by rw [e95_1, if_pos (by omega), s4]) e95_2
      refine w_tsw 101 d173_22 (by rw [if_pos (Or.inr (by omega))]) ?_
      refine w_aload_n d173_101 rfl ?_
      obtain ⟨g102, v102, s102⟩ := tg.tx ok 15 (by decide)
      refine w_getstaticS d173_102 v102 ?_
      refine w_callv2 d173_104 (by omega) rfl (ok.kd hr) (by simp) (Nat.le_of_ble_eq_true rfl) ?_
      refine r_Row_addText (by omega) ok hr s102 (fun h104 m104 e104_1 e104_2 => ?_)
      have ok104 := m104.ok
      have M104 := Mo.tr ok (Mo.refl (A := (fun x => x = r)) ok) m104 (fun x e => e)
      refine w_aload_n d173_107 rfl ?_
      refine w_iload_n d173_108 rfl ?_
      refine w_iconst d173_109 (by decide) ?_
      refine w_isub d173_110 (by constructor <;> omega) ?_
      rw [show ((rn : Nat) : Int) - 5 = ((rn - 5 : Nat) : Int) by omega]
      refine w_callv2 d173_111 (by omega) rfl (ok104.kd hr) (by simp) (Nat.le_of_ble_eq_true rfl) ?_
      refine r_Row_addNumber (by omega) ok104 hr (by omega) (fun h111 m111 e111_1 e111_2 => ?_)
      have ok111 := m111.ok
      have M111 := Mo.tr ok M104 m111 (fun x e => e)
      refine w_return d173_114 ?_
      exact kk h111 M111 (by rw [e111_1, e104_1, e104_2, addBs3, if_neg (by omega)]) (by rw [e111_2, e104_2])
theorem d142_0 : dc 142 0 = some (.iload_n 1, 1) := by decide +kernel
theorem d142_1 : dc 142 1 = some (.ifCond .lt ((22 : Nat) : Int), 4) := by decide +kernel
theorem d142_4 : dc 142 4 = some (.iload_n 1, 5) := by decide +kernel
theorem d142_5 : dc 142 5 = some (.bipush 14, 7) := by decide +kernel
theorem d142_7 : dc 142 7 = some (.if_icmp .ge ((22 : Nat) : Int), 10) := by decide +kernel
theorem d142_10 : dc 142 10 = some (.aload_n 0, 11) := by decide +kernel
theorem d142_11 : dc 142 11 = some (.dload 897, 14) := by decide +kernel
theorem d142_14 : dc 142 14 = some (.iload_n 1, 15) := by decide +kernel
theorem d142_15 : dc 142 15 = some (.aaload, 16) := by decide +kernel
theorem d142_16 : dc 142 16 = some (.getfield 256, 19) := by decide +kernel
theorem d142_19 : dc 142 19 = some (.ifCond .ne ((29 : Nat) : Int), 22) := by decide +kernel
theorem d142_22 : dc 142 22 = some (.aload_n 2, 23) := by decide +kernel
theorem d142_23 : dc 142 23 = some (.getstatic 54, 25) := by decide +kernel
theorem d142_25 : dc 142 25 = some (.invokevirtual 84, 28) := by decide +kernel
theorem d142_28 : dc 142 28 = some (.return_, 29) := by decide +kernel
theorem d142_29 : dc 142 29 = some (.aload_n 0, 30) := by decide +kernel
theorem d142_30 : dc 142 30 = some (.dload 898, 33) := by decide +kernel
theorem d142_33 : dc 142 33 = some (.iload_n 1, 34) := by decide +kernel
theorem d142_34 : dc 142 34 = some (.aaload, 35) := by decide +kernel
theorem d142_35 : dc 142 35 = some (.astore_n 3, 36) := by decide +kernel
theorem d142_36 : dc 142 36 = some (.iconst 0, 37) := by decide +kernel
theorem d142_37 : dc 142 37 = some (.istore 4, 39) := by decide +kernel
theorem d142_39 : dc 142 39 = some (.iload 4, 41) := by decide +kernel
theorem d142_41 : dc 142 41 = some (.aload_n 3, 42) := by decide +kernel
theorem d142_42 : dc 142 42 = some (.arraylength, 43) := by decide +kernel
theorem d142_43 : dc 142 43 = some (.if_icmp .ge ((71 : Nat) : Int), 46) := by decide +kernel
theorem d142_46 : dc 142 46 = some (.iload 4, 48) := by decide +kernel
theorem d142_48 : dc 142 48 = some (.ifCond .le ((57 : Nat) : Int), 51) := by decide +kernel
theorem d142_51 : dc 142 51 = some (.aload_n 2, 52) := by decide +kernel
theorem d142_52 : dc 142 52 = some (.bipush 46, 54) := by decide +kernel
theorem d142_54 : dc 142 54 = some (.invokevirtual 15, 57) := by decide +kernel
theorem d142_57 : dc 142 57 = some (.aload_n 2, 58) := by decide +kernel
theorem d142_58 : dc 142 58 = some (.aload_n 3, 59) := by decide +kernel
theorem d142_59 : dc 142 59 = some (.iload 4, 61) := by decide +kernel
theorem d142_61 : dc 142 61 = some (.iaload, 62) := by decide +kernel
theorem d142_62 : dc 142 62 = some (.invokevirtual 124, 65) := by decide +kernel
theorem d142_65 : dc 142 65 = some (.iinc 4 1, 68) := by decide +kernel
theorem d142_68 : dc 142 68 = some (.goto ((39 : Nat) : Int), 71) := by decide +kernel
theorem d142_71 : dc 142 71 = some (.return_, 72) := by decide +kernel
theorem k_St_tellEdition {S : Shp} {G : Nat → Option Nat} {d : Nat} {h : Hp} {Q : Option MV → Hp → Prop} {s : Nat} {t : Int} {r : Nat}  (ok : Ok S h) (h1 : 5 ≤ d) (hs : sK S s = 8) (hr : sK S r = 6) (tg : Tg S G) {pu : Nat → OutV} {pp : Nat → List Int64} {re : Nat → OutV} {ed : Nat → Nat → Nat} {ra : Nat → Nat} {ks : List (Int64 × OutV)} (sc : StC S h s pu pp re ed ra ks) (hsr : ¬ U S s r)
    (kk : ∀ h', Mo S (fun y => y = r) h h' → rl h' r = addBs (cap h r) (rl h r) (if (0 ≤ t ∧ t < 14) ∧ (re t.toNat).1 = true then ediTxt (ed t.toNat) 3 else txt 4) → cap h' r = cap h r → Q none h') : Cl G d 142 [vR (some s), vI t, vR (some r)] h Q := by
  show Wp G d 142 0 [some (vR (some s)), some (vI t), some (vR (some r)), none, none] [] h Q
  refine w_iload_n d142_0 rfl ?_
  refine w_iflt d142_1 (fun c1 => ?_) (fun c1 => ?_)
  · have hn : ¬ (0 ≤ t ∧ t < 14) := by omega
    refine w_aload_n d142_22 rfl ?_
    obtain ⟨g23, v23, s23⟩ := tg.tx ok 4 (by decide)
    refine w_getstaticS d142_23 v23 ?_
    refine w_callv2 d142_25 (by omega) rfl (ok.kd hr) (by simp) (Nat.le_of_ble_eq_true rfl) ?_
    refine r_Row_addText (by omega) ok hr s23 (fun h25 m25 e25_1 e25_2 => ?_)
    have ok25 := m25.ok
    have M25 := Mo.tr ok (Mo.refl (A := (fun x => x = r)) ok) m25 (fun x e => e)
    refine w_return d142_28 ?_
    rw [if_neg (by intro w; first | exact hn w.1 | (have w2 := w.2; rw [show ((n : Nat) : Int).toNat = n from rfl, hq] at w2; exact absurd w2 (by decide)))] at kk
    exact kk h25 M25 e25_1 e25_2
  · refine w_iload_n d142_4 rfl ?_
    refine w_bipush d142_5 (by decide) ?_
    refine w_icmpge d142_7 (fun c7 => ?_) (fun c7 => ?_)
    · have hn : ¬ (0 ≤ t ∧ t < 14) := by omega
      refine w_aload_n d142_22 rfl ?_
      obtain ⟨g23, v23, s23⟩ := tg.tx ok 4 (by decide)
      refine w_getstaticS d142_23 v23 ?_
      refine w_callv2 d142_25 (by omega) rfl (ok.kd hr) (by simp) (Nat.le_of_ble_eq_true rfl) ?_
      refine r_Row_addText (by omega) ok hr s23 (fun h25 m25 e25_1 e25_2 => ?_)
      have ok25 := m25.ok
      have M25 := Mo.tr ok (Mo.refl (A := (fun x => x = r)) ok) m25 (fun x e => e)
      refine w_return d142_28 ?_
      rw [if_neg (by intro w; first | exact hn w.1 | (have w2 := w.2; rw [show ((n : Nat) : Int).toNat = n from rfl, hq] at w2; exact absurd w2 (by decide)))] at kk
      exact kk h25 M25 e25_1 e25_2
    · obtain ⟨n, rfl⟩ : ∃ n : Nat, t = (n : Int) := ⟨t.toNat, (Int.toNat_of_nonneg (by omega)).symm⟩
      obtain ⟨D, E⟩ := sc.2.1 n (by omega)
      have hp := D.1
      refine w_aload_n d142_10 rfl ?_
      refine w_dloadS d142_11 (ok.kd hs) (fr897 ok hs) ?_
      refine w_iload_n d142_14 rfl ?_
      have k15 := kE897 ok hs (j := n) (by omega)
      refine w_aaloadSN d142_15 (gi897 ok hs (by omega)) (er897 ok hs (by omega)) ?_
      refine w_getI (x := (b2i (re n).1)) d142_16 (ok.kd k15) hp ?_
      refine w_ifne d142_19 (fun c19 => ?_) (fun c19 => ?_)
      · have hq : (re n).1 = true := by cases z : (re n).1 with
          | true => rfl
          | false => rw [z] at c19; exact absurd rfl c19
        rw [if_pos ⟨by omega, hq⟩] at kk
        have kn := kE898 ok hs (j := n) (by omega)
        have ln : sL S (sE S (sT S 898 s) n) = 3 := (ok.so.2.2.2.1 898 s n (by decide) hs (by have := lT898 ok hs; rw [(ok.st.1 _ (by have := kT898 ok hs; omega)).2] at this; omega)).2 rfl
        have nEr : ∀ j, j < 4096 → sE S (sT S 898 s) j ≠ r := fun j hj z => hsr (z ▸ ok.so.uE hj (ok.so.uT (by decide) U_refl))
        refine w_aload_n d142_29 rfl ?_
        refine w_dloadS d142_30 (ok.kd hs) (fr898 ok hs) ?_
        refine w_iload_n d142_33 rfl ?_
        have k34 := kE898 ok hs (j := n) (by omega)
        refine w_aaloadSN d142_34 (gi898 ok hs (by omega)) (er898 ok hs (by omega)) ?_
        refine w_astore3 d142_35 rfl ?_
        refine w_iconst d142_36 (by decide) ?_
        refine w_istore4 d142_37 rfl ?_
        have L39 : ∀ (m39 : Nat) (g : Hp) (i : Nat), 3 - i = m39 → Mo S (fun x => x = r) h g → (i ≤ 3) → (rl g r = addBs (cap h r) (rl h r) (ediTxt (ed n) i)) → (cap g r = cap h r) → Wp G d 142 39 [some (vR (some s)), some (vI (n : Nat)), some (vR (some r)), some (vR (some (sE S (sT S 898 s) n))), some (vI (i : Nat))] [] g Q := by
          intro m39
          induction m39 using Nat.strongRecOn with | ind m39 IH39 => ?_
          intro g i hm39 Mg i1 i2 i3
          have okg := Mg.ok
          have Eg : ∀ j, j < 3 → AI g (sE S (sT S 898 s) n) j = (ed n j : Nat) := fun j hj => (congrFun (Mg.ai ok (by omega) (nEr n (by omega))) j).trans (E j hj)
          refine w_iload d142_39 rfl ?_
          refine w_aload_n d142_41 rfl ?_
          refine w_arraylength d142_42 (by rw [okg.kd kn]; decide) ?_
          rw [show LN g (sE S (sT S 898 s) n) = 3 from (okg.st.1 _ (by omega)).2.trans ln]
          refine w_icmpge d142_43 (fun c43 => ?_) (fun c43 => ?_)
          · refine w_return d142_71 ?_
            exact kk g Mg (by rw [i2, show i = 3 by omega]; rfl) i3
          · refine w_iload d142_46 rfl ?_
            refine w_ifle d142_48 (fun c48 => ?_) (fun c48 => ?_)
            · have p0 : ¬ 0 < i := by omega
              refine w_aload_n d142_57 rfl ?_
              refine w_aload_n d142_58 rfl ?_
              refine w_iload d142_59 rfl ?_
              refine w_ialoadV (x := ((ed n i : Nat) : Int)) d142_61 (g_e898 okg hs (by omega) (by omega)) (by first | exact Eg i (by omega) | exact (congrFun (m54.ai okg (by omega) (nEr n (by omega))) i).trans (Eg i (by omega))) ?_
              have b61 := (ok.st.2.2.2.2.2.2.2.2.1 s n i hs (by omega)).2
              rw [E i (by omega)] at b61
              refine w_callv2 d142_62 (by omega) rfl (okg.kd hr) (by simp) (Nat.le_of_ble_eq_true rfl) ?_
              refine r_Row_addNumber (by omega) okg hr (by omega) (fun h62 m62 e62_1 e62_2 => ?_)
              have ok62 := m62.ok
              have M62 := Mo.tr ok Mg m62 (fun x e => e)
              refine w_iinc4 d142_65 rfl (by constructor <;> omega) ?_
              refine w_goto d142_68 ?_
              refine w_less ?_ (IH39 _ (by omega) h62 (i + 1) rfl M62 (by omega) (by rw [e62_1, i3, i2]; simp only [addBs3]; rw [ediTxt]; (first | rw [if_pos p0] | rw [if_neg p0]); first | done | rfl | simp [List.append_assoc]) (by rw [e62_2, i3]))
              exact ⟨Or.inr rfl, Or.inr rfl, Or.inr rfl, Or.inr rfl, Or.inr rfl, trivial⟩
            · have p0 : 0 < i := by omega
              refine w_aload_n d142_51 rfl ?_
              refine w_bipush d142_52 (by decide) ?_
              refine w_callv2 d142_54 (by omega) rfl (okg.kd hr) (by simp) (Nat.le_of_ble_eq_true rfl) ?_
              refine r_Row_add okg hr (fun h54 m54 e54_1 e54_2 => ?_)
              have ok54 := m54.ok
              have M54 := Mo.tr ok Mg m54 (fun x e => e)
              refine w_aload_n d142_57 rfl ?_
              refine w_aload_n d142_58 rfl ?_
              refine w_iload d142_59 rfl ?_
              refine w_ialoadV (x := ((ed n i : Nat) : Int)) d142_61 (g_e898 ok54 hs (by omega) (by omega)) (by first | exact Eg i (by omega) | exact (congrFun (m54.ai okg (by omega) (nEr n (by omega))) i).trans (Eg i (by omega))) ?_
              have b61 := (ok.st.2.2.2.2.2.2.2.2.1 s n i hs (by omega)).2
              rw [E i (by omega)] at b61
              refine w_callv2 d142_62 (by omega) rfl (ok54.kd hr) (by simp) (Nat.le_of_ble_eq_true rfl) ?_
              refine r_Row_addNumber (by omega) ok54 hr (by omega) (fun h62 m62 e62_1 e62_2 => ?_)
              have ok62 := m62.ok
              have M62 := Mo.tr ok M54 m62 (fun x e => e)
              refine w_iinc4 d142_65 rfl (by constructor <;> omega) ?_
              refine w_goto d142_68 ?_
              refine w_less ?_ (IH39 _ (by omega) h62 (i + 1) rfl M62 (by omega) (by rw [e62_1, e54_1, e54_2, i3, i2]; simp only [addBs3]; rw [ediTxt]; (first | rw [if_pos p0] | rw [if_neg p0]); first | done | rfl | simp [List.append_assoc]) (by rw [e62_2, e54_2, i3]))
              exact ⟨Or.inr rfl, Or.inr rfl, Or.inr rfl, Or.inr rfl, Or.inr rfl, trivial⟩
        have M0_ := Mo.refl (A := (fun x => x = r)) ok
        refine w_less ?_ (L39 _ h 0 rfl M0_ (by omega) rfl rfl)
        exact ⟨Or.inr rfl, Or.inr rfl, Or.inr rfl, Or.inr rfl, Or.inr rfl, trivial⟩
      · have hq : (re n).1 = false := by cases z : (re n).1 with
          | false => rfl
          | true => rw [z] at c19; exact absurd c19 (by decide)
        refine w_aload_n d142_22 rfl ?_
        obtain ⟨g23, v23, s23⟩ := tg.tx ok 4 (by decide)
        refine w_getstaticS d142_23 v23 ?_
        refine w_callv2 d142_25 (by omega) rfl (ok.kd hr) (by simp) (Nat.le_of_ble_eq_true rfl) ?_
        refine r_Row_addText (by omega) ok hr s23 (fun h25 m25 e25_1 e25_2 => ?_)
        have ok25 := m25.ok
        have M25 := Mo.tr ok (Mo.refl (A := (fun x => x = r)) ok) m25 (fun x e => e)
        refine w_return d142_28 ?_
        rw [if_neg (by intro w; first | exact hn w.1 | (have w2 := w.2; rw [show ((n : Nat) : Int).toNat = n from rfl, hq] at w2; exact absurd w2 (by decide)))] at kk
        exact kk h25 M25 e25_1 e25_2
