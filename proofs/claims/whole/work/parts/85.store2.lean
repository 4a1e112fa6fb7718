/-! the store: all forgotten, why a target is worked -/
section STORE2
variable {S : Shp} {h h' : Hp} {A : Nat → Prop} {a b s : Nat}
theorem OFr.oa (ok : Ok S h) (ha : sK S a = 3) (hb : sK S b = 3) (ne : a ≠ b) : OFr (OA S a) S b := ⟨(OA.off ok ha hb ne).1, (OA.off ok ha hb ne).2⟩
theorem OFr.t (so : SOk S) {f p c j : Nat} (hf : f < 4096) (h1 : f < 257 ∨ 260 < f) (hj : j < 4096) : OFr (fun y => y = sT S f p) S (sE S c j) := ⟨fun q => so.neE hf hj q.symm, fun g g1 g2 q => so.ou (by omega) hf (Or.inl (by omega)) q⟩
theorem SOk.ne2 (so : SOk S) {f g p i j : Nat} (hf : f < 4096) (hg : g < 4096) (hi : i < 4096) (hj : j < 4096) (h : f ≠ g ∨ i ≠ j) : sE S (sT S f p) i ≠ sE S (sT S g p) j := fun z => by
  obtain ⟨z1, z2⟩ := (so.injE hi hj).mp z
  rcases h with q | q
  · exact q ((so.inj hf hg).mp z1).1
  · exact q z2
theorem OFr.own (so : SOk S) {f p j : Nat} (hf : f < 4096) (hj : j < 4096) : OFr (fun y => y = p) S (sE S (sT S f p) j) := ⟨fun q => so.pE hf hj q, fun g g1 g2 q => by
  have h1 := so.ltT (f := f) (a := p) hf
  have h2 := so.ltE (b := sT S f p) (j := j) hj
  have h3 := so.ltT (f := g) (a := sE S (sT S f p) j) (by omega)
  omega⟩
/-- why an action is worked: its parts against those of what was put -/
def rsnW (b : Bool) (ps qs : List Int64) : Nat := if b = true then (if ps.getD 0 0 ≠ qs.getD 0 0 then 2 else if ps.length ≠ qs.length then 3 else (4 + srF (fun i => decide (ps.getD i 0 ≠ qs.getD i 0)) ps.length 1).toNat.max 4) else 1
def upN (f : Nat → Nat) (j x : Nat) : Nat → Nat := fun i => if i = j then x else f i
/-- a reason, from the lowest part that differs -/
def rsnI (x : Int) : Int := if x < 0 then 4 else 4 + x
end STORE2
theorem d56_0 : dc 56 0 = some (.iconst 0, 1) := by decide +kernel
theorem d56_1 : dc 56 1 = some (.istore_n 1, 2) := by decide +kernel
theorem d56_2 : dc 56 2 = some (.iload_n 1, 3) := by decide +kernel
theorem d56_3 : dc 56 3 = some (.bipush 14, 5) := by decide +kernel
theorem d56_5 : dc 56 5 = some (.if_icmp .ge ((39 : Nat) : Int), 8) := by decide +kernel
theorem d56_8 : dc 56 8 = some (.aload_n 0, 9) := by decide +kernel
theorem d56_9 : dc 56 9 = some (.dload 896, 12) := by decide +kernel
theorem d56_12 : dc 56 12 = some (.iload_n 1, 13) := by decide +kernel
theorem d56_13 : dc 56 13 = some (.aaload, 14) := by decide +kernel
theorem d56_14 : dc 56 14 = some (.invokevirtual 57, 17) := by decide +kernel
theorem d56_17 : dc 56 17 = some (.aload_n 0, 18) := by decide +kernel
theorem d56_18 : dc 56 18 = some (.dload 897, 21) := by decide +kernel
theorem d56_21 : dc 56 21 = some (.iload_n 1, 22) := by decide +kernel
theorem d56_22 : dc 56 22 = some (.aaload, 23) := by decide +kernel
theorem d56_23 : dc 56 23 = some (.invokevirtual 57, 26) := by decide +kernel
theorem d56_26 : dc 56 26 = some (.aload_n 0, 27) := by decide +kernel
theorem d56_27 : dc 56 27 = some (.dload 899, 30) := by decide +kernel
theorem d56_30 : dc 56 30 = some (.iload_n 1, 31) := by decide +kernel
theorem d56_31 : dc 56 31 = some (.iconst 0, 32) := by decide +kernel
theorem d56_32 : dc 56 32 = some (.iastore, 33) := by decide +kernel
theorem d56_33 : dc 56 33 = some (.iinc 1 1, 36) := by decide +kernel
theorem d56_36 : dc 56 36 = some (.goto ((2 : Nat) : Int), 39) := by decide +kernel
theorem d56_39 : dc 56 39 = some (.aload_n 0, 40) := by decide +kernel
theorem d56_40 : dc 56 40 = some (.iconst 0, 41) := by decide +kernel
theorem d56_41 : dc 56 41 = some (.putfield 901, 44) := by decide +kernel
theorem d56_44 : dc 56 44 = some (.return_, 45) := by decide +kernel
theorem k_St_clear {S : Shp} {G : Nat → Option Nat} {d : Nat} {h : Hp} {Q : Option MV → Hp → Prop} {s : Nat}  (ok : Ok S h) (h1 : 2 ≤ d) (hs : sK S s = 8) {pu : Nat → OutV} {pp : Nat → List Int64} {re : Nat → OutV} {ed : Nat → Nat → Nat} {ra : Nat → Nat} {ks : List (Int64 × OutV)} (sc : StC S h s pu pp re ed ra ks)
    (kk : ∀ h', Mo S (U S s) h h' → StC S h' s (fun _ => (false, [], [], [])) (fun _ => []) (fun _ => (false, [], [], [])) ed (fun _ => 0) [] → Q none h') : Cl G d 56 [vR (some s)] h Q := by
  show Wp G d 56 0 [some (vR (some s)), none] [] h Q
  have K899 := kT899 ok hs
  have K900 := kT900 ok hs
  obtain ⟨σ, s1, s2, q1, q2, q4, q3⟩ := sc.2.2.2
  refine w_iconst d56_0 (by decide) ?_
  refine w_istore1 d56_1 rfl ?_
  have L2 : ∀ (m2 : Nat) (g : Hp) (t : Nat), 14 - t = m2 → Mo S (fun x => U S s x) h g → (t ≤ 14) → (∀ j, j < t → OuC S g (sE S (sT S 896 s) j) (false, [], [], []) ∧ PaC S g (sE S (sT S 896 s) j) [] ∧ OuC S g (sE S (sT S 897 s) j) (false, [], [], []) ∧ AI g (sT S 899 s) j = 0) → (∀ j, j < 14 → AI g (sE S (sT S 898 s) j) = AI h (sE S (sT S 898 s) j)) → (AR g (sT S 900 s) = AR h (sT S 900 s)) → Wp G d 56 2 [some (vR (some s)), some (vI (t : Nat))] [] g Q := by
    intro m2
    induction m2 using Nat.strongRecOn with | ind m2 IH2 => ?_
    intro g t hm2 Mg i1 i2 i3 i4
    have okg := Mg.ok
    refine w_iload_n d56_2 rfl ?_
    refine w_bipush d56_3 (by decide) ?_
    refine w_icmpge d56_5 (fun c5 => ?_) (fun c5 => ?_)
    · refine w_aload_n d56_39 rfl ?_
      refine w_iconst d56_40 (by decide) ?_
      refine wf901 d56_41 okg hs (by omega) (fun h41 e41 m41 => ?_)
      have ok41 := m41.ok
      have M41 := Mo.tr ok Mg m41 (fun x e => (e ▸ U_refl))
      refine w_return d56_44 ?_
      refine kk h41 M41 ⟨fun j hj => ?_, fun j hj => ?_, fun j hj => ?_, σ, fun i hi => ⟨(s1 i hi).1, ?_⟩, s2, ?_, Nat.zero_le _, q4, fun i hi => absurd hi (Nat.not_lt_zero _)⟩
      · obtain ⟨z1, z2, z3, z4⟩ := i2 j (by omega)
        exact ⟨z1.f okg m41 (kE896 ok hs hj) (OFr.own ok.so (by decide) (by omega)), z2.f okg m41 (kE896 ok hs hj) (OFr.own ok.so (by decide) (by omega))⟩
      · obtain ⟨z1, z2, z3, z4⟩ := i2 j (by omega)
        exact ⟨z3.f okg m41 (kE897 ok hs hj) (OFr.own ok.so (by decide) (by omega)), fun i hi => by rw [e41]; show AI g _ i = _; rw [i3 j hj]; exact (sc.2.1 j hj).2 i hi⟩
      · rw [e41]; exact (i2 j (by omega)).2.2.2
      · rw [e41]; show AR g _ i = _; rw [i4]; exact (s1 i hi).2
      · rw [e41, FI_sFI, if_pos ⟨rfl, rfl⟩]; first | done | rfl
    · refine w_aload_n d56_8 rfl ?_
      refine w_dloadS d56_9 (okg.kd hs) (fr896 okg hs) ?_
      refine w_iload_n d56_12 rfl ?_
      have k13 := kE896 okg hs (j := t) (by omega)
      refine w_aaloadSN d56_13 (gi896 okg hs (by omega)) (er896 okg hs (by omega)) ?_
      refine w_callv1 d56_14 (by omega) rfl (okg.kd k13) (by simp) (Nat.le_of_ble_eq_true rfl) ?_
      refine k_Ou_clear okg (by omega) k13 (fun h14 m14 e14_1 e14_2 e14_3 => ?_)
      have ok14 := m14.ok
      have M14 := Mo.tr ok Mg m14 (fun x q => (U_trans (ok.so.uE (by omega) (ok.so.uT (by decide) U_refl)) (q.u ok.so)))
      refine w_aload_n d56_17 rfl ?_
      refine w_dloadS d56_18 (ok14.kd hs) (fr897 ok14 hs) ?_
      refine w_iload_n d56_21 rfl ?_
      have k22 := kE897 ok14 hs (j := t) (by omega)
      refine w_aaloadSN d56_22 (gi897 ok14 hs (by omega)) (er897 ok14 hs (by omega)) ?_
      refine w_callv1 d56_23 (by omega) rfl (ok14.kd k22) (by simp) (Nat.le_of_ble_eq_true rfl) ?_
      refine k_Ou_clear ok14 (by omega) k22 (fun h23 m23 e23_1 e23_2 e23_3 => ?_)
      have ok23 := m23.ok
      have M23 := Mo.tr ok M14 m23 (fun x q => (U_trans (ok.so.uE (by omega) (ok.so.uT (by decide) U_refl)) (q.u ok.so)))
      refine w_aload_n d56_26 rfl ?_
      refine w_dloadS d56_27 (ok23.kd hs) (fr899 ok23 hs) ?_
      refine w_iload_n d56_30 rfl ?_
      refine w_iconst d56_31 (by decide) ?_
      refine wa899 d56_32 ok23 hs (by omega) (by omega) (fun h32 e32 m32 => ?_)
      have e32 : h32 = sAI h23 (sT S 899 s) t 0 := e32
      have ok32 := m32.ok
      have M32 := Mo.tr ok M23 m32 (fun x e => (e ▸ (ok.so.uT (by decide) U_refl)))
      refine w_iinc1 d56_33 rfl (by constructor <;> omega) ?_
      refine w_goto d56_36 ?_
      refine w_less ?_ (IH2 _ (by omega) h32 (t + 1) rfl M32 (by omega) (fun j hj => by
              by_cases q : j = t
              · subst q
                refine ⟨(e14_1.f ok14 m23 (kE896 ok hs (j := j) (by omega)) (OFr.oa okg (kE897 ok hs (j := j) (by omega)) (kE896 ok hs (j := j) (by omega)) (ok.so.ne2 (by decide) (by decide) (by omega) (by omega) (Or.inl (by decide))))).f ok23 m32 (kE896 ok hs (j := j) (by omega)) (OFr.t ok.so (by decide) (Or.inr (by decide)) (by omega)), (e14_2.f ok14 m23 (kE896 ok hs (j := j) (by omega)) (OFr.oa okg (kE897 ok hs (j := j) (by omega)) (kE896 ok hs (j := j) (by omega)) (ok.so.ne2 (by decide) (by decide) (by omega) (by omega) (Or.inl (by decide))))).f ok23 m32 (kE896 ok hs (j := j) (by omega)) (OFr.t ok.so (by decide) (Or.inr (by decide)) (by omega)), e23_1.f ok23 m32 (kE897 ok hs (j := j) (by omega)) (OFr.t ok.so (by decide) (Or.inr (by decide)) (by omega)), ?_⟩
                rw [e32, sArr, if_pos rfl]; first | done | rfl
              · obtain ⟨z1, z2, z3, z4⟩ := i2 j (by omega)
                refine ⟨((z1.f okg m14 (kE896 ok hs (j := j) (by omega)) (OFr.oa okg (kE896 ok hs (j := t) (by omega)) (kE896 ok hs (j := j) (by omega)) (ok.so.ne2 (by decide) (by decide) (by omega) (by omega) (Or.inr (Ne.symm q))))).f ok14 m23 (kE896 ok hs (j := j) (by omega)) (OFr.oa okg (kE897 ok hs (j := t) (by omega)) (kE896 ok hs (j := j) (by omega)) (ok.so.ne2 (by decide) (by decide) (by omega) (by omega) (Or.inl (by decide))))).f ok23 m32 (kE896 ok hs (j := j) (by omega)) (OFr.t ok.so (by decide) (Or.inr (by decide)) (by omega)), ((z2.f okg m14 (kE896 ok hs (j := j) (by omega)) (OFr.oa okg (kE896 ok hs (j := t) (by omega)) (kE896 ok hs (j := j) (by omega)) (ok.so.ne2 (by decide) (by decide) (by omega) (by omega) (Or.inr (Ne.symm q))))).f ok14 m23 (kE896 ok hs (j := j) (by omega)) (OFr.oa okg (kE897 ok hs (j := t) (by omega)) (kE896 ok hs (j := j) (by omega)) (ok.so.ne2 (by decide) (by decide) (by omega) (by omega) (Or.inl (by decide))))).f ok23 m32 (kE896 ok hs (j := j) (by omega)) (OFr.t ok.so (by decide) (Or.inr (by decide)) (by omega)), ((z3.f okg m14 (kE897 ok hs (j := j) (by omega)) (OFr.oa okg (kE896 ok hs (j := t) (by omega)) (kE897 ok hs (j := j) (by omega)) (ok.so.ne2 (by decide) (by decide) (by omega) (by omega) (Or.inl (by decide))))).f ok14 m23 (kE897 ok hs (j := j) (by omega)) (OFr.oa okg (kE897 ok hs (j := t) (by omega)) (kE897 ok hs (j := j) (by omega)) (ok.so.ne2 (by decide) (by decide) (by omega) (by omega) (Or.inr (Ne.symm q))))).f ok23 m32 (kE897 ok hs (j := j) (by omega)) (OFr.t ok.so (by decide) (Or.inr (by decide)) (by omega)), ?_⟩
                rw [e32, sArr, if_neg q, m23.ai ok14 ⟨by omega, by omega⟩ (OA.no ok14 (kE897 ok hs (j := t) (by omega)) (by omega)), m14.ai okg ⟨by omega, by omega⟩ (OA.no okg (kE896 ok hs (j := t) (by omega)) (by omega))]; exact z4) (fun j hj => by have k := kE898 ok hs (j := j) hj; rw [m32.ai ok23 ⟨by omega, by omega⟩ (fun q => ok.so.neE (by decide) (by omega) q.symm), m23.ai ok14 ⟨by omega, by omega⟩ (OA.no ok14 (kE897 ok hs (j := t) (by omega)) (by omega)), m14.ai okg ⟨by omega, by omega⟩ (OA.no okg (kE896 ok hs (j := t) (by omega)) (by omega))]; exact i3 j hj) (by rw [m32.ar ok23 (by omega) (ok.so.ou (by decide) (by decide) (Or.inl (by decide))), m23.ar ok14 (by omega) (OA.no ok14 (kE897 ok hs (j := t) (by omega)) (by omega)), m14.ar okg (by omega) (OA.no okg (kE896 ok hs (j := t) (by omega)) (by omega))]; exact i4))
      exact ⟨Or.inr rfl, Or.inr rfl, trivial⟩
  have M0_ := Mo.refl (A := (fun x => U S s x)) ok
  refine w_less ?_ (L2 _ h 0 rfl M0_ (by omega) (fun j hj => absurd hj (Nat.not_lt_zero _)) (fun j hj => rfl) rfl)
  exact ⟨Or.inr rfl, Or.inr rfl, trivial⟩
theorem rsnI_rg {p : Nat → Bool} {n : Nat} (hn : n ≤ 7) {i : Nat} : 4 ≤ rsnI (srF p n i) ∧ rsnI (srF p n i) ≤ 10 := by
  unfold rsnI
  rcases srF_rg (p := p) (n := n) (i := i) with e | ⟨j, j1, j2, e, -⟩ <;> rw [e] <;> split <;> omega
theorem rsnW_eq {b : Bool} {ps qs : List Int64} {X Y : Nat → Int64} (hx : ∀ i, i < ps.length → X i = ps.getD i 0) (hy : ∀ i, i < qs.length → Y i = qs.getD i 0) (h0 : 0 < ps.length) (h1 : b = true → 0 < qs.length) {r : Int}
    (hr : r = if b = true then (if X 0 ≠ Y 0 then 2 else if ps.length ≠ qs.length then 3 else rsnI (srF (fun i => decide (X i ≠ Y i)) ps.length 1)) else 1) : r = (rsnW b ps qs : Nat) := by
  rw [hr]
  unfold rsnW
  by_cases hb : b = true
  · rw [if_pos hb, if_pos hb, hx 0 h0, hy 0 (h1 hb)]
    by_cases q : ps.getD 0 0 ≠ qs.getD 0 0
    · rw [if_pos q, if_pos q]; rfl
    · rw [if_neg q, if_neg q]
      by_cases q2 : ps.length ≠ qs.length
      · rw [if_pos q2, if_pos q2]; rfl
      · rw [if_neg q2, if_neg q2, srF_congr (p' := fun i => decide (ps.getD i 0 ≠ qs.getD i 0)) (fun i hi => by show decide (X i ≠ Y i) = decide (_ ≠ _); rw [hx i hi, hy i (by omega)])]
        unfold rsnI
        rcases srF_rg (p := fun i => decide (ps.getD i 0 ≠ qs.getD i 0)) (n := ps.length) (i := 1) with e | ⟨j, j1, j2, e, -⟩
        · rw [e]; rfl
        · rw [e, if_neg (by omega)]
          show (4 : Int) + (j : Int) = ((max ((4 : Int) + (j : Int)).toNat 4 : Nat) : Int)
          rw [show ((4 : Int) + (j : Int)).toNat = 4 + j by omega, show max (4 + j) 4 = 4 + j by omega]
          omega
  · rw [if_neg hb, if_neg hb]; rfl
theorem d113_0 : dc 113 0 = some (.iload_n 1, 1) := by decide +kernel
theorem d113_1 : dc 113 1 = some (.ifCond .lt ((10 : Nat) : Int), 4) := by decide +kernel
theorem d113_4 : dc 113 4 = some (.iload_n 1, 5) := by decide +kernel
theorem d113_5 : dc 113 5 = some (.bipush 14, 7) := by decide +kernel
theorem d113_7 : dc 113 7 = some (.if_icmp .lt ((11 : Nat) : Int), 10) := by decide +kernel
theorem d113_11 : dc 113 11 = some (.aload_n 0, 12) := by decide +kernel
theorem d113_12 : dc 113 12 = some (.dload 896, 15) := by decide +kernel
theorem d113_15 : dc 113 15 = some (.iload_n 1, 16) := by decide +kernel
theorem d113_16 : dc 113 16 = some (.aaload, 17) := by decide +kernel
theorem d113_17 : dc 113 17 = some (.astore_n 3, 18) := by decide +kernel
theorem d113_18 : dc 113 18 = some (.iconst 4, 19) := by decide +kernel
theorem d113_19 : dc 113 19 = some (.istore 4, 21) := by decide +kernel
theorem d113_21 : dc 113 21 = some (.aload_n 2, 22) := by decide +kernel
theorem d113_22 : dc 113 22 = some (.getfield 261, 25) := by decide +kernel
theorem d113_25 : dc 113 25 = some (.iconst 1, 26) := by decide +kernel
theorem d113_26 : dc 113 26 = some (.isub, 27) := by decide +kernel
theorem d113_27 : dc 113 27 = some (.istore 5, 29) := by decide +kernel
theorem d113_29 : dc 113 29 = some (.iload 5, 31) := by decide +kernel
theorem d113_31 : dc 113 31 = some (.ifCond .le ((71 : Nat) : Int), 34) := by decide +kernel
theorem d113_34 : dc 113 34 = some (.aload_n 2, 35) := by decide +kernel
theorem d113_35 : dc 113 35 = some (.dload 260, 38) := by decide +kernel
theorem d113_38 : dc 113 38 = some (.iload 5, 40) := by decide +kernel
theorem d113_40 : dc 113 40 = some (.laload, 41) := by decide +kernel
theorem d113_41 : dc 113 41 = some (.aload_n 3, 42) := by decide +kernel
theorem d113_42 : dc 113 42 = some (.dload 260, 45) := by decide +kernel
theorem d113_45 : dc 113 45 = some (.iload 5, 47) := by decide +kernel
theorem d113_47 : dc 113 47 = some (.laload, 48) := by decide +kernel
theorem d113_48 : dc 113 48 = some (.lcmp, 49) := by decide +kernel
theorem d113_49 : dc 113 49 = some (.ifCond .eq ((61 : Nat) : Int), 52) := by decide +kernel
theorem d113_52 : dc 113 52 = some (.iconst 5, 53) := by decide +kernel
theorem d113_53 : dc 113 53 = some (.iload 5, 55) := by decide +kernel
theorem d113_55 : dc 113 55 = some (.iadd, 56) := by decide +kernel
theorem d113_56 : dc 113 56 = some (.iconst 1, 57) := by decide +kernel
theorem d113_57 : dc 113 57 = some (.isub, 58) := by decide +kernel
theorem d113_58 : dc 113 58 = some (.goto ((63 : Nat) : Int), 61) := by decide +kernel
theorem d113_61 : dc 113 61 = some (.iload 4, 63) := by decide +kernel
theorem d113_63 : dc 113 63 = some (.istore 4, 65) := by decide +kernel
theorem d113_65 : dc 113 65 = some (.iinc 5 (-1), 68) := by decide +kernel
theorem d113_68 : dc 113 68 = some (.goto ((29 : Nat) : Int), 71) := by decide +kernel
theorem d113_71 : dc 113 71 = some (.aload_n 2, 72) := by decide +kernel
theorem d113_72 : dc 113 72 = some (.getfield 261, 75) := by decide +kernel
theorem d113_75 : dc 113 75 = some (.aload_n 3, 76) := by decide +kernel
theorem d113_76 : dc 113 76 = some (.getfield 261, 79) := by decide +kernel
theorem d113_79 : dc 113 79 = some (.if_icmp .eq ((86 : Nat) : Int), 82) := by decide +kernel
theorem d113_82 : dc 113 82 = some (.iconst 3, 83) := by decide +kernel
theorem d113_83 : dc 113 83 = some (.goto ((88 : Nat) : Int), 86) := by decide +kernel
theorem d113_86 : dc 113 86 = some (.iload 4, 88) := by decide +kernel
theorem d113_88 : dc 113 88 = some (.istore 4, 90) := by decide +kernel
theorem d113_90 : dc 113 90 = some (.aload_n 2, 91) := by decide +kernel
theorem d113_91 : dc 113 91 = some (.dload 260, 94) := by decide +kernel
theorem d113_94 : dc 113 94 = some (.iconst 0, 95) := by decide +kernel
theorem d113_95 : dc 113 95 = some (.laload, 96) := by decide +kernel
theorem d113_96 : dc 113 96 = some (.aload_n 3, 97) := by decide +kernel
theorem d113_97 : dc 113 97 = some (.dload 260, 100) := by decide +kernel
theorem d113_100 : dc 113 100 = some (.iconst 0, 101) := by decide +kernel
theorem d113_101 : dc 113 101 = some (.laload, 102) := by decide +kernel
theorem d113_102 : dc 113 102 = some (.lcmp, 103) := by decide +kernel
theorem d113_103 : dc 113 103 = some (.ifCond .eq ((110 : Nat) : Int), 106) := by decide +kernel
theorem d113_106 : dc 113 106 = some (.iconst 2, 107) := by decide +kernel
theorem d113_107 : dc 113 107 = some (.goto ((112 : Nat) : Int), 110) := by decide +kernel
theorem d113_110 : dc 113 110 = some (.iload 4, 112) := by decide +kernel
theorem d113_112 : dc 113 112 = some (.istore 4, 114) := by decide +kernel
theorem d113_114 : dc 113 114 = some (.aload_n 0, 115) := by decide +kernel
theorem d113_115 : dc 113 115 = some (.dload 899, 118) := by decide +kernel
theorem d113_118 : dc 113 118 = some (.iload_n 1, 119) := by decide +kernel
theorem d113_119 : dc 113 119 = some (.aload_n 3, 120) := by decide +kernel
theorem d113_120 : dc 113 120 = some (.getfield 256, 123) := by decide +kernel
theorem d113_123 : dc 113 123 = some (.ifCond .eq ((131 : Nat) : Int), 126) := by decide +kernel
theorem d113_126 : dc 113 126 = some (.iload 4, 128) := by decide +kernel
theorem d113_128 : dc 113 128 = some (.goto ((132 : Nat) : Int), 131) := by decide +kernel
theorem d113_131 : dc 113 131 = some (.iconst 1, 132) := by decide +kernel
theorem d113_132 : dc 113 132 = some (.iastore, 133) := by decide +kernel
theorem d113_133 : dc 113 133 = some (.return_, 134) := by decide +kernel
theorem k_St_setReason {S : Shp} {G : Nat → Option Nat} {d : Nat} {h : Hp} {Q : Option MV → Hp → Prop} {s : Nat} {n : Nat} {a : Nat}  (ok : Ok S h) (h1 : 0 ≤ d) (hs : sK S s = 8) (ha : sK S a = 3) {pu : Nat → OutV} {pp : Nat → List Int64} {re : Nat → OutV} {ed : Nat → Nat → Nat} {ra : Nat → Nat} {ks : List (Int64 × OutV)} (sc : StC S h s pu pp re ed ra ks) {ps : List Int64} (pa : PaC S h a ps) (hp0 : 0 < ps.length) (hn : n < 14) (hq0 : (pu n).1 = true → 0 < (pp n).length)
    (kk : ∀ h', Mo S (fun y => y = sT S 899 s) h h' → StC S h' s pu pp re ed (upN ra n (rsnW (pu n).1 ps (pp n))) ks → Q none h') : Cl G d 113 [vR (some s), vI (n : Nat), vR (some a)] h Q := by
  show Wp G d 113 0 [some (vR (some s)), some (vI (n : Nat)), some (vR (some a)), none, none, none] [] h Q
  obtain ⟨a1, a2, a3⟩ := pa
  obtain ⟨⟨b0, -⟩, b1, b2, b3⟩ := sc.1 n hn
  have kn := kE896 ok hs (j := n) hn
  have l24 : sL S (sT S 900 s) ≤ 24 := sc.2.2.2.choose_spec.2.2.2.2.1
  refine w_iload_n d113_0 rfl ?_
  refine w_iflt d113_1 (fun c1 => ?_) (fun c1 => ?_)
  · omega
  · refine w_iload_n d113_4 rfl ?_
    refine w_bipush d113_5 (by decide) ?_
    refine w_icmplt d113_7 (fun c7 => ?_) (fun c7 => ?_)
    · refine w_aload_n d113_11 rfl ?_
      refine w_dloadS d113_12 (ok.kd hs) (fr896 ok hs) ?_
      refine w_iload_n d113_15 rfl ?_
      have k16 := kE896 ok hs (j := n) (by omega)
      refine w_aaloadSN d113_16 (gi896 ok hs (by omega)) (er896 ok hs (by omega)) ?_
      refine w_astore3 d113_17 rfl ?_
      refine w_iconst d113_18 (by decide) ?_
      refine w_istore4 d113_19 rfl ?_
      refine w_aload_n d113_21 rfl ?_
      refine w_getI (x := ((ps.length : Nat) : Int)) d113_22 (ok.kd ha) a1 ?_
      refine w_iconst d113_25 (by decide) ?_
      refine w_isub d113_26 (by constructor <;> omega) ?_
      rw [show ((ps.length : Nat) : Int) - 1 = ((ps.length - 1 : Nat) : Int) by omega]
      refine w_istore5 d113_27 rfl ?_
      rw [show (4 : Int) = rsnI (srF (fun i => decide ((AL h (sT S 260 a) i) ≠ (AL h (sT S 260 (sE S (sT S 896 s) n)) i))) ps.length (ps.length - 1 + 1)) by rw [srF_end (by omega)]; rfl]
      have L29 : ∀ (m29 : Nat) (k : Nat), k = m29 → (k < ps.length) → Wp G d 113 29 [some (vR (some s)), some (vI (n : Nat)), some (vR (some a)), some (vR (some (sE S (sT S 896 s) n))), some (vI (rsnI (srF (fun i => decide ((AL h (sT S 260 a) i) ≠ (AL h (sT S 260 (sE S (sT S 896 s) n)) i))) ps.length (k + 1)))), some (vI (k : Nat))] [] h Q := by
        intro m29
        induction m29 using Nat.strongRecOn with | ind m29 IH29 => ?_
        intro k hm29 j1
        have rr := rsnI_rg (p := (fun i => decide ((AL h (sT S 260 a) i) ≠ (AL h (sT S 260 (sE S (sT S 896 s) n)) i)))) (n := ps.length) (by omega) (i := k + 1)
        have r1 := rsnI_rg (p := (fun i => decide ((AL h (sT S 260 a) i) ≠ (AL h (sT S 260 (sE S (sT S 896 s) n)) i)))) (n := ps.length) (by omega) (i := 0 + 1)
        refine w_iload d113_29 rfl ?_
        refine w_ifle d113_31 (fun c31 => ?_) (fun c31 => ?_)
        · have k0 : k = 0 := by omega
          rw [k0]
          refine w_aload_n d113_71 rfl ?_
          refine w_getI (x := ((ps.length : Nat) : Int)) d113_72 (ok.kd ha) a1 ?_
          refine w_aload_n d113_75 rfl ?_
          refine w_getI (x := (((pp n).length : Nat) : Int)) d113_76 (ok.kd kn) b1 ?_
          refine w_icmpeq d113_79 (fun c79 => ?_) (fun c79 => ?_)
          · have lq : ¬ ps.length ≠ (pp n).length := by omega
            refine w_iload d113_86 rfl ?_
            refine w_istore4 d113_88 rfl ?_
            refine w_aload_n d113_90 rfl ?_
            refine w_dloadS d113_91 (ok.kd ha) (fr260 ok ha) ?_
            refine w_iconst d113_94 (by decide) ?_
            refine w_laload d113_95 (gi260 ok ha (by omega)) ?_
            refine w_aload_n d113_96 rfl ?_
            refine w_dloadS d113_97 (ok.kd kn) (fr260 ok kn) ?_
            refine w_iconst d113_100 (by decide) ?_
            refine w_laload d113_101 (gi260 ok kn (by omega)) ?_
            refine w_lcmp d113_102 ?_
            refine w_ifeq d113_103 (fun c103 => ?_) (fun c103 => ?_)
            · have pq : ¬ AL h (sT S 260 a) 0 ≠ AL h (sT S 260 (sE S (sT S 896 s) n)) 0 := fun z => z (lcmp0.mp c103)
              refine w_iload d113_110 rfl ?_
              refine w_istore4 d113_112 rfl ?_
              refine w_aload_n d113_114 rfl ?_
              refine w_dloadS d113_115 (ok.kd hs) (fr899 ok hs) ?_
              refine w_iload_n d113_118 rfl ?_
              refine w_aload_n d113_119 rfl ?_
              refine w_getI (x := (b2i (pu n).1)) d113_120 (ok.kd kn) b0 ?_
              refine w_ifeq d113_123 (fun c123 => ?_) (fun c123 => ?_)
              · have bq : ¬ (pu n).1 = true := fun z => by rw [z] at c123; exact absurd c123 (by decide)
                refine w_iconst d113_131 (by decide) ?_
                refine wa899 d113_132 ok hs (by omega) (by first | omega | decide) (fun h132 e132 m132 => ?_)
                have e132 : h132 = sAI h (sT S 899 s) n 1 := e132
                have ok132 := m132.ok
                have M132 := Mo.tr ok (Mo.refl (A := (fun x => x = (sT S 899 s))) ok) m132 (fun x e => e)
                refine w_return d113_133 ?_
                have fin : ∀ r : Int, r = (if (pu n).1 = true then (if AL h (sT S 260 a) 0 ≠ AL h (sT S 260 (sE S (sT S 896 s) n)) 0 then 2 else if ps.length ≠ (pp n).length then 3 else rsnI (srF (fun i => decide (AL h (sT S 260 a) i ≠ AL h (sT S 260 (sE S (sT S 896 s) n)) i)) ps.length 1)) else 1) → r = ((rsnW (pu n).1 ps (pp n)) : Nat) := fun r hr => rsnW_eq a3 b3 hp0 hq0 hr
                refine kk h132 m132 ⟨sc.1.f ok m132 hs (fun t ht => OFr.t ok.so (by decide) (Or.inr (by decide)) (by omega)), sc.2.1.f ok m132 hs (fun t ht => ⟨OFr.t ok.so (by decide) (Or.inr (by decide)) (by omega), fun z => ok.so.neE (by decide) (by omega) z.symm⟩), fun t ht => ?_, sc.2.2.2.f ok m132 hs (Or.inl (fun z => ok.so.pT (by decide) z.symm)) (ok.so.ou (by decide) (by decide) (Or.inl (by decide))) (fun i hi => OFr.t ok.so (by decide) (Or.inr (by decide)) (by omega))⟩
                rw [e132, sArr]
                unfold upN
                by_cases q : t = n
                · rw [if_pos q, if_pos q]
                  refine fin _ ?_
                  first | (rw [if_neg bq]; first | done | rfl) | (rw [if_pos bq, if_pos pq]; first | done | rfl) | (rw [if_pos bq, if_neg pq, if_pos lq]; first | done | rfl) | (rw [if_pos bq, if_neg pq, if_neg lq]; first | done | rfl)
                · rw [if_neg q, if_neg q]; exact sc.2.2.1 t ht
              · have bq : (pu n).1 = true := by cases z : (pu n).1 with
                  | true => rfl
                  | false => rw [z] at c123; exact absurd rfl c123
                refine w_iload d113_126 rfl ?_
                refine w_goto d113_128 ?_
                refine wa899 d113_132 ok hs (by omega) (by first | omega | decide) (fun h132 e132 m132 => ?_)
                have e132 : h132 = sAI h (sT S 899 s) n (rsnI (srF (fun i => decide ((AL h (sT S 260 a) i) ≠ (AL h (sT S 260 (sE S (sT S 896 s) n)) i))) ps.length (0 + 1))) := e132
                have ok132 := m132.ok
                have M132 := Mo.tr ok (Mo.refl (A := (fun x => x = (sT S 899 s))) ok) m132 (fun x e => e)
                refine w_return d113_133 ?_
                have fin : ∀ r : Int, r = (if (pu n).1 = true then (if AL h (sT S 260 a) 0 ≠ AL h (sT S 260 (sE S (sT S 896 s) n)) 0 then 2 else if ps.length ≠ (pp n).length then 3 else rsnI (srF (fun i => decide (AL h (sT S 260 a) i ≠ AL h (sT S 260 (sE S (sT S 896 s) n)) i)) ps.length 1)) else 1) → r = ((rsnW (pu n).1 ps (pp n)) : Nat) := fun r hr => rsnW_eq a3 b3 hp0 hq0 hr
                refine kk h132 m132 ⟨sc.1.f ok m132 hs (fun t ht => OFr.t ok.so (by decide) (Or.inr (by decide)) (by omega)), sc.2.1.f ok m132 hs (fun t ht => ⟨OFr.t ok.so (by decide) (Or.inr (by decide)) (by omega), fun z => ok.so.neE (by decide) (by omega) z.symm⟩), fun t ht => ?_, sc.2.2.2.f ok m132 hs (Or.inl (fun z => ok.so.pT (by decide) z.symm)) (ok.so.ou (by decide) (by decide) (Or.inl (by decide))) (fun i hi => OFr.t ok.so (by decide) (Or.inr (by decide)) (by omega))⟩
                rw [e132, sArr]
                unfold upN
                by_cases q : t = n
                · rw [if_pos q, if_pos q]
                  refine fin _ ?_
                  first | (rw [if_neg bq]; first | done | rfl) | (rw [if_pos bq, if_pos pq]; first | done | rfl) | (rw [if_pos bq, if_neg pq, if_pos lq]; first | done | rfl) | (rw [if_pos bq, if_neg pq, if_neg lq]; first | done | rfl)
                · rw [if_neg q, if_neg q]; exact sc.2.2.1 t ht
            · have pq : AL h (sT S 260 a) 0 ≠ AL h (sT S 260 (sE S (sT S 896 s) n)) 0 := fun z => c103 (lcmp0.mpr z)
              refine w_iconst d113_106 (by decide) ?_
              refine w_goto d113_107 ?_
              refine w_istore4 d113_112 rfl ?_
              refine w_aload_n d113_114 rfl ?_
              refine w_dloadS d113_115 (ok.kd hs) (fr899 ok hs) ?_
              refine w_iload_n d113_118 rfl ?_
              refine w_aload_n d113_119 rfl ?_
              refine w_getI (x := (b2i (pu n).1)) d113_120 (ok.kd kn) b0 ?_
              refine w_ifeq d113_123 (fun c123 => ?_) (fun c123 => ?_)
              · have bq : ¬ (pu n).1 = true := fun z => by rw [z] at c123; exact absurd c123 (by decide)
                refine w_iconst d113_131 (by decide) ?_
                refine wa899 d113_132 ok hs (by omega) (by first | omega | decide) (fun h132 e132 m132 => ?_)
                have e132 : h132 = sAI h (sT S 899 s) n 1 := e132
                have ok132 := m132.ok
                have M132 := Mo.tr ok (Mo.refl (A := (fun x => x = (sT S 899 s))) ok) m132 (fun x e => e)
                refine w_return d113_133 ?_
                have fin : ∀ r : Int, r = (if (pu n).1 = true then (if AL h (sT S 260 a) 0 ≠ AL h (sT S 260 (sE S (sT S 896 s) n)) 0 then 2 else if ps.length ≠ (pp n).length then 3 else rsnI (srF (fun i => decide (AL h (sT S 260 a) i ≠ AL h (sT S 260 (sE S (sT S 896 s) n)) i)) ps.length 1)) else 1) → r = ((rsnW (pu n).1 ps (pp n)) : Nat) := fun r hr => rsnW_eq a3 b3 hp0 hq0 hr
                refine kk h132 m132 ⟨sc.1.f ok m132 hs (fun t ht => OFr.t ok.so (by decide) (Or.inr (by decide)) (by omega)), sc.2.1.f ok m132 hs (fun t ht => ⟨OFr.t ok.so (by decide) (Or.inr (by decide)) (by omega), fun z => ok.so.neE (by decide) (by omega) z.symm⟩), fun t ht => ?_, sc.2.2.2.f ok m132 hs (Or.inl (fun z => ok.so.pT (by decide) z.symm)) (ok.so.ou (by decide) (by decide) (Or.inl (by decide))) (fun i hi => OFr.t ok.so (by decide) (Or.inr (by decide)) (by omega))⟩
                rw [e132, sArr]
                unfold upN
                by_cases q : t = n
                · rw [if_pos q, if_pos q]
                  refine fin _ ?_
                  first | (rw [if_neg bq]; first | done | rfl) | (rw [if_pos bq, if_pos pq]; first | done | rfl) | (rw [if_pos bq, if_neg pq, if_pos lq]; first | done | rfl) | (rw [if_pos bq, if_neg pq, if_neg lq]; first | done | rfl)
                · rw [if_neg q, if_neg q]; exact sc.2.2.1 t ht
              · have bq : (pu n).1 = true := by cases z : (pu n).1 with
                  | true => rfl
                  | false => rw [z] at c123; exact absurd rfl c123
                refine w_iload d113_126 rfl ?_
                refine w_goto d113_128 ?_
                refine wa899 d113_132 ok hs (by omega) (by first | omega | decide) (fun h132 e132 m132 => ?_)
                have e132 : h132 = sAI h (sT S 899 s) n 2 := e132
                have ok132 := m132.ok
                have M132 := Mo.tr ok (Mo.refl (A := (fun x => x = (sT S 899 s))) ok) m132 (fun x e => e)
                refine w_return d113_133 ?_
                have fin : ∀ r : Int, r = (if (pu n).1 = true then (if AL h (sT S 260 a) 0 ≠ AL h (sT S 260 (sE S (sT S 896 s) n)) 0 then 2 else if ps.length ≠ (pp n).length then 3 else rsnI (srF (fun i => decide (AL h (sT S 260 a) i ≠ AL h (sT S 260 (sE S (sT S 896 s) n)) i)) ps.length 1)) else 1) → r = ((rsnW (pu n).1 ps (pp n)) : Nat) := fun r hr => rsnW_eq a3 b3 hp0 hq0 hr
                refine kk h132 m132 ⟨sc.1.f ok m132 hs (fun t ht => OFr.t ok.so (by decide) (Or.inr (by decide)) (by omega)), sc.2.1.f ok m132 hs (fun t ht => ⟨OFr.t ok.so (by decide) (Or.inr (by decide)) (by omega), fun z => ok.so.neE (by decide) (by omega) z.symm⟩), fun t ht => ?_, sc.2.2.2.f ok m132 hs (Or.inl (fun z => ok.so.pT (by decide) z.symm)) (ok.so.ou (by decide) (by decide) (Or.inl (by decide))) (fun i hi => OFr.t ok.so (by decide) (Or.inr (by decide)) (by omega))⟩
                rw [e132, sArr]
                unfold upN
                by_cases q : t = n
                · rw [if_pos q, if_pos q]
                  refine fin _ ?_
                  first | (rw [if_neg bq]; first | done | rfl) | (rw [if_pos bq, if_pos pq]; first | done | rfl) | (rw [if_pos bq, if_neg pq, if_pos lq]; first | done | rfl) | (rw [if_pos bq, if_neg pq, if_neg lq]; first | done | rfl)
                · rw [if_neg q, if_neg q]; exact sc.2.2.1 t ht
          · have lq : ps.length ≠ (pp n).length := by omega
            refine w_iconst d113_82 (by decide) ?_
            refine w_goto d113_83 ?_
            refine w_istore4 d113_88 rfl ?_
            refine w_aload_n d113_90 rfl ?_
            refine w_dloadS d113_91 (ok.kd ha) (fr260 ok ha) ?_
            refine w_iconst d113_94 (by decide) ?_
            refine w_laload d113_95 (gi260 ok ha (by omega)) ?_
            refine w_aload_n d113_96 rfl ?_
            refine w_dloadS d113_97 (ok.kd kn) (fr260 ok kn) ?_
            refine w_iconst d113_100 (by decide) ?_
            refine w_laload d113_101 (gi260 ok kn (by omega)) ?_
            refine w_lcmp d113_102 ?_
            refine w_ifeq d113_103 (fun c103 => ?_) (fun c103 => ?_)
            · have pq : ¬ AL h (sT S 260 a) 0 ≠ AL h (sT S 260 (sE S (sT S 896 s) n)) 0 := fun z => z (lcmp0.mp c103)
              refine w_iload d113_110 rfl ?_
              refine w_istore4 d113_112 rfl ?_
              refine w_aload_n d113_114 rfl ?_
              refine w_dloadS d113_115 (ok.kd hs) (fr899 ok hs) ?_
              refine w_iload_n d113_118 rfl ?_
              refine w_aload_n d113_119 rfl ?_
              refine w_getI (x := (b2i (pu n).1)) d113_120 (ok.kd kn) b0 ?_
              refine w_ifeq d113_123 (fun c123 => ?_) (fun c123 => ?_)
              · have bq : ¬ (pu n).1 = true := fun z => by rw [z] at c123; exact absurd c123 (by decide)
                refine w_iconst d113_131 (by decide) ?_
                refine wa899 d113_132 ok hs (by omega) (by first | omega | decide) (fun h132 e132 m132 => ?_)
                have e132 : h132 = sAI h (sT S 899 s) n 1 := e132
                have ok132 := m132.ok
                have M132 := Mo.tr ok (Mo.refl (A := (fun x => x = (sT S 899 s))) ok) m132 (fun x e => e)
                refine w_return d113_133 ?_
                have fin : ∀ r : Int, r = (if (pu n).1 = true then (if AL h (sT S 260 a) 0 ≠ AL h (sT S 260 (sE S (sT S 896 s) n)) 0 then 2 else if ps.length ≠ (pp n).length then 3 else rsnI (srF (fun i => decide (AL h (sT S 260 a) i ≠ AL h (sT S 260 (sE S (sT S 896 s) n)) i)) ps.length 1)) else 1) → r = ((rsnW (pu n).1 ps (pp n)) : Nat) := fun r hr => rsnW_eq a3 b3 hp0 hq0 hr
                refine kk h132 m132 ⟨sc.1.f ok m132 hs (fun t ht => OFr.t ok.so (by decide) (Or.inr (by decide)) (by omega)), sc.2.1.f ok m132 hs (fun t ht => ⟨OFr.t ok.so (by decide) (Or.inr (by decide)) (by omega), fun z => ok.so.neE (by decide) (by omega) z.symm⟩), fun t ht => ?_, sc.2.2.2.f ok m132 hs (Or.inl (fun z => ok.so.pT (by decide) z.symm)) (ok.so.ou (by decide) (by decide) (Or.inl (by decide))) (fun i hi => OFr.t ok.so (by decide) (Or.inr (by decide)) (by omega))⟩
                rw [e132, sArr]
                unfold upN
                by_cases q : t = n
                · rw [if_pos q, if_pos q]
                  refine fin _ ?_
                  first | (rw [if_neg bq]; first | done | rfl) | (rw [if_pos bq, if_pos pq]; first | done | rfl) | (rw [if_pos bq, if_neg pq, if_pos lq]; first | done | rfl) | (rw [if_pos bq, if_neg pq, if_neg lq]; first | done | rfl)
                · rw [if_neg q, if_neg q]; exact sc.2.2.1 t ht
              · have bq : (pu n).1 = true := by cases z : (pu n).1 with
                  | true => rfl
                  | false => rw [z] at c123; exact absurd rfl c123
                refine w_iload d113_126 rfl ?_
                refine w_goto d113_128 ?_
                refine wa899 d113_132 ok hs (by omega) (by first | omega | decide) (fun h132 e132 m132 => ?_)
                have e132 : h132 = sAI h (sT S 899 s) n 3 := e132
                have ok132 := m132.ok
                have M132 := Mo.tr ok (Mo.refl (A := (fun x => x = (sT S 899 s))) ok) m132 (fun x e => e)
                refine w_return d113_133 ?_
                have fin : ∀ r : Int, r = (if (pu n).1 = true then (if AL h (sT S 260 a) 0 ≠ AL h (sT S 260 (sE S (sT S 896 s) n)) 0 then 2 else if ps.length ≠ (pp n).length then 3 else rsnI (srF (fun i => decide (AL h (sT S 260 a) i ≠ AL h (sT S 260 (sE S (sT S 896 s) n)) i)) ps.length 1)) else 1) → r = ((rsnW (pu n).1 ps (pp n)) : Nat) := fun r hr => rsnW_eq a3 b3 hp0 hq0 hr
                refine kk h132 m132 ⟨sc.1.f ok m132 hs (fun t ht => OFr.t ok.so (by decide) (Or.inr (by decide)) (by omega)), sc.2.1.f ok m132 hs (fun t ht => ⟨OFr.t ok.so (by decide) (Or.inr (by decide)) (by omega), fun z => ok.so.neE (by decide) (by omega) z.symm⟩), fun t ht => ?_, sc.2.2.2.f ok m132 hs (Or.inl (fun z => ok.so.pT (by decide) z.symm)) (ok.so.ou (by decide) (by decide) (Or.inl (by decide))) (fun i hi => OFr.t ok.so (by decide) (Or.inr (by decide)) (by omega))⟩
                rw [e132, sArr]
                unfold upN
                by_cases q : t = n
                · rw [if_pos q, if_pos q]
                  refine fin _ ?_
                  first | (rw [if_neg bq]; first | done | rfl) | (rw [if_pos bq, if_pos pq]; first | done | rfl) | (rw [if_pos bq, if_neg pq, if_pos lq]; first | done | rfl) | (rw [if_pos bq, if_neg pq, if_neg lq]; first | done | rfl)
                · rw [if_neg q, if_neg q]; exact sc.2.2.1 t ht
            · have pq : AL h (sT S 260 a) 0 ≠ AL h (sT S 260 (sE S (sT S 896 s) n)) 0 := fun z => c103 (lcmp0.mpr z)
              refine w_iconst d113_106 (by decide) ?_
              refine w_goto d113_107 ?_
              refine w_istore4 d113_112 rfl ?_
              refine w_aload_n d113_114 rfl ?_
              refine w_dloadS d113_115 (ok.kd hs) (fr899 ok hs) ?_
              refine w_iload_n d113_118 rfl ?_
              refine w_aload_n d113_119 rfl ?_
              refine w_getI (x := (b2i (pu n).1)) d113_120 (ok.kd kn) b0 ?_
              refine w_ifeq d113_123 (fun c123 => ?_) (fun c123 => ?_)
              · have bq : ¬ (pu n).1 = true := fun z => by rw [z] at c123; exact absurd c123 (by decide)
                refine w_iconst d113_131 (by decide) ?_
                refine wa899 d113_132 ok hs (by omega) (by first | omega | decide) (fun h132 e132 m132 => ?_)
                have e132 : h132 = sAI h (sT S 899 s) n 1 := e132
                have ok132 := m132.ok
                have M132 := Mo.tr ok (Mo.refl (A := (fun x => x = (sT S 899 s))) ok) m132 (fun x e => e)
                refine w_return d113_133 ?_
                have fin : ∀ r : Int, r = (if (pu n).1 = true then (if AL h (sT S 260 a) 0 ≠ AL h (sT S 260 (sE S (sT S 896 s) n)) 0 then 2 else if ps.length ≠ (pp n).length then 3 else rsnI (srF (fun i => decide (AL h (sT S 260 a) i ≠ AL h (sT S 260 (sE S (sT S 896 s) n)) i)) ps.length 1)) else 1) → r = ((rsnW (pu n).1 ps (pp n)) : Nat) := fun r hr => rsnW_eq a3 b3 hp0 hq0 hr
                refine kk h132 m132 ⟨sc.1.f ok m132 hs (fun t ht => OFr.t ok.so (by decide) (Or.inr (by decide)) (by omega)), sc.2.1.f ok m132 hs (fun t ht => ⟨OFr.t ok.so (by decide) (Or.inr (by decide)) (by omega), fun z => ok.so.neE (by decide) (by omega) z.symm⟩), fun t ht => ?_, sc.2.2.2.f ok m132 hs (Or.inl (fun z => ok.so.pT (by decide) z.symm)) (ok.so.ou (by decide) (by decide) (Or.inl (by decide))) (fun i hi => OFr.t ok.so (by decide) (Or.inr (by decide)) (by omega))⟩
                rw [e132, sArr]
                unfold upN
                by_cases q : t = n
                · rw [if_pos q, if_pos q]
                  refine fin _ ?_
                  first | (rw [if_neg bq]; first | done | rfl) | (rw [if_pos bq, if_pos pq]; first | done | rfl) | (rw [if_pos bq, if_neg pq, if_pos lq]; first | done | rfl) | (rw [if_pos bq, if_neg pq, if_neg lq]; first | done | rfl)
                · rw [if_neg q, if_neg q]; exact sc.2.2.1 t ht
              · have bq : (pu n).1 = true := by cases z : (pu n).1 with
                  | true => rfl
                  | false => rw [z] at c123; exact absurd rfl c123
                refine w_iload d113_126 rfl ?_
                refine w_goto d113_128 ?_
                refine wa899 d113_132 ok hs (by omega) (by first | omega | decide) (fun h132 e132 m132 => ?_)
                have e132 : h132 = sAI h (sT S 899 s) n 2 := e132
                have ok132 := m132.ok
                have M132 := Mo.tr ok (Mo.refl (A := (fun x => x = (sT S 899 s))) ok) m132 (fun x e => e)
                refine w_return d113_133 ?_
                have fin : ∀ r : Int, r = (if (pu n).1 = true then (if AL h (sT S 260 a) 0 ≠ AL h (sT S 260 (sE S (sT S 896 s) n)) 0 then 2 else if ps.length ≠ (pp n).length then 3 else rsnI (srF (fun i => decide (AL h (sT S 260 a) i ≠ AL h (sT S 260 (sE S (sT S 896 s) n)) i)) ps.length 1)) else 1) → r = ((rsnW (pu n).1 ps (pp n)) : Nat) := fun r hr => rsnW_eq a3 b3 hp0 hq0 hr
                refine kk h132 m132 ⟨sc.1.f ok m132 hs (fun t ht => OFr.t ok.so (by decide) (Or.inr (by decide)) (by omega)), sc.2.1.f ok m132 hs (fun t ht => ⟨OFr.t ok.so (by decide) (Or.inr (by decide)) (by omega), fun z => ok.so.neE (by decide) (by omega) z.symm⟩), fun t ht => ?_, sc.2.2.2.f ok m132 hs (Or.inl (fun z => ok.so.pT (by decide) z.symm)) (ok.so.ou (by decide) (by decide) (Or.inl (by decide))) (fun i hi => OFr.t ok.so (by decide) (Or.inr (by decide)) (by omega))⟩
                rw [e132, sArr]
                unfold upN
                by_cases q : t = n
                · rw [if_pos q, if_pos q]
                  refine fin _ ?_
                  first | (rw [if_neg bq]; first | done | rfl) | (rw [if_pos bq, if_pos pq]; first | done | rfl) | (rw [if_pos bq, if_neg pq, if_pos lq]; first | done | rfl) | (rw [if_pos bq, if_neg pq, if_neg lq]; first | done | rfl)
                · rw [if_neg q, if_neg q]; exact sc.2.2.1 t ht
        · refine w_aload_n d113_34 rfl ?_
          refine w_dloadS d113_35 (ok.kd ha) (fr260 ok ha) ?_
          refine w_iload d113_38 rfl ?_
          refine w_laloadN d113_40 (gi260 ok ha (by omega)) ?_
          refine w_aload_n d113_41 rfl ?_
          refine w_dloadS d113_42 (ok.kd kn) (fr260 ok kn) ?_
          refine w_iload d113_45 rfl ?_
          refine w_laloadN d113_47 (gi260 ok kn (by omega)) ?_
          refine w_lcmp d113_48 ?_
          refine w_ifeq d113_49 (fun c49 => ?_) (fun c49 => ?_)
          · have pk : (fun i => decide ((AL h (sT S 260 a) i) ≠ (AL h (sT S 260 (sE S (sT S 896 s) n)) i))) k = false := by
              show decide _ = false
              rw [decide_eq_false]
              exact fun z => z (lcmp0.mp c49)
            have ek : rsnI (srF (fun i => decide ((AL h (sT S 260 a) i) ≠ (AL h (sT S 260 (sE S (sT S 896 s) n)) i))) ps.length (k + 1)) = rsnI (srF (fun i => decide ((AL h (sT S 260 a) i) ≠ (AL h (sT S 260 (sE S (sT S 896 s) n)) i))) ps.length (k - 1 + 1)) := by rw [show k - 1 + 1 = k by omega, srF_no j1 pk]
            refine w_iload d113_61 rfl ?_
            refine w_istore4 d113_63 rfl ?_
            refine w_iinc5 d113_65 rfl (by constructor <;> omega) ?_
            rw [ek, show ((k : Nat) : Int) + (-1) = ((k - 1 : Nat) : Int) by omega]
            refine w_goto d113_68 ?_
            refine w_less ?_ (IH29 _ (by omega) (k - 1) rfl (by omega))
            exact ⟨Or.inr rfl, Or.inr rfl, Or.inr rfl, Or.inr rfl, Or.inr rfl, Or.inr rfl, trivial⟩
          · have pk : (fun i => decide ((AL h (sT S 260 a) i) ≠ (AL h (sT S 260 (sE S (sT S 896 s) n)) i))) k = true := by
              show decide _ = true
              rw [decide_eq_true]
              exact fun z => c49 (lcmp0.mpr z)
            have ek : 5 + (k : Int) - 1 = rsnI (srF (fun i => decide ((AL h (sT S 260 a) i) ≠ (AL h (sT S 260 (sE S (sT S 896 s) n)) i))) ps.length (k - 1 + 1)) := by rw [show k - 1 + 1 = k by omega, srF_yes j1 pk]; unfold rsnI; rw [if_neg (by omega)]; omega
            refine w_iconst d113_52 (by decide) ?_
            refine w_iload d113_53 rfl ?_
            refine w_iadd d113_55 (by constructor <;> omega) ?_
            refine w_iconst d113_56 (by decide) ?_
            refine w_isub d113_57 (by constructor <;> omega) ?_
            refine w_goto d113_58 ?_
            refine w_istore4 d113_63 rfl ?_
            refine w_iinc5 d113_65 rfl (by constructor <;> omega) ?_
            rw [ek, show ((k : Nat) : Int) + (-1) = ((k - 1 : Nat) : Int) by omega]
            refine w_goto d113_68 ?_
            refine w_less ?_ (IH29 _ (by omega) (k - 1) rfl (by omega))
            exact ⟨Or.inr rfl, Or.inr rfl, Or.inr rfl, Or.inr rfl, Or.inr rfl, Or.inr rfl, trivial⟩
      refine w_less ?_ (L29 _ (ps.length - 1) rfl (by omega))
      exact ⟨Or.inr rfl, Or.inr rfl, Or.inr rfl, Or.inr rfl, Or.inr rfl, Or.inr rfl, trivial⟩
    · omega
