/-! the store: an outcome kept -/
def kpL (L : Nat) (ks : List (Int64 × OutV)) (x : Int64) (v : OutV) : List (Int64 × OutV) := if L = 0 then ks else if 0 ≤ kfd ks x then ks.eraseIdx (kfd ks x).toNat ++ [(x, v)] else if ks.length < L then ks ++ [(x, v)] else ks.eraseIdx 0 ++ [(x, v)]
theorem kfd_rg (ks : List (Int64 × OutV)) (x : Int64) : -1 ≤ kfd ks x ∧ kfd ks x < ks.length := by
  unfold kfd
  rcases srF_rg (p := fun i => kK ks i == x) (n := ks.length) (i := 0) with e | ⟨j, -, j2, e, -⟩ <;> rw [e] <;> omega
theorem OFr.eq {S : Shp} {h : Hp} {u a : Nat} (ok : Ok S h) (hu : sK S u = 3) (ha : sK S a = 3) (ne : u ≠ a) : OFr (fun y => y = a) S u := ⟨ne, fun f f1 f2 z => by
  have e7 := kT257 ok hu
  have e8 := kT258 ok hu
  have e9 := kT259 ok hu
  have e0 := kT260 ok hu
  have : f = 257 ∨ f = 258 ∨ f = 259 ∨ f = 260 := by omega
  rcases this with e | e | e | e <;> subst e
  · rw [z] at e7; omega
  · rw [z] at e8; omega
  · rw [z] at e9; omega
  · rw [z] at e0; omega⟩
theorem OFr.far {S : Shp} {h : Hp} {s a p : Nat} (ok : Ok S h) (hs : sK S s = 8) (ha : sK S a = 3) (n : ¬ U S s a) (u : U S s p) : OFr (fun y => y = p) S a := ⟨fun z => n (z ▸ u), fun f f1 f2 z => by
  have e7 := kT257 ok ha
  have e8 := kT258 ok ha
  have e9 := kT259 ok ha
  have e0 := kT260 ok ha
  rw [← z] at u
  rcases (ok.so.U_T (by omega)).mp u with q | q
  · have : f = 257 ∨ f = 258 ∨ f = 259 ∨ f = 260 := by omega
    rcases this with e | e | e | e <;> subst e
    · rw [← q] at e7; omega
    · rw [← q] at e8; omega
    · rw [← q] at e9; omega
    · rw [← q] at e0; omega
  · exact n q⟩
theorem d133_0 : dc 133 0 = some (.aload_n 0, 1) := by decide +kernel
theorem d133_1 : dc 133 1 = some (.dload 900, 4) := by decide +kernel
theorem d133_4 : dc 133 4 = some (.arraylength, 5) := by decide +kernel
theorem d133_5 : dc 133 5 = some (.ifCond .ne ((9 : Nat) : Int), 8) := by decide +kernel
theorem d133_8 : dc 133 8 = some (.return_, 9) := by decide +kernel
theorem d133_9 : dc 133 9 = some (.aload_n 0, 10) := by decide +kernel
theorem d133_10 : dc 133 10 = some (.aload_n 1, 11) := by decide +kernel
theorem d133_11 : dc 133 11 = some (.fload 262, 14) := by decide +kernel
theorem d133_14 : dc 133 14 = some (.invokevirtual 110, 17) := by decide +kernel
theorem d133_17 : dc 133 17 = some (.istore_n 2, 18) := by decide +kernel
theorem d133_18 : dc 133 18 = some (.iload_n 2, 19) := by decide +kernel
theorem d133_19 : dc 133 19 = some (.ifCond .ge ((49 : Nat) : Int), 22) := by decide +kernel
theorem d133_22 : dc 133 22 = some (.aload_n 0, 23) := by decide +kernel
theorem d133_23 : dc 133 23 = some (.getfield 901, 26) := by decide +kernel
theorem d133_26 : dc 133 26 = some (.aload_n 0, 27) := by decide +kernel
theorem d133_27 : dc 133 27 = some (.dload 900, 30) := by decide +kernel
theorem d133_30 : dc 133 30 = some (.arraylength, 31) := by decide +kernel
theorem d133_31 : dc 133 31 = some (.if_icmp .ge ((49 : Nat) : Int), 34) := by decide +kernel
theorem d133_34 : dc 133 34 = some (.aload_n 0, 35) := by decide +kernel
theorem d133_35 : dc 133 35 = some (.getfield 901, 38) := by decide +kernel
theorem d133_38 : dc 133 38 = some (.istore_n 2, 39) := by decide +kernel
theorem d133_39 : dc 133 39 = some (.aload_n 0, 40) := by decide +kernel
theorem d133_40 : dc 133 40 = some (.dup, 41) := by decide +kernel
theorem d133_41 : dc 133 41 = some (.getfield 901, 44) := by decide +kernel
theorem d133_44 : dc 133 44 = some (.iconst 1, 45) := by decide +kernel
theorem d133_45 : dc 133 45 = some (.iadd, 46) := by decide +kernel
theorem d133_46 : dc 133 46 = some (.putfield 901, 49) := by decide +kernel
theorem d133_49 : dc 133 49 = some (.iload_n 2, 50) := by decide +kernel
theorem d133_50 : dc 133 50 = some (.iconst 0, 51) := by decide +kernel
theorem d133_51 : dc 133 51 = some (.invokestatic 3, 54) := by decide +kernel
theorem d133_54 : dc 133 54 = some (.istore_n 2, 55) := by decide +kernel
theorem d133_55 : dc 133 55 = some (.aload_n 0, 56) := by decide +kernel
theorem d133_56 : dc 133 56 = some (.dload 900, 59) := by decide +kernel
theorem d133_59 : dc 133 59 = some (.iload_n 2, 60) := by decide +kernel
theorem d133_60 : dc 133 60 = some (.aaload, 61) := by decide +kernel
theorem d133_61 : dc 133 61 = some (.astore_n 3, 62) := by decide +kernel
theorem d133_62 : dc 133 62 = some (.iload_n 2, 63) := by decide +kernel
theorem d133_63 : dc 133 63 = some (.istore 4, 65) := by decide +kernel
theorem d133_65 : dc 133 65 = some (.iload 4, 67) := by decide +kernel
theorem d133_67 : dc 133 67 = some (.iconst 1, 68) := by decide +kernel
theorem d133_68 : dc 133 68 = some (.iadd, 69) := by decide +kernel
theorem d133_69 : dc 133 69 = some (.aload_n 0, 70) := by decide +kernel
theorem d133_70 : dc 133 70 = some (.getfield 901, 73) := by decide +kernel
theorem d133_73 : dc 133 73 = some (.if_icmp .ge ((98 : Nat) : Int), 76) := by decide +kernel
theorem d133_76 : dc 133 76 = some (.aload_n 0, 77) := by decide +kernel
theorem d133_77 : dc 133 77 = some (.dload 900, 80) := by decide +kernel
theorem d133_80 : dc 133 80 = some (.iload 4, 82) := by decide +kernel
theorem d133_82 : dc 133 82 = some (.aload_n 0, 83) := by decide +kernel
theorem d133_83 : dc 133 83 = some (.dload 900, 86) := by decide +kernel
theorem d133_86 : dc 133 86 = some (.iload 4, 88) := by decide +kernel
theorem d133_88 : dc 133 88 = some (.iconst 1, 89) := by decide +kernel
theorem d133_89 : dc 133 89 = some (.iadd, 90) := by decide +kernel
theorem d133_90 : dc 133 90 = some (.aaload, 91) := by decide +kernel
theorem d133_91 : dc 133 91 = some (.aastore, 92) := by decide +kernel
theorem d133_92 : dc 133 92 = some (.iinc 4 1, 95) := by decide +kernel
theorem d133_95 : dc 133 95 = some (.goto ((65 : Nat) : Int), 98) := by decide +kernel
theorem d133_98 : dc 133 98 = some (.aload_n 0, 99) := by decide +kernel
theorem d133_99 : dc 133 99 = some (.dload 900, 102) := by decide +kernel
theorem d133_102 : dc 133 102 = some (.aload_n 0, 103) := by decide +kernel
theorem d133_103 : dc 133 103 = some (.getfield 901, 106) := by decide +kernel
theorem d133_106 : dc 133 106 = some (.iconst 1, 107) := by decide +kernel
theorem d133_107 : dc 133 107 = some (.isub, 108) := by decide +kernel
theorem d133_108 : dc 133 108 = some (.aload_n 3, 109) := by decide +kernel
theorem d133_109 : dc 133 109 = some (.aastore, 110) := by decide +kernel
theorem d133_110 : dc 133 110 = some (.aload_n 3, 111) := by decide +kernel
theorem d133_111 : dc 133 111 = some (.aload_n 1, 112) := by decide +kernel
theorem d133_112 : dc 133 112 = some (.invokevirtual 111, 115) := by decide +kernel
theorem d133_115 : dc 133 115 = some (.aload_n 3, 116) := by decide +kernel
theorem d133_116 : dc 133 116 = some (.aload_n 1, 117) := by decide +kernel
theorem d133_117 : dc 133 117 = some (.fload 262, 120) := by decide +kernel
theorem d133_120 : dc 133 120 = some (.fstore 262, 123) := by decide +kernel
theorem d133_123 : dc 133 123 = some (.return_, 124) := by decide +kernel
theorem k_St_keep {S : Shp} {G : Nat → Option Nat} {d : Nat} {h : Hp} {Q : Option MV → Hp → Prop} {s : Nat} {a : Nat}  (ok : Ok S h) (h1 : 5 ≤ d) (hs : sK S s = 8) (ha : sK S a = 3) {pu : Nat → OutV} {pp : Nat → List Int64} {re : Nat → OutV} {ed : Nat → Nat → Nat} {ra : Nat → Nat} {ks : List (Int64 × OutV)} (sc : StC S h s pu pp re ed ra ks) {v : OutV} {x : Int64} (oa0 : OuC S h a v) (xa0 : FL h 262 a = x) (hsa : ¬ U S s a)
    (kk : ∀ h', Mo S (U S s) h h' → StC S h' s pu pp re ed ra (kpL (sL S (sT S 900 s)) ks x v) → Q none h') : Cl G d 133 [vR (some s), vR (some a)] h Q := by
  show Wp G d 133 0 [some (vR (some s)), some (vR (some a)), none, none, none] [] h Q
  have K900 := kT900 ok hs
  have kc := sc.2.2.2
  obtain ⟨σ, s1, s2, q1, q2, q4, q3⟩ := kc
  have kr := kfd_rg ks x
  refine w_aload_n d133_0 rfl ?_
  refine w_dloadS d133_1 (ok.kd hs) (fr900 ok hs) ?_
  refine w_arraylength d133_4 (by rw [ok.kd K900]; decide) ?_
  rw [(ok.st.1 (sT S 900 s) (by omega)).2]
  refine w_ifne d133_5 (fun c5 => ?_) (fun c5 => ?_)
  · have hL : ¬ sL S (sT S 900 s) = 0 := by omega
    refine w_aload_n d133_9 rfl ?_
    refine w_aload_n d133_10 rfl ?_
    refine w_floadV (x := x) d133_11 (ok.kd ha) xa0 ?_
    refine w_callv2 d133_14 (by omega) rfl (ok.kd hs) (by simp) (Nat.le_of_ble_eq_true rfl) ?_
    refine k_St_find ok (by omega) hs sc.2.2.2 ?_
    have L55 : ∀ (m55 : Nat) (b : Hp) (p c : Nat), 0 = m55 → Mo S (fun x => U S s x) h b → (Mo S (fun y => y = s) h b) → (FI b 901 s = (c : Nat)) → (p < c ∧ c ≤ sL S (sT S 900 s)) → (kpL (sL S (sT S 900 s)) ks x v = ks.eraseIdx p ++ [(x, v)]) → ((p = ks.length ∧ c = ks.length + 1) ∨ (p < ks.length ∧ c = ks.length)) → Wp G d 133 55 [some (vR (some s)), some (vR (some a)), some (vI (p : Nat)), none, none] [] b Q := by
      intro m55
      induction m55 using Nat.strongRecOn with | ind m55 IH55 => ?_
      intro b p c hm55 Mb N0 c1 c2 c3 c4
      have okb := Mb.ok
      have ARb : AR b (sT S 900 s) = AR h (sT S 900 s) := N0.ar ok (by omega) (fun z => ok.so.pT (by decide) z)
      have hsp := (s1 p (by omega)).1
      refine w_aload_n d133_55 rfl ?_
      refine w_dloadS d133_56 (okb.kd hs) (fr900 okb hs) ?_
      refine w_iload_n d133_59 rfl ?_
      refine w_aaloadSN d133_60 ⟨by rw [okb.kd K900]; decide, by rw [(okb.st.1 _ (by omega)).2]; exact ⟨by omega, by omega⟩⟩ ((congrFun ARb p).trans (s1 p (by omega)).2) ?_
      refine w_astore3 d133_61 rfl ?_
      refine w_iload_n d133_62 rfl ?_
      refine w_istore4 d133_63 rfl ?_
      have L65 : ∀ (m65 : Nat) (g : Hp) (i : Nat), c - i = m65 → Mo S (fun x => U S s x) h g → (p ≤ i) → (i + 1 ≤ c) → (Mo S (fun z => z = sT S 900 s) b g) → (∀ j, j < sL S (sT S 900 s) → AR g (sT S 900 s) j = AR h (sT S 900 s) (if p ≤ j ∧ j < i then j + 1 else j)) → Wp G d 133 65 [some (vR (some s)), some (vR (some a)), some (vI (p : Nat)), some (vR (some (sE S (sT S 900 s) (σ p)))), some (vI (i : Nat))] [] g Q := by
        intro m65
        induction m65 using Nat.strongRecOn with | ind m65 IH65 => ?_
        intro g i hm65 Mg i1 i2 N i4
        have okg := Mg.ok
        have A1 : FI g 901 s = (c : Nat) := (N.fi okb (by omega) (fun z => ok.so.pT (by decide) z.symm) 901).trans c1
        have ksp := k900 ok hs hsp
        refine w_iload d133_65 rfl ?_
        refine w_iconst d133_67 (by decide) ?_
        refine w_iadd d133_68 (by constructor <;> omega) ?_
        refine w_aload_n d133_69 rfl ?_
        refine w_getI (x := ((c : Nat) : Int)) d133_70 (okg.kd hs) A1 ?_
        refine w_icmpge d133_73 (fun c73 => ?_) (fun c73 => ?_)
        · have hil : i + 1 = c := by omega
          refine w_aload_n d133_98 rfl ?_
          refine w_dloadS d133_99 (okg.kd hs) (fr900 okg hs) ?_
          refine w_aload_n d133_102 rfl ?_
          refine w_getI (x := ((c : Nat) : Int)) d133_103 (okg.kd hs) A1 ?_
          refine w_iconst d133_106 (by decide) ?_
          refine w_isub d133_107 (by constructor <;> omega) ?_
          rw [show ((c : Nat) : Int) - 1 = ((i : Nat) : Int) by omega]
          refine w_aload_n d133_108 rfl ?_
          refine p_AR (f := 900) (i := σ p) (n := sL S (sT S 900 s)) (e := 3) d133_109 okg hs rfl (by decide) rfl hsp (by omega) (fun h109 e109 m109 => ?_)
          have ok109 := m109.ok
          have M109 := Mo.tr ok Mg m109 (fun x e => (e ▸ (ok.so.uT (by decide) U_refl)))
          refine w_aload_n d133_110 rfl ?_
          refine w_aload_n d133_111 rfl ?_
          refine w_callv2 d133_112 (by omega) rfl (ok109.kd (k900 ok hs (s1 p (by omega)).1)) (by simp) (Nat.le_of_ble_eq_true rfl) ?_
          have oa : OuC S h109 a v := ((oa0.f ok N0 ha (OFr.far ok hs ha hsa U_refl)).f okb N ha (OFr.far ok hs ha hsa (ok.so.uT (by decide) U_refl))).f okg m109 ha (OFr.far ok hs ha hsa (ok.so.uT (by decide) U_refl))
          have fa : FL h109 262 a = x := by rw [m109.fl okg (by omega) (OFr.far ok hs ha hsa (ok.so.uT (by decide) U_refl)).1, N.fl okb (by omega) (OFr.far ok hs ha hsa (ok.so.uT (by decide) U_refl)).1, N0.fl ok (by omega) (OFr.far ok hs ha hsa U_refl).1]; exact xa0
          have nsa : sE S (sT S 900 s) (σ p) ≠ a := fun z => hsa (z ▸ ok.so.uE (by omega) (ok.so.uT (by decide) U_refl))
          refine k_Ou_takeResult ok109 (by omega) ksp ha oa nsa (fun h112 m112 e112_1 e112_2 e112_3 => ?_)
          have ok112 := m112.ok
          have M112 := Mo.tr ok M109 m112 (fun x q => (U_trans (ok.so.uE (by omega) (ok.so.uT (by decide) U_refl)) (q.u ok.so)))
          refine w_aload_n d133_115 rfl ?_
          refine w_aload_n d133_116 rfl ?_
          refine w_floadV (x := x) d133_117 (ok112.kd ha) ((m112.fl ok109 (by omega) (OFr.oa ok109 ksp ha nsa).1 262).trans fa) ?_
          refine wf262 d133_120 ok112 (k900 ok hs (s1 p (by omega)).1) (fun h120 e120 m120 => ?_)
          have ok120 := m120.ok
          have M120 := Mo.tr ok M112 m120 (fun x e => (e ▸ (ok.so.uE (by omega) (ok.so.uT (by decide) U_refl))))
          refine w_return d133_123 ?_
          have le : (ks.eraseIdx p ++ [(x, v)]).length = c := by rw [List.length_append, List.length_eraseIdx]; split <;> simp <;> omega
          have ARf : ∀ j, AR h120 (sT S 900 s) j = if j = i then some (sE S (sT S 900 s) (σ p)) else AR g (sT S 900 s) j := fun j => by
            rw [e120]
            show AR h112 _ j = _
            rw [m112.ar ok109 (by omega) (OA.no ok109 ksp (by omega)), e109, AR_sAR]
            by_cases q : j = i
            · rw [if_pos ⟨rfl, q⟩, if_pos q]
            · rw [if_neg (fun z => q z.2), if_neg q]
          have Ng : ∀ t u, t < 4096 → u < 4096 → OFr (fun y => y = s) S (sE S (sT S t s) u) := fun t u ht hu => OFr.own ok.so ht hu
          have F1 : ∀ t u, t < 4096 → u < 4096 → OFr (fun y => y = sT S 900 s) S (sE S (sT S t s) u) := fun t u ht hu => OFr.t ok.so (by decide) (Or.inr (by decide)) hu
          have tk : ∀ f u, f < 4096 → sK S u = 3 → sK S (sT S f u) ≠ 3 → sT S f u ≠ sE S (sT S 900 s) (σ p) := fun f u hf k3 k4 z => by rw [z] at k4; exact k4 ksp
          have F2 : ∀ u, sK S u = 3 → u ≠ sE S (sT S 900 s) (σ p) → OFr (fun y => y = sE S (sT S 900 s) (σ p)) S u := fun u k3 ne => OFr.eq ok k3 ksp ne
          have ouT : ∀ t u w, t < 4096 → u < 4096 → sK S (sE S (sT S t s) u) = 3 → sE S (sT S t s) u ≠ sE S (sT S 900 s) (σ p) → OuC S h (sE S (sT S t s) u) w → OuC S h120 (sE S (sT S t s) u) w := fun t u w ht hu k3 ne D => ((((D.f ok N0 k3 (Ng t u ht hu)).f okb N k3 (F1 t u ht hu)).f okg m109 k3 (F1 t u ht hu)).f ok109 m112 k3 (OFr.oa ok109 ksp k3 (Ne.symm ne))).f ok112 m120 k3 (F2 _ k3 ne)
          have paT : ∀ t u w, t < 4096 → u < 4096 → sK S (sE S (sT S t s) u) = 3 → sE S (sT S t s) u ≠ sE S (sT S 900 s) (σ p) → PaC S h (sE S (sT S t s) u) w → PaC S h120 (sE S (sT S t s) u) w := fun t u w ht hu k3 ne D => ((((D.f ok N0 k3 (Ng t u ht hu)).f okb N k3 (F1 t u ht hu)).f okg m109 k3 (F1 t u ht hu)).f ok109 m112 k3 (OFr.oa ok109 ksp k3 (Ne.symm ne))).f ok112 m120 k3 (F2 _ k3 ne)
          have flT : ∀ t u, t < 4096 → u < 4096 → sK S (sE S (sT S t s) u) = 3 → sE S (sT S t s) u ≠ sE S (sT S 900 s) (σ p) → FL h120 262 (sE S (sT S t s) u) = FL h 262 (sE S (sT S t s) u) := fun t u ht hu k3 ne => by rw [m120.fl ok112 (by omega) ne, m112.fl ok109 (by omega) (OFr.oa ok109 ksp k3 (Ne.symm ne)).1, m109.fl okg (by omega) (F1 t u ht hu).1, N.fl okb (by omega) (F1 t u ht hu).1, N0.fl ok (by omega) (Ng t u ht hu).1]
          have k9 := kT899 ok hs
          have l24 : sL S (sT S 900 s) ≤ 24 := q4
          refine kk h120 M120 ⟨fun t ht => ⟨ouT 896 t _ (by decide) (by omega) (kE896 ok hs ht) (ok.so.ne2 (by decide) (by decide) (by omega) (by omega) (Or.inl (by decide))) (sc.1 t ht).1, paT 896 t _ (by decide) (by omega) (kE896 ok hs ht) (ok.so.ne2 (by decide) (by decide) (by omega) (by omega) (Or.inl (by decide))) (sc.1 t ht).2⟩, fun t ht => ⟨ouT 897 t _ (by decide) (by omega) (kE897 ok hs ht) (ok.so.ne2 (by decide) (by decide) (by omega) (by omega) (Or.inl (by decide))) (sc.2.1 t ht).1, fun j hj => ?_⟩, fun t ht => ?_, ?_⟩
          · have kd := kE898 ok hs ht
            rw [e120]
            show AI h112 _ j = _
            rw [m112.ai ok109 ⟨by omega, by omega⟩ (OA.no ok109 ksp (by omega)), m109.ai okg ⟨by omega, by omega⟩ (F1 898 t (by decide) (by omega)).1, N.ai okb ⟨by omega, by omega⟩ (F1 898 t (by decide) (by omega)).1, N0.ai ok ⟨by omega, by omega⟩ (Ng 898 t (by decide) (by omega)).1]
            exact (sc.2.1 t ht).2 j hj
          · rw [e120]
            show AI h112 _ t = _
            rw [m112.ai ok109 ⟨by omega, by omega⟩ (OA.no ok109 ksp (by omega)), m109.ai okg ⟨by omega, by omega⟩ (ok.so.ou (by decide) (by decide) (Or.inl (by decide))), N.ai okb ⟨by omega, by omega⟩ (ok.so.ou (by decide) (by decide) (Or.inl (by decide))), N0.ai ok ⟨by omega, by omega⟩ (ok.so.pT (by decide))]
            exact sc.2.2.1 t ht
          · rw [c3]
            refine ⟨fun j => if j = i then σ p else if p ≤ j ∧ j < i then σ (j + 1) else σ j, fun j hj => ?_, fun j t hj ht e => ?_, ?_, by rw [le]; omega, q4, fun j hj => ?_⟩
            · rw [ARf]
              by_cases q : j = i
              · simp only [q, if_true]; exact ⟨hsp, trivial⟩
              · simp only [q, if_false]; rw [i4 j hj]
                by_cases q2 : p ≤ j ∧ j < i
                · simp only [q2, and_self, if_true]; exact s1 (j + 1) (by omega)
                · simp only [q2, if_false]; exact s1 j hj
            · dsimp only at e
              have key : ∀ j, j < sL S (sT S 900 s) → ∃ t, t < sL S (sT S 900 s) ∧ (if j = i then σ p else if p ≤ j ∧ j < i then σ (j + 1) else σ j) = σ t ∧ t = (if j = i then p else if p ≤ j ∧ j < i then j + 1 else j) := fun j hj => by
                by_cases q : j = i
                · exact ⟨p, by omega, by rw [if_pos q], by rw [if_pos q]⟩
                · by_cases q2 : p ≤ j ∧ j < i
                  · exact ⟨j + 1, by omega, by rw [if_neg q, if_pos q2], by rw [if_neg q, if_pos q2]⟩
                  · exact ⟨j, hj, by rw [if_neg q, if_neg q2], by rw [if_neg q, if_neg q2]⟩
              obtain ⟨t1, t2, t3, t4⟩ := key j hj
              obtain ⟨u1, u2, u3, u4⟩ := key t ht
              rw [t3, u3] at e
              have z := s2 t1 u1 t2 u2 e
              rw [t4, u4] at z
              (repeat' split at z) <;> omega
            · rw [le, e120]
              show FI h112 901 s = _
              rw [m112.fi ok109 (by omega) (OA.no ok109 ksp (by omega)) 901, m109.fi okg (by omega) (fun z => ok.so.pT (by decide) z.symm) 901, N.fi okb (by omega) (fun z => ok.so.pT (by decide) z.symm) 901, c1]
            · rw [le] at hj
              have eK : kK (ks.eraseIdx p ++ [(x, v)]) j = if j = i then x else if j < p then kK ks j else kK ks (j + 1) := by
                unfold kK
                rw [getD_snoc, getD_erase]
                rw [show (ks.eraseIdx p).length = i by rw [List.length_append] at le; simp at le; omega]
                (repeat' split) <;> rfl
              have eO : kO (ks.eraseIdx p ++ [(x, v)]) j = if j = i then v else if j < p then kO ks j else kO ks (j + 1) := by
                unfold kO
                rw [getD_snoc, getD_erase]
                rw [show (ks.eraseIdx p).length = i by rw [List.length_append] at le; simp at le; omega]
                (repeat' split) <;> rfl
              rw [eK, eO]
              by_cases q : j = i
              · simp only [q, if_true]
                refine ⟨?_, e112_1.m1 ok112 m120 ksp ?_ ?_ ?_ ?_⟩
                · rw [e120, FL_sFL, if_pos ⟨rfl, rfl⟩]
                · exact fun z => ok.so.pT (by decide) z
                · exact fun z => ok.so.pT (by decide) z
                · exact fun z => ok.so.pT (by decide) z
                · rw [e120]; rfl
              · simp only [q, if_false]
                have sb := s1 (j + 1) (by omega)
                have sj := s1 j (by omega)
                have ne : ∀ u, u < sL S (sT S 900 s) → u ≠ p → sE S (sT S 900 s) (σ u) ≠ sE S (sT S 900 s) (σ p) := fun u hu nu z => by
                  have su := (s1 u hu).1
                  exact nu (s2 u p hu (by omega) ((ok.so.injE (by omega) (by omega)).mp z).2)
                by_cases q2 : j < p
                · have q3n : ¬ (p ≤ j ∧ j < i) := by omega
                  simp only [q3n, q2, if_true, if_false]
                  obtain ⟨d1, d2⟩ := q3 j (by omega)
                  exact ⟨(flT 900 (σ j) (by decide) (by omega) (k900 ok hs sj.1) (ne j (by omega) (by omega))).trans d1, ouT 900 (σ j) _ (by decide) (by omega) (k900 ok hs sj.1) (ne j (by omega) (by omega)) d2⟩
                · have q3n : p ≤ j ∧ j < i := by omega
                  simp only [q3n, q2, and_self, if_true, if_false]
                  obtain ⟨d1, d2⟩ := q3 (j + 1) (by omega)
                  exact ⟨(flT 900 (σ (j + 1)) (by decide) (by omega) (k900 ok hs sb.1) (ne (j + 1) (by omega) (by omega))).trans d1, ouT 900 (σ (j + 1)) _ (by decide) (by omega) (k900 ok hs sb.1) (ne (j + 1) (by omega) (by omega)) d2⟩
        · have hil : i + 1 < c := by omega
          have i4f := i4 (i + 1) (by omega)
          rw [if_neg (show ¬ (p ≤ i + 1 ∧ i + 1 < i) by omega)] at i4f
          have sf1 := (s1 (i + 1) (by omega)).1
          refine w_aload_n d133_76 rfl ?_
          refine w_dloadS d133_77 (okg.kd hs) (fr900 okg hs) ?_
          refine w_iload d133_80 rfl ?_
          refine w_aload_n d133_82 rfl ?_
          refine w_dloadS d133_83 (okg.kd hs) (fr900 okg hs) ?_
          refine w_iload d133_86 rfl ?_
          refine w_iconst d133_88 (by decide) ?_
          refine w_iadd d133_89 (by constructor <;> omega) ?_
          rw [show (((i : Nat) : Int) + 1) = ((i + 1 : Nat) : Int) by omega]
          refine w_aaloadS d133_90 ⟨by rw [okg.kd K900]; decide, by rw [(okg.st.1 _ (by omega)).2]; exact ⟨by omega, by omega⟩⟩ (i4f.trans (s1 (i + 1) (by omega)).2) ?_
          refine p_AR (f := 900) (i := σ (i + 1)) (n := sL S (sT S 900 s)) (e := 3) d133_91 okg hs rfl (by decide) rfl sf1 (by omega) (fun h91 e91 m91 => ?_)
          have e91 : h91 = sAR g (sT S 900 s) i (some (sE S (sT S 900 s) ((σ (i + 1))))) := e91
          have ok91 := m91.ok
          have M91 := Mo.tr ok Mg m91 (fun x e => (e ▸ (ok.so.uT (by decide) U_refl)))
          refine w_iinc4 d133_92 rfl (by constructor <;> omega) ?_
          refine w_goto d133_95 ?_
          refine w_less ?_ (IH65 _ (by omega) h91 (i + 1) rfl M91 (by omega) (by omega) (N.tr okb m91 (fun x e => e)) (fun j hj => by
                  have b := i4 j hj
                  rw [e91, AR_sAR]
                  by_cases q : j = i
                  · rw [if_pos ⟨rfl, q⟩, if_pos (by omega), q]; exact (s1 (i + 1) (by omega)).2.symm
                  · rw [if_neg (fun z => q z.2), b]
                    have e1 : (if p ≤ j ∧ j < i + 1 then j + 1 else j) = (if p ≤ j ∧ j < i then j + 1 else j) := by split <;> split <;> omega
                    rw [e1]))
          exact ⟨Or.inr rfl, Or.inr rfl, Or.inr rfl, Or.inr rfl, Or.inr rfl, trivial⟩
      refine w_less ?_ (L65 _ b p rfl Mb (Nat.le_refl _) (by omega) (Mo.refl okb) (fun j hj => by rw [ARb, if_neg (show ¬ (p ≤ j ∧ j < p) by omega)]))
      exact ⟨Or.inr rfl, Or.inr rfl, Or.inr rfl, Or.inr rfl, Or.inr rfl, trivial⟩
    refine w_istore2 d133_17 rfl ?_
    refine w_iload_n d133_18 rfl ?_
    refine w_ifge d133_19 (fun c19 => ?_) (fun c19 => ?_)
    · have hk : 0 ≤ kfd ks x := by omega
      refine w_iload_n d133_49 rfl ?_
      refine w_iconst d133_50 (by decide) ?_
      refine w_max d133_51 (by refine ⟨by simp, ?_⟩; omega) ?_
      rw [show (if kfd ks x < 0 then (0 : Int) else kfd ks x) = (((kfd ks x).toNat : Nat) : Int) by rw [if_neg (by omega)]; omega]
      refine w_istore2 d133_54 rfl ?_
      have M0_ := Mo.refl (A := (fun x => U S s x)) ok
      refine w_less ?_ (L55 _ h (kfd ks x).toNat ks.length rfl M0_ (Mo.refl ok) q1 ⟨by omega, by omega⟩ (by unfold kpL; rw [if_neg hL, if_pos hk]) (Or.inr ⟨by omega, rfl⟩))
      exact ⟨Or.inr rfl, Or.inr rfl, Or.inr rfl, Or.inl rfl, Or.inl rfl, trivial⟩
    · have hk : ¬ 0 ≤ kfd ks x := by omega
      refine w_aload_n d133_22 rfl ?_
      refine w_getI (x := ((ks.length : Nat) : Int)) d133_23 (ok.kd hs) q1 ?_
      refine w_aload_n d133_26 rfl ?_
      refine w_dloadS d133_27 (ok.kd hs) (fr900 ok hs) ?_
      refine w_arraylength d133_30 (by rw [ok.kd K900]; decide) ?_
      rw [(ok.st.1 (sT S 900 s) (by omega)).2]
      refine w_icmpge d133_31 (fun c31 => ?_) (fun c31 => ?_)
      · have hc : ¬ ks.length < sL S (sT S 900 s) := by omega
        refine w_iload_n d133_49 rfl ?_
        refine w_iconst d133_50 (by decide) ?_
        refine w_max d133_51 (by refine ⟨by simp, ?_⟩; omega) ?_
        rw [show (if kfd ks x < 0 then (0 : Int) else kfd ks x) = ((0 : Nat) : Int) by rw [if_pos (by omega)]; rfl]
        refine w_istore2 d133_54 rfl ?_
        have M0_ := Mo.refl (A := (fun x => U S s x)) ok
        refine w_less ?_ (L55 _ h 0 ks.length rfl M0_ (Mo.refl ok) q1 ⟨by omega, by omega⟩ (by unfold kpL; rw [if_neg hL, if_neg hk, if_neg hc]) (Or.inr ⟨by omega, rfl⟩))
        exact ⟨Or.inr rfl, Or.inr rfl, Or.inr rfl, Or.inl rfl, Or.inl rfl, trivial⟩
      · have hc : ks.length < sL S (sT S 900 s) := by omega
        refine w_aload_n d133_34 rfl ?_
        refine w_getI (x := ((ks.length : Nat) : Int)) d133_35 (ok.kd hs) q1 ?_
        refine w_istore2 d133_38 rfl ?_
        refine w_aload_n d133_39 rfl ?_
        refine w_dupR d133_40 ?_
        refine w_getI (x := ((ks.length : Nat) : Int)) d133_41 (ok.kd hs) q1 ?_
        refine w_iconst d133_44 (by decide) ?_
        refine w_iadd d133_45 (by constructor <;> omega) ?_
        refine wf901 d133_46 ok hs (by omega) (fun h46 e46 m46 => ?_)
        have ok46 := m46.ok
        have M46 := Mo.tr ok (Mo.refl (A := (fun x => U S s x)) ok) m46 (fun x e => (e ▸ U_refl))
        refine w_iload_n d133_49 rfl ?_
        refine w_iconst d133_50 (by decide) ?_
        refine w_max d133_51 (by refine ⟨by simp, ?_⟩; omega) ?_
        rw [show (if ((ks.length : Nat) : Int) < 0 then (0 : Int) else ((ks.length : Nat) : Int)) = ((ks.length : Nat) : Int) by rw [if_neg (by omega)]]
        refine w_istore2 d133_54 rfl ?_
        refine w_less ?_ (L55 _ h46 ks.length (ks.length + 1) rfl M46 m46 (by rw [e46, FI_sFI, if_pos ⟨rfl, rfl⟩]; omega) ⟨by omega, by omega⟩ (by unfold kpL; rw [if_neg hL, if_neg hk, if_pos hc, List.eraseIdx_of_length_le (Nat.le_refl _)]) (Or.inl ⟨rfl, rfl⟩))
        exact ⟨Or.inr rfl, Or.inr rfl, Or.inr rfl, Or.inl rfl, Or.inl rfl, trivial⟩
  · refine w_return d133_8 ?_
    have sc2 := sc
    rw [show kpL (sL S (sT S 900 s)) ks x v = ks by unfold kpL; rw [if_pos (by omega)]] at kk
    exact kk h (Mo.refl ok) sc
