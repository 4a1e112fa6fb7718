/-! the store: a release -/
/-- each line of the one is in the other -/
def hasL (a b : List Nat) : Prop := ∀ t ∈ lns a, t ∈ lns b

/-- what goes up by one; 3: nothing -/
def relU (o n : OutV) : Nat := if o.1 = false then 0 else if ¬ (∀ t ∈ lns (oF o), t ∈ lns (oF n)) then 0 else if ¬ (∀ t ∈ lns (oF n), t ∈ lns (oF o)) then 1 else if oO n ≠ oO o then 2 else 3
def relE (o n : OutV) (e : Nat → Nat) : Nat → Nat := fun i => if i < relU o n then (if o.1 = false then 0 else e i) else if i = relU o n then (if o.1 = false then 0 else e i) + 1 else 0
def relTxt (o n : OutV) (e : Nat → Nat) : List Nat := (if relU o n = 3 then txt 9 else []) ++ ediTxt (relE o n e) 3
def upO {α : Type} (f : Nat → α) (j : Nat) (x : α) : Nat → α := fun i => if i = j then x else f i
theorem OFr.or {S : Shp} {A B : Nat → Prop} {a : Nat} (p : OFr A S a) (q : OFr B S a) : OFr (fun y => A y ∨ B y) S a := ⟨fun z => z.elim p.1 q.1, fun f f1 f2 z => z.elim (p.2 f f1 f2) (q.2 f f1 f2)⟩
theorem OFr.e898 {S : Shp} (so : SOk S) {s n f t : Nat} (hf : f < 4096 ∧ f ≠ 898) (hn : n < 4096) (ht : t < 4096) : OFr (fun y => y = sE S (sT S 898 s) n) S (sE S (sT S f s) t) := ⟨so.ne2 hf.1 (by decide) ht hn (Or.inl hf.2), fun g _ g2 z => so.neE (by omega) hn z⟩
theorem OFr.row {S : Shp} (so : SOk S) {s r f t : Nat} (h : ¬ U S s r) (hf : f < 4096) (ht : t < 4096) : OFr (fun y => y = r) S (sE S (sT S f s) t) := ⟨fun z => h (z ▸ so.uE ht (so.uT hf U_refl)), fun g _ g2 z => h (z ▸ so.uT (by omega) (so.uE ht (so.uT hf U_refl)))⟩
theorem we898 {S : Shp} {G : Nat → Option Nat} {h : Hp} {d k pc pc' s n i b : Nat} {x : Int} {ls : List (Option MV)} {st : List MV} {Q : Option MV → Hp → Prop} (hd : dc k pc = some (.iastore, pc')) (ok : Ok S h) (hb : b = sE S (sT S 898 s) n) (hs : sK S s = 8) (hn : n < 14) (hi : i < 3) (hr : 0 ≤ x ∧ x ≤ 2147483647)
    (kk : ∀ h', h' = sAI h b i x → Mo S (fun y => y = b) h h' → Wp G d k pc' ls st h' Q) : Wp G d k pc ls (vI x :: vI (i : Nat) :: vR (some b) :: st) h Q := by
  subst hb
  exact w_iastore hd ⟨ok.kd (kE898 ok hs hn), (g_e898 ok hs hn hi).2⟩ (kk _ rfl (Mo.pAE ok hs hn hr))
theorem k_Arrays_fillE {S : Shp} {G : Nat → Option Nat} {d : Nat} {h : Hp} {Q : Option MV → Hp → Prop} {arr : Nat} {v : Int} {s n : Nat} (ok : Ok S h) (h1 : 0 ≤ d)  (hb : arr = sE S (sT S 898 s) n) (hs : sK S s = 8) (hn : n < 14) (hr : 0 ≤ v ∧ v ≤ 2147483647)
    (kk : ∀ h', Mo S (fun y => y = arr) h h' → (∀ j, j < 3 → AI h' arr j = v) → Q none h') : Cl G d 58 [vR (some arr), vI v] h Q := by
  show Wp G d 58 0 [some (vR (some arr)), some (vI v), none, none] [] h Q
  have kn : sK S arr = 40 := by rw [hb]; exact kE898 ok hs hn
  refine w_iconst d58_0 (by decide) ?_
  refine w_istore2 d58_1 rfl ?_
  refine w_aload_n d58_2 rfl ?_
  refine w_arraylength d58_3 (by rw [ok.kd kn]; decide) ?_
  rw [show LN h arr = 3 from (ok.st.1 _ (by omega)).2.trans (by rw [hb]; exact l898 ok hs hn)]
  refine w_istore3 d58_4 rfl ?_
  have L5 : ∀ (m5 : Nat) (g : Hp) (i : Nat), 3 - i = m5 → Mo S (fun x => x = arr) h g → (i ≤ 3) → (∀ j, j < i → AI g arr j = v) → Wp G d 58 5 [some (vR (some arr)), some (vI v), some (vI (i : Nat)), some (vI 3)] [] g Q := by
    intro m5
    induction m5 using Nat.strongRecOn with | ind m5 IH5 => ?_
    intro g i hm5 Mg i1 i2
    have okg := Mg.ok
    refine w_iload_n d58_5 rfl ?_
    refine w_iload_n d58_6 rfl ?_
    refine w_icmpge d58_7 (fun c7 => ?_) (fun c7 => ?_)
    · refine w_return d58_20 ?_
      exact kk g Mg (fun j hj => i2 j (by omega))
    · refine w_aload_n d58_10 rfl ?_
      refine w_iload_n d58_11 rfl ?_
      refine w_iload_n d58_12 rfl ?_
      refine we898 d58_13 okg hb hs hn (i := i) (by omega) hr (fun h13 e13 m13 => ?_)
      have e13 : h13 = sAI g arr i v := e13
      have ok13 := m13.ok
      have M13 := Mo.tr ok Mg m13 (fun x e => e)
      refine w_iinc2 d58_14 rfl (by constructor <;> omega) ?_
      refine w_goto d58_17 ?_
      refine w_less ?_ (IH5 _ (by omega) h13 (i + 1) rfl M13 (by omega) (fun j hj => by rw [e13, sArr]; split; rfl; exact i2 j (by omega)))
      exact ⟨Or.inr rfl, Or.inr rfl, Or.inr rfl, Or.inr rfl, trivial⟩
  have M0_ := Mo.refl (A := (fun x => x = arr)) ok
  refine w_less ?_ (L5 _ h 0 rfl M0_ (by omega) (fun j hj => by omega))
  exact ⟨Or.inr rfl, Or.inr rfl, Or.inr rfl, Or.inr rfl, trivial⟩
theorem d138_0 : dc 138 0 = some (.aload_n 0, 1) := by decide +kernel
theorem d138_1 : dc 138 1 = some (.iload_n 1, 2) := by decide +kernel
theorem d138_2 : dc 138 2 = some (.invokevirtual 80, 5) := by decide +kernel
theorem d138_5 : dc 138 5 = some (.ifCond .ne ((9 : Nat) : Int), 8) := by decide +kernel
theorem d138_9 : dc 138 9 = some (.aload_n 0, 10) := by decide +kernel
theorem d138_10 : dc 138 10 = some (.dload 896, 13) := by decide +kernel
theorem d138_13 : dc 138 13 = some (.iload_n 1, 14) := by decide +kernel
theorem d138_14 : dc 138 14 = some (.aaload, 15) := by decide +kernel
theorem d138_15 : dc 138 15 = some (.astore_n 3, 16) := by decide +kernel
theorem d138_16 : dc 138 16 = some (.aload_n 0, 17) := by decide +kernel
theorem d138_17 : dc 138 17 = some (.dload 897, 20) := by decide +kernel
theorem d138_20 : dc 138 20 = some (.iload_n 1, 21) := by decide +kernel
theorem d138_21 : dc 138 21 = some (.aaload, 22) := by decide +kernel
theorem d138_22 : dc 138 22 = some (.astore 4, 24) := by decide +kernel
theorem d138_24 : dc 138 24 = some (.aload_n 0, 25) := by decide +kernel
theorem d138_25 : dc 138 25 = some (.dload 898, 28) := by decide +kernel
theorem d138_28 : dc 138 28 = some (.iload_n 1, 29) := by decide +kernel
theorem d138_29 : dc 138 29 = some (.aaload, 30) := by decide +kernel
theorem d138_30 : dc 138 30 = some (.astore 5, 32) := by decide +kernel
theorem d138_32 : dc 138 32 = some (.iconst 3, 33) := by decide +kernel
theorem d138_33 : dc 138 33 = some (.istore 6, 35) := by decide +kernel
theorem d138_35 : dc 138 35 = some (.aload 4, 37) := by decide +kernel
theorem d138_37 : dc 138 37 = some (.getfield 256, 40) := by decide +kernel
theorem d138_40 : dc 138 40 = some (.ifCond .ne ((55 : Nat) : Int), 43) := by decide +kernel
theorem d138_43 : dc 138 43 = some (.aload 5, 45) := by decide +kernel
theorem d138_45 : dc 138 45 = some (.iconst 0, 46) := by decide +kernel
theorem d138_46 : dc 138 46 = some (.invokevirtual 58, 49) := by decide +kernel
theorem d138_49 : dc 138 49 = some (.iconst 0, 50) := by decide +kernel
theorem d138_50 : dc 138 50 = some (.istore 6, 52) := by decide +kernel
theorem d138_52 : dc 138 52 = some (.goto ((124 : Nat) : Int), 55) := by decide +kernel
theorem d138_55 : dc 138 55 = some (.aload_n 3, 56) := by decide +kernel
theorem d138_56 : dc 138 56 = some (.dload 258, 59) := by decide +kernel
theorem d138_59 : dc 138 59 = some (.aload 4, 61) := by decide +kernel
theorem d138_61 : dc 138 61 = some (.dload 258, 64) := by decide +kernel
theorem d138_64 : dc 138 64 = some (.invokevirtual 139, 67) := by decide +kernel
theorem d138_67 : dc 138 67 = some (.ifCond .ne ((76 : Nat) : Int), 70) := by decide +kernel
theorem d138_70 : dc 138 70 = some (.iconst 0, 71) := by decide +kernel
theorem d138_71 : dc 138 71 = some (.istore 6, 73) := by decide +kernel
theorem d138_73 : dc 138 73 = some (.goto ((124 : Nat) : Int), 76) := by decide +kernel
theorem d138_76 : dc 138 76 = some (.aload 4, 78) := by decide +kernel
theorem d138_78 : dc 138 78 = some (.dload 258, 81) := by decide +kernel
theorem d138_81 : dc 138 81 = some (.aload_n 3, 82) := by decide +kernel
theorem d138_82 : dc 138 82 = some (.dload 258, 85) := by decide +kernel
theorem d138_85 : dc 138 85 = some (.invokevirtual 139, 88) := by decide +kernel
theorem d138_88 : dc 138 88 = some (.ifCond .ne ((97 : Nat) : Int), 91) := by decide +kernel
theorem d138_91 : dc 138 91 = some (.iconst 1, 92) := by decide +kernel
theorem d138_92 : dc 138 92 = some (.istore 6, 94) := by decide +kernel
theorem d138_94 : dc 138 94 = some (.goto ((124 : Nat) : Int), 97) := by decide +kernel
theorem d138_97 : dc 138 97 = some (.aload_n 3, 98) := by decide +kernel
theorem d138_98 : dc 138 98 = some (.dload 257, 101) := by decide +kernel
theorem d138_101 : dc 138 101 = some (.aload 4, 103) := by decide +kernel
theorem d138_103 : dc 138 103 = some (.dload 257, 106) := by decide +kernel
theorem d138_106 : dc 138 106 = some (.invokevirtual 141, 109) := by decide +kernel
theorem d138_109 : dc 138 109 = some (.ifCond .ne ((118 : Nat) : Int), 112) := by decide +kernel
theorem d138_112 : dc 138 112 = some (.iconst 2, 113) := by decide +kernel
theorem d138_113 : dc 138 113 = some (.istore 6, 115) := by decide +kernel
theorem d138_115 : dc 138 115 = some (.goto ((124 : Nat) : Int), 118) := by decide +kernel
theorem d138_118 : dc 138 118 = some (.aload_n 2, 119) := by decide +kernel
theorem d138_119 : dc 138 119 = some (.getstatic 59, 121) := by decide +kernel
theorem d138_121 : dc 138 121 = some (.invokevirtual 84, 124) := by decide +kernel
theorem d138_124 : dc 138 124 = some (.iload 6, 126) := by decide +kernel
theorem d138_126 : dc 138 126 = some (.istore 7, 128) := by decide +kernel
theorem d138_128 : dc 138 128 = some (.iload 7, 130) := by decide +kernel
theorem d138_130 : dc 138 130 = some (.aload 5, 132) := by decide +kernel
theorem d138_132 : dc 138 132 = some (.arraylength, 133) := by decide +kernel
theorem d138_133 : dc 138 133 = some (.if_icmp .ge ((165 : Nat) : Int), 136) := by decide +kernel
theorem d138_136 : dc 138 136 = some (.aload 5, 138) := by decide +kernel
theorem d138_138 : dc 138 138 = some (.iload 7, 140) := by decide +kernel
theorem d138_140 : dc 138 140 = some (.iload 7, 142) := by decide +kernel
theorem d138_142 : dc 138 142 = some (.iload 6, 144) := by decide +kernel
theorem d138_144 : dc 138 144 = some (.if_icmp .ne ((157 : Nat) : Int), 147) := by decide +kernel
theorem d138_147 : dc 138 147 = some (.aload 5, 149) := by decide +kernel
theorem d138_149 : dc 138 149 = some (.iload 7, 151) := by decide +kernel
theorem d138_151 : dc 138 151 = some (.iaload, 152) := by decide +kernel
theorem d138_152 : dc 138 152 = some (.iconst 1, 153) := by decide +kernel
theorem d138_153 : dc 138 153 = some (.iadd, 154) := by decide +kernel
theorem d138_154 : dc 138 154 = some (.goto ((158 : Nat) : Int), 157) := by decide +kernel
theorem d138_157 : dc 138 157 = some (.iconst 0, 158) := by decide +kernel
theorem d138_158 : dc 138 158 = some (.iastore, 159) := by decide +kernel
theorem d138_159 : dc 138 159 = some (.iinc 7 1, 162) := by decide +kernel
theorem d138_162 : dc 138 162 = some (.goto ((128 : Nat) : Int), 165) := by decide +kernel
theorem d138_165 : dc 138 165 = some (.aload 4, 167) := by decide +kernel
theorem d138_167 : dc 138 167 = some (.aload_n 3, 168) := by decide +kernel
theorem d138_168 : dc 138 168 = some (.invokevirtual 111, 171) := by decide +kernel
theorem d138_171 : dc 138 171 = some (.aload_n 0, 172) := by decide +kernel
theorem d138_172 : dc 138 172 = some (.iload_n 1, 173) := by decide +kernel
theorem d138_173 : dc 138 173 = some (.aload_n 2, 174) := by decide +kernel
theorem d138_174 : dc 138 174 = some (.invokevirtual 142, 177) := by decide +kernel
theorem d138_177 : dc 138 177 = some (.return_, 178) := by decide +kernel
theorem k_St_release {S : Shp} {G : Nat → Option Nat} {d : Nat} {h : Hp} {Q : Option MV → Hp → Prop} {s : Nat} {n : Nat} {r : Nat}  (ok : Ok S h) (h1 : 6 ≤ d) (hs : sK S s = 8) (hr : sK S r = 6) (tg : Tg S G) {pu : Nat → OutV} {pp : Nat → List Int64} {re : Nat → OutV} {ed : Nat → Nat → Nat} {ra : Nat → Nat} {ks : List (Int64 × OutV)} (sc : StC S h s pu pp re ed ra ks) (hn : n < 14) (hpn : (pu n).1 = true) (he : ∀ i, i < 3 → ed n i < 2147483647) (hsr : ¬ U S s r)
    (kk : ∀ h', Mo S (fun y => U S s y ∨ y = r) h h' → StC S h' s pu pp (upO re n (pu n)) (upO ed n (relE (re n) (pu n) (ed n))) ra ks → rl h' r = addBs (cap h r) (rl h r) (relTxt (re n) (pu n) (ed n)) → cap h' r = cap h r → Q none h') : Cl G d 138 [vR (some s), vI (n : Nat), vR (some r)] h Q := by
  show Wp G d 138 0 [some (vR (some s)), some (vI (n : Nat)), some (vR (some r)), none, none, none, none, none] [] h Q
  obtain ⟨ob, -⟩ := sc.1 n hn
  obtain ⟨oo, E⟩ := sc.2.1 n hn
  have kp := kE896 ok hs hn
  have kr := kE897 ok hs hn
  have kn := kE898 ok hs hn
  have nEr : ∀ j, j < 4096 → sE S (sT S 898 s) j ≠ r := fun j hj z => hsr (z ▸ ok.so.uE hj (ok.so.uT (by decide) U_refl))
  obtain ⟨b1, b2, b3, b4, b5, b6, b7⟩ := ob
  obtain ⟨o1, o2, o3, o4, o5, o6, o7⟩ := oo
  have npr : (sE S (sT S 897 s) n) ≠ (sE S (sT S 896 s) n) := ok.so.ne2 (by decide) (by decide) (by omega) (by omega) (Or.inl (by decide))
  have nf : ∀ f g j, f < 4096 → g < 4096 → j < 4096 → sE S (sT S f s) j ≠ r ∧ sT S g (sE S (sT S f s) j) ≠ r := fun f g j hf hg hj => ⟨fun z => hsr (z ▸ ok.so.uE hj (ok.so.uT hf U_refl)), fun z => hsr (z ▸ ok.so.uT hg (ok.so.uE hj (ok.so.uT hf U_refl)))⟩
  refine w_aload_n d138_0 rfl ?_
  refine w_iload_n d138_1 rfl ?_
  refine w_callv2 d138_2 (by omega) rfl (ok.kd hs) (by simp) (Nat.le_of_ble_eq_true rfl) ?_
  refine k_St_hasPut ok (by omega) hs sc ?_
  refine w_ifne d138_5 (fun c5 => ?_) (fun c5 => ?_)
  · refine w_aload_n d138_9 rfl ?_
    refine w_dloadS d138_10 (ok.kd hs) (fr896 ok hs) ?_
    refine w_iload_n d138_13 rfl ?_
    have k14 := kE896 ok hs (j := n) (by omega)
    refine w_aaloadSN d138_14 (gi896 ok hs (by omega)) (er896 ok hs (by omega)) ?_
    refine w_astore3 d138_15 rfl ?_
    refine w_aload_n d138_16 rfl ?_
    refine w_dloadS d138_17 (ok.kd hs) (fr897 ok hs) ?_
    refine w_iload_n d138_20 rfl ?_
    have k21 := kE897 ok hs (j := n) (by omega)
    refine w_aaloadSN d138_21 (gi897 ok hs (by omega)) (er897 ok hs (by omega)) ?_
    refine w_astore4 d138_22 rfl ?_
    have L124 : ∀ (m124 : Nat) (b : Hp) , 0 = m124 → Mo S (fun x => U S s x ∨ x = r) h b → (Mo S (fun y => y = (sE S (sT S 898 s) n) ∨ y = r) h b) → (∀ j, j < 3 → AI b (sE S (sT S 898 s) n) j = ((fun j => if (re n).1 = false then 0 else ed n j) j : Nat)) → (rl b r = addBs (cap h r) (rl h r) (if relU (re n) (pu n) = 3 then txt 9 else [])) → (cap b r = cap h r) → Wp G d 138 124 [some (vR (some s)), some (vI (n : Nat)), some (vR (some r)), some (vR (some (sE S (sT S 896 s) n))), some (vR (some (sE S (sT S 897 s) n))), some (vR (some (sE S (sT S 898 s) n))), some (vI (relU (re n) (pu n) : Nat)), none] [] b Q := by
      intro m124
      induction m124 using Nat.strongRecOn with | ind m124 IH124 => ?_
      intro b  hm124 Mb N0 c1 c2 c3
      have okb := Mb.ok
      have u3 : relU (re n) (pu n) ≤ 3 := by unfold relU; (repeat' split) <;> omega
      refine w_iload d138_124 rfl ?_
      refine w_istore7 d138_126 rfl ?_
      have L128 : ∀ (m128 : Nat) (g : Hp) (i : Nat), 3 - i = m128 → Mo S (fun x => U S s x ∨ x = r) h g → (relU (re n) (pu n) ≤ i) → (i ≤ 3) → (Mo S (fun y => y = (sE S (sT S 898 s) n)) b g) → (∀ j, j < 3 → AI g (sE S (sT S 898 s) n) j = ((if relU (re n) (pu n) ≤ j ∧ j < i then (if j = relU (re n) (pu n) then (fun j => if (re n).1 = false then 0 else ed n j) j + 1 else 0) else (fun j => if (re n).1 = false then 0 else ed n j) j : Nat) : Int)) → Wp G d 138 128 [some (vR (some s)), some (vI (n : Nat)), some (vR (some r)), some (vR (some (sE S (sT S 896 s) n))), some (vR (some (sE S (sT S 897 s) n))), some (vR (some (sE S (sT S 898 s) n))), some (vI (relU (re n) (pu n) : Nat)), some (vI (i : Nat))] [] g Q := by
        intro m128
        induction m128 using Nat.strongRecOn with | ind m128 IH128 => ?_
        intro g i hm128 Mg i1 i2 N i4
        have okg := Mg.ok
        refine w_iload d138_128 rfl ?_
        refine w_aload d138_130 rfl ?_
        refine w_arraylength d138_132 (by rw [okg.kd kn]; decide) ?_
        rw [show LN g (sE S (sT S 898 s) n) = 3 from (okg.st.1 _ (by omega)).2.trans (l898 ok hs hn)]
        refine w_icmpge d138_133 (fun c133 => ?_) (fun c133 => ?_)
        · refine w_aload d138_165 rfl ?_
          refine w_aload_n d138_167 rfl ?_
          refine w_callv2 d138_168 (by omega) rfl (okg.kd kr) (by simp) (Nat.le_of_ble_eq_true rfl) ?_
          have og : OuC S g (sE S (sT S 896 s) n) (pu n) := (OuC.f ok N0 kp ⟨by rintro (z | z); exact absurd z (ok.so.ne2 (by decide) (by decide) (by omega) (by omega) (Or.inl (by decide))); exact (nf 896 0 n (by decide) (by decide) (by omega)).1 z, fun f f1 f2 z => z.elim (fun z => ok.so.neE (by omega) (by omega) z) (fun z => (nf 896 f n (by decide) (by omega) (by omega)).2 z)⟩ (sc.1 n hn).1).f okb N kp ⟨ok.so.ne2 (by decide) (by decide) (by omega) (by omega) (Or.inl (by decide)), fun f f1 f2 z => ok.so.neE (by omega) (by omega) z⟩
          refine k_Ou_takeResult okg (by omega) kr kp og npr (fun h168 m168 e168_1 e168_2 e168_3 => ?_)
          have ok168 := m168.ok
          have M168 := Mo.tr ok Mg m168 (fun x q => (Or.inl (U_trans (ok.so.uE (by omega) (ok.so.uT (by decide) U_refl)) (q.u ok.so))))
          refine w_aload_n d138_171 rfl ?_
          refine w_iload_n d138_172 rfl ?_
          refine w_aload_n d138_173 rfl ?_
          refine w_callv3 d138_174 (by omega) rfl (ok168.kd hs) (by simp) (Nat.le_of_ble_eq_true rfl) ?_
          have nEr0 := nEr n (by omega)
          have l24 : sL S (sT S 900 s) ≤ 24 := sc.2.2.2.choose_spec.2.2.2.2.1
          have K899 := kT899 ok hs
          have K900 := kT900 ok hs
          have noR : ¬ OA S (sE S (sT S 897 s) n) r := fun z => hsr (U_trans (ok.so.uE (by omega) (ok.so.uT (by decide) U_refl)) (z.u ok.so))
          have FO : ∀ f t v, f < 4096 ∧ f ≠ 898 → t < 4096 → sK S (sE S (sT S f s) t) = 3 → (f ≠ 897 ∨ t ≠ n) → OuC S h (sE S (sT S f s) t) v → OuC S h168 (sE S (sT S f s) t) v := fun f t v hf ht k3 ne D => ((D.f ok N0 k3 ((OFr.e898 ok.so hf (by omega) ht).or (OFr.row ok.so hsr hf.1 ht))).f okb N k3 (OFr.e898 ok.so hf (by omega) ht)).f okg m168 k3 (OFr.oa okg kr k3 (ok.so.ne2 (by decide) hf.1 (by omega) ht (ne.elim (fun z => Or.inl (Ne.symm z)) (fun z => Or.inr (Ne.symm z)))))
          have FP : ∀ f t v, f < 4096 ∧ f ≠ 898 → t < 4096 → sK S (sE S (sT S f s) t) = 3 → (f ≠ 897 ∨ t ≠ n) → PaC S h (sE S (sT S f s) t) v → PaC S h168 (sE S (sT S f s) t) v := fun f t v hf ht k3 ne D => ((D.f ok N0 k3 ((OFr.e898 ok.so hf (by omega) ht).or (OFr.row ok.so hsr hf.1 ht))).f okb N k3 (OFr.e898 ok.so hf (by omega) ht)).f okg m168 k3 (OFr.oa okg kr k3 (ok.so.ne2 (by decide) hf.1 (by omega) ht (ne.elim (fun z => Or.inl (Ne.symm z)) (fun z => Or.inr (Ne.symm z)))))
          have SC : StC S h168 s pu pp (upO re n (pu n)) (upO ed n (relE (re n) (pu n) (ed n))) ra ks := by
            refine ⟨fun t ht => ⟨FO 896 t _ (by decide) (by omega) (kE896 ok hs ht) (Or.inl (by decide)) (sc.1 t ht).1, FP 896 t _ (by decide) (by omega) (kE896 ok hs ht) (Or.inl (by decide)) (sc.1 t ht).2⟩, fun t ht => ?_, fun t ht => ?_, ?_⟩
            · unfold upO
              have kd := kE898 ok hs ht
              by_cases q : t = n
              · rw [if_pos q, if_pos q, q]
                refine ⟨e168_1, fun j hj => ?_⟩
                rw [m168.ai okg ⟨by omega, by omega⟩ (OA.no okg kr (by omega)), i4 j hj]
                unfold relE
                have i3' : i = 3 := by omega
                by_cases z1 : j < relU (re n) (pu n)
                · rw [if_neg (by omega), if_pos z1]
                · rw [if_pos (by omega), if_neg z1]
              · rw [if_neg q, if_neg q]
                refine ⟨FO 897 t _ (by decide) (by omega) (kE897 ok hs ht) (Or.inr q) (sc.2.1 t ht).1, fun j hj => ?_⟩
                have ne := ok.so.ne2 (p := s) (f := 898) (g := 898) (by decide) (by decide) (show t < 4096 by omega) (show n < 4096 by omega) (Or.inr q)
                rw [m168.ai okg ⟨by omega, by omega⟩ (OA.no okg kr (by omega)), N.ai okb ⟨by omega, by omega⟩ ne, N0.ai ok ⟨by omega, by omega⟩ (fun z => z.elim ne (nEr t (by omega)))]
                exact (sc.2.1 t ht).2 j hj
            · rw [m168.ai okg ⟨by omega, by omega⟩ (OA.no okg kr (by omega)), N.ai okb ⟨by omega, by omega⟩ (fun z => ok.so.neE (by decide) (by omega) z), N0.ai ok ⟨by omega, by omega⟩ (fun z => z.elim (fun z => ok.so.neE (by decide) (by omega) z) (fun z => by rw [← z] at hr; omega))]
              exact sc.2.2.1 t ht
            · obtain ⟨σ, s1, s2, q1, q2, q4, q3⟩ := sc.2.2.2
              have ns : ¬ s = r := fun z => hsr (z ▸ U_refl)
              refine ⟨σ, fun t ht => ⟨(s1 t ht).1, ?_⟩, s2, ?_, q2, q4, fun t ht => ?_⟩
              · rw [m168.ar okg (by omega) (OA.no okg kr (by omega)), N.ar okb (by omega) (fun z => ok.so.neE (by decide) (by omega) z), N0.ar ok (by omega) (fun z => z.elim (fun z => ok.so.neE (by decide) (by omega) z) (fun z => by rw [← z] at hr; omega))]
                exact (s1 t ht).2
              · rw [m168.fi okg (by omega) (OA.no okg kr (by omega)) 901, N.fi okb (by omega) (fun z => ok.so.pE (by decide) (by omega) z.symm) 901, N0.fi ok (by omega) (fun z => z.elim (fun z => ok.so.pE (by decide) (by omega) z.symm) ns) 901]
                exact q1
              · have st := (s1 t (by omega)).1
                have k3 := k900 ok hs st
                refine ⟨?_, FO 900 (σ t) _ (by decide) (by omega) k3 (Or.inl (by decide)) (q3 t ht).2⟩
                rw [m168.fl okg (by omega) (OFr.oa okg kr k3 (ok.so.ne2 (by decide) (by decide) (by omega) (by omega) (Or.inl (by decide)))).1 262, N.fl okb (by omega) (OFr.e898 ok.so (by decide) (by omega) (by omega)).1 262, N0.fl ok (by omega) ((OFr.e898 ok.so (by decide) (by omega) (by omega)).or (OFr.row ok.so hsr (by decide) (by omega))).1 262]
                exact (q3 t ht).1
          have rT : rl h168 r = addBs (cap h r) (rl h r) (if relU (re n) (pu n) = 3 then txt 9 else []) := by rw [m168.rb okg hr noR, N.rb okb hr (Ne.symm nEr0)]; exact c2
          have cT : cap h168 r = cap h r := by rw [(m168.cp okg hr).2 noR, (N.cp okb hr).2 (Ne.symm nEr0)]; exact c3
          have eT : (if (0 ≤ ((n : Nat) : Int) ∧ ((n : Nat) : Int) < 14) ∧ (upO re n (pu n) (((n : Nat) : Int)).toNat).1 = true then ediTxt (upO ed n (relE (re n) (pu n) (ed n)) (((n : Nat) : Int)).toNat) 3 else txt 4) = ediTxt (relE (re n) (pu n) (ed n)) 3 := by
            rw [if_pos ⟨⟨by omega, by omega⟩, by unfold upO; rw [if_pos (by omega)]; exact hpn⟩]
            unfold upO
            rw [if_pos (by omega)]
          refine k_St_tellEdition (t := (n : Int)) ok168 (by omega) hs hr tg SC hsr (fun h174 m174 e174_1 e174_2 => ?_)
          have ok174 := m174.ok
          have M174 := Mo.tr ok M168 m174 (fun x e => (Or.inr e))
          refine w_return d138_177 ?_
          refine kk h174 M174 (SC.u ok168 m174 hs (fun y u z => hsr (z ▸ u))) ?_ (by rw [e174_2, cT])
          rw [e174_1, rT, cT, addBs3, eT]
          rfl
        · have i4f := i4 i (by omega)
          rw [if_neg (show ¬ (relU (re n) (pu n) ≤ i ∧ i < i) by omega)] at i4f
          have hei := he i (by omega)
          have evb : (fun j => if (re n).1 = false then 0 else ed n j) i < 2147483647 := by dsimp only; split <;> omega
          refine w_aload d138_136 rfl ?_
          refine w_iload d138_138 rfl ?_
          refine w_iload d138_140 rfl ?_
          refine w_iload d138_142 rfl ?_
          refine w_icmpne d138_144 (fun c144 => ?_) (fun c144 => ?_)
          · refine w_iconst d138_157 (by decide) ?_
            refine we898 d138_158 okg rfl hs hn (i := i) (by omega) (by omega) (fun h158 e158 m158 => ?_)
            have e158 : h158 = sAI g (sE S (sT S 898 s) n) i 0 := e158
            have ok158 := m158.ok
            have M158 := Mo.tr ok Mg m158 (fun x e => (Or.inl (e ▸ (ok.so.uE (by omega) (ok.so.uT (by decide) U_refl)))))
            refine w_iinc7 d138_159 rfl (by constructor <;> omega) ?_
            refine w_goto d138_162 ?_
            refine w_less ?_ (IH128 _ (by omega) h158 (i + 1) rfl M158 (by omega) (by omega) (N.tr okb m158 (fun x e => e)) (fun j hj => by
                    rw [e158, sArr]
                    by_cases q : j = i
                    · rw [if_pos q, q, if_pos ⟨i1, by omega⟩]; first | (rw [if_pos (by omega)]; first | done | rfl | omega) | (rw [if_neg (by omega)]; first | done | rfl | omega)
                    · rw [if_neg q, i4 j hj]; by_cases z : relU (re n) (pu n) ≤ j ∧ j < i
                      · rw [if_pos z, if_pos (show relU (re n) (pu n) ≤ j ∧ j < i + 1 from ⟨z.1, by omega⟩)]
                      · rw [if_neg z, if_neg (by omega)]))
            exact ⟨Or.inr rfl, Or.inr rfl, Or.inr rfl, Or.inr rfl, Or.inr rfl, Or.inr rfl, Or.inr rfl, Or.inr rfl, trivial⟩
          · refine w_aload d138_147 rfl ?_
            refine w_iload d138_149 rfl ?_
            refine w_ialoadV (x := (((fun j => if (re n).1 = false then 0 else ed n j) i : Nat) : Int)) d138_151 (g_e898 okg hs hn (by omega)) i4f ?_
            refine w_iconst d138_152 (by decide) ?_
            refine w_iadd d138_153 (by constructor <;> omega) ?_
            refine w_goto d138_154 ?_
            refine we898 d138_158 okg rfl hs hn (i := i) (by omega) (by omega) (fun h158 e158 m158 => ?_)
            have e158 : h158 = sAI g (sE S (sT S 898 s) n) i ((((fun j => if (re n).1 = false then 0 else ed n j) i : Nat) : Int) + 1) := e158
            have ok158 := m158.ok
            have M158 := Mo.tr ok Mg m158 (fun x e => (Or.inl (e ▸ (ok.so.uE (by omega) (ok.so.uT (by decide) U_refl)))))
            refine w_iinc7 d138_159 rfl (by constructor <;> omega) ?_
            refine w_goto d138_162 ?_
            refine w_less ?_ (IH128 _ (by omega) h158 (i + 1) rfl M158 (by omega) (by omega) (N.tr okb m158 (fun x e => e)) (fun j hj => by
                    rw [e158, sArr]
                    by_cases q : j = i
                    · rw [if_pos q, q, if_pos ⟨i1, by omega⟩]; first | (rw [if_pos (by omega)]; first | done | rfl | omega) | (rw [if_neg (by omega)]; first | done | rfl | omega)
                    · rw [if_neg q, i4 j hj]; by_cases z : relU (re n) (pu n) ≤ j ∧ j < i
                      · rw [if_pos z, if_pos (show relU (re n) (pu n) ≤ j ∧ j < i + 1 from ⟨z.1, by omega⟩)]
                      · rw [if_neg z, if_neg (by omega)]))
            exact ⟨Or.inr rfl, Or.inr rfl, Or.inr rfl, Or.inr rfl, Or.inr rfl, Or.inr rfl, Or.inr rfl, Or.inr rfl, trivial⟩
      refine w_less ?_ (L128 _ b (relU (re n) (pu n)) rfl Mb (Nat.le_refl _) u3 (Mo.refl okb) (fun j hj => by rw [if_neg (by omega)]; exact c1 j hj))
      exact ⟨Or.inr rfl, Or.inr rfl, Or.inr rfl, Or.inr rfl, Or.inr rfl, Or.inr rfl, Or.inr rfl, Or.inr rfl, trivial⟩
    refine w_aload_n d138_24 rfl ?_
    refine w_dloadS d138_25 (ok.kd hs) (fr898 ok hs) ?_
    refine w_iload_n d138_28 rfl ?_
    have k29 := kE898 ok hs (j := n) (by omega)
    refine w_aaloadSN d138_29 (gi898 ok hs (by omega)) (er898 ok hs (by omega)) ?_
    refine w_astore5 d138_30 rfl ?_
    refine w_iconst d138_32 (by decide) ?_
    refine w_istore6 d138_33 rfl ?_
    refine w_aload d138_35 rfl ?_
    refine w_getI (x := (b2i (re n).1)) d138_37 (ok.kd k21) o1 ?_
    refine w_ifne d138_40 (fun c40 => ?_) (fun c40 => ?_)
    · have q0 : ¬ (re n).1 = false := fun z => by rw [z] at c40; exact absurd rfl c40
      refine w_aload_n d138_55 rfl ?_
      refine w_dloadS d138_56 (ok.kd k14) (fr258 ok k14) ?_
      refine w_aload d138_59 rfl ?_
      refine w_dloadS d138_61 (ok.kd k21) (fr258 ok k21) ?_
      refine w_callv2 d138_64 (by omega) rfl (ok.kd (kT258 ok k14)) (by simp) (Nat.le_of_ble_eq_true rfl) ?_
      refine r_Row_hasLinesOf (by omega) ok (kT258 ok k14) (kT258 ok k21) ?_
      rw [b3, o3]
      refine w_ifne d138_67 (fun c67 => ?_) (fun c67 => ?_)
      · have q1 : ¬ ¬ (∀ t ∈ lns (oF (re n)), t ∈ lns (oF (pu n))) := fun z => by rw [if_neg z] at c67; exact absurd rfl c67
        refine w_aload d138_76 rfl ?_
        refine w_dloadS d138_78 (ok.kd k21) (fr258 ok k21) ?_
        refine w_aload_n d138_81 rfl ?_
        refine w_dloadS d138_82 (ok.kd k14) (fr258 ok k14) ?_
        refine w_callv2 d138_85 (by omega) rfl (ok.kd (kT258 ok k21)) (by simp) (Nat.le_of_ble_eq_true rfl) ?_
        refine r_Row_hasLinesOf (by omega) ok (kT258 ok k21) (kT258 ok k14) ?_
        rw [b3, o3]
        refine w_ifne d138_88 (fun c88 => ?_) (fun c88 => ?_)
        · have q2 : ¬ ¬ (∀ t ∈ lns (oF (pu n)), t ∈ lns (oF (re n))) := fun z => by rw [if_neg z] at c88; exact absurd rfl c88
          refine w_aload_n d138_97 rfl ?_
          refine w_dloadS d138_98 (ok.kd k14) (fr257 ok k14) ?_
          refine w_aload d138_101 rfl ?_
          refine w_dloadS d138_103 (ok.kd k21) (fr257 ok k21) ?_
          refine w_callv2 d138_106 (by omega) rfl (ok.kd (kT257 ok k14)) (by simp) (Nat.le_of_ble_eq_true rfl) ?_
          refine r_Row_sameAs (by omega) ok (kT257 ok k14) (kT257 ok k21) ?_
          rw [b2, o2]
          refine w_ifne d138_109 (fun c109 => ?_) (fun c109 => ?_)
          · have q3 : ¬ oO (pu n) ≠ oO (re n) := fun z => by rw [if_neg z] at c109; exact absurd rfl c109
            have eu : relU (re n) (pu n) = 3 := by unfold relU; rw [if_neg q0, if_neg q1, if_neg q2, if_neg q3]
            refine w_aload_n d138_118 rfl ?_
            obtain ⟨g119, v119, s119⟩ := tg.tx ok 9 (by decide)
            refine w_getstaticS d138_119 v119 ?_
            refine w_callv2 d138_121 (by omega) rfl (ok.kd hr) (by simp) (Nat.le_of_ble_eq_true rfl) ?_
            refine r_Row_addText (by omega) ok hr s119 (fun h121 m121 e121_1 e121_2 => ?_)
            have ok121 := m121.ok
            have M121 := Mo.tr ok (Mo.refl (A := (fun x => U S s x ∨ x = r)) ok) m121 (fun x e => (Or.inr e))
            refine w_less ?_ (L124 _ h121  rfl M121 (Mo.mono (fun x q => Or.inr q) m121) (fun j hj => by rw [m121.ai ok ⟨by omega, by omega⟩ (nEr n (by omega)), E j hj]; dsimp only; rw [if_neg q0]) (by rw [e121_1, eu]; rfl) e121_2)
            rw [eu]
            exact ⟨Or.inr rfl, Or.inr rfl, Or.inr rfl, Or.inr rfl, Or.inr rfl, Or.inr rfl, Or.inr rfl, Or.inl rfl, trivial⟩
          · have q3 : oO (pu n) ≠ oO (re n) := fun z => by rw [if_pos z] at c109; exact absurd c109 (by decide)
            have eu : relU (re n) (pu n) = 2 := by unfold relU; rw [if_neg q0, if_neg q1, if_neg q2, if_pos q3]
            refine w_iconst d138_112 (by decide) ?_
            refine w_istore6 d138_113 rfl ?_
            refine w_goto d138_115 ?_
            have M0_ := Mo.refl (A := (fun x => U S s x ∨ x = r)) ok
            refine w_less ?_ (L124 _ h  rfl M0_ (Mo.refl ok) (fun j hj => by rw [E j hj]; dsimp only; rw [if_neg q0]) (by rw [eu]; rfl) rfl)
            rw [eu]
            exact ⟨Or.inr rfl, Or.inr rfl, Or.inr rfl, Or.inr rfl, Or.inr rfl, Or.inr rfl, Or.inr rfl, Or.inl rfl, trivial⟩
        · have q2 : ¬ (∀ t ∈ lns (oF (pu n)), t ∈ lns (oF (re n))) := fun z => by rw [if_pos z] at c88; exact absurd c88 (by decide)
          have eu : relU (re n) (pu n) = 1 := by unfold relU; rw [if_neg q0, if_neg q1, if_pos q2]
          refine w_iconst d138_91 (by decide) ?_
          refine w_istore6 d138_92 rfl ?_
          refine w_goto d138_94 ?_
          have M0_ := Mo.refl (A := (fun x => U S s x ∨ x = r)) ok
          refine w_less ?_ (L124 _ h  rfl M0_ (Mo.refl ok) (fun j hj => by rw [E j hj]; dsimp only; rw [if_neg q0]) (by rw [eu]; rfl) rfl)
          rw [eu]
          exact ⟨Or.inr rfl, Or.inr rfl, Or.inr rfl, Or.inr rfl, Or.inr rfl, Or.inr rfl, Or.inr rfl, Or.inl rfl, trivial⟩
      · have q1 : ¬ (∀ t ∈ lns (oF (re n)), t ∈ lns (oF (pu n))) := fun z => by rw [if_pos z] at c67; exact absurd c67 (by decide)
        have eu : relU (re n) (pu n) = 0 := by unfold relU; rw [if_neg q0, if_pos q1]
        refine w_iconst d138_70 (by decide) ?_
        refine w_istore6 d138_71 rfl ?_
        refine w_goto d138_73 ?_
        have M0_ := Mo.refl (A := (fun x => U S s x ∨ x = r)) ok
        refine w_less ?_ (L124 _ h  rfl M0_ (Mo.refl ok) (fun j hj => by rw [E j hj]; dsimp only; rw [if_neg q0]) (by rw [eu]; rfl) rfl)
        rw [eu]
        exact ⟨Or.inr rfl, Or.inr rfl, Or.inr rfl, Or.inr rfl, Or.inr rfl, Or.inr rfl, Or.inr rfl, Or.inl rfl, trivial⟩
    · have q0 : (re n).1 = false := by cases z : (re n).1 with
        | false => rfl
        | true => rw [z] at c40; exact absurd c40 (by decide)
      have eu : relU (re n) (pu n) = 0 := by unfold relU; rw [if_pos q0]
      refine w_aload d138_43 rfl ?_
      refine w_iconst d138_45 (by decide) ?_
      refine w_calls2 d138_46 (by omega) rfl rfl (by simp) (Nat.le_of_ble_eq_true rfl) ?_
      refine k_Arrays_fillE ok (by omega) rfl hs hn ⟨by omega, by omega⟩ (fun h46 m46 e46_1 => ?_)
      have ok46 := m46.ok
      have M46 := Mo.tr ok (Mo.refl (A := (fun x => U S s x ∨ x = r)) ok) m46 (fun x e => (Or.inl (e ▸ (ok.so.uE (by omega) (ok.so.uT (by decide) U_refl)))))
      refine w_iconst d138_49 (by decide) ?_
      refine w_istore6 d138_50 rfl ?_
      refine w_goto d138_52 ?_
      refine w_less ?_ (L124 _ h46  rfl M46 (Mo.mono (fun x q => Or.inl q) m46) (fun j hj => by rw [e46_1 j hj]; dsimp only; rw [if_pos q0]; first | done | rfl) (by rw [m46.rb ok hr (Ne.symm (nEr n (by omega))), eu]; rfl) ((m46.cp ok hr).2 (Ne.symm (nEr n (by omega)))))
      rw [eu]
      exact ⟨Or.inr rfl, Or.inr rfl, Or.inr rfl, Or.inr rfl, Or.inr rfl, Or.inr rfl, Or.inr rfl, Or.inl rfl, trivial⟩
  · rw [show hpB pu ((n : Nat) : Int) = true by unfold hpB; rw [decide_eq_true (by omega), show ((n : Nat) : Int).toNat = n from rfl, hpn]; rfl] at c5
    exact absurd c5 (by decide)
