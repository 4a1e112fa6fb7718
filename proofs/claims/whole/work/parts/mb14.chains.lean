/-! the reference: chains of needs -/
theorem nb_fd {S : Shp} {h : Hp} {m f g fd : Nat} (ok : Ok S h) (hf : f < 4096) (hd : fd < 4096) (hg : g < 4096) : sT S f (sT S fd m) ≠ m ∧ sT S f (sT S fd m) ≠ sT S g m := by
  refine ⟨fun z => ?_, fun z => ?_⟩
  · have := ok.so.ltT (f := f) (a := sT S fd m) hf
    have := ok.so.ltT (f := fd) (a := m) hd
    omega
  · exact ok.so.pT hd ((ok.so.inj hf hg).mp z).2
theorem SgC.le {S : Shp} {h : Hp} {b f : Nat} {l : List Nat} (D : SgC S h b f l) (hr : ∀ i, AI h b i ≤ 255) : ∀ c ∈ l, c ≤ 255 := fun c hc => by
  obtain ⟨k, hk, e⟩ := List.getElem_of_mem hc
  have a := D.2.2.2 k hk
  have := hr (f + k)
  rw [a, List.getD_eq_getElem?_getD, List.getElem?_eq_getElem hk, Option.getD_some, e] at this
  omega
/-- no line's end stands in it -/
def cln (l : List Nat) : Prop := ∀ c ∈ l, c ≠ 10
theorem cln.map {l : List Nat} (h : cln l) : l.map told = l := by
  conv => rhs; rw [← List.map_id l]
  refine List.map_congr_left (fun c hc => ?_)
  unfold told
  rw [if_neg (h c hc)]
  rfl
theorem stp_pre {ts : List (Bool × TgV)} {a b u x : Nat} (h : stp ts (a + b) u x) : ∃ w, stp ts a u w := by
  obtain ⟨f, f1, f2, f3⟩ := stp_fun h
  have := fun_stp f3 (k := a) (i := 0) (by omega)
  rw [f1] at this
  exact ⟨_, this⟩
theorem stp_1 {ts : List (Bool × TgV)} {u v : Nat} (e : edge ts u v) : stp ts 1 u v := stp_front.mpr ⟨v, e, rfl⟩
theorem stp_H {ts : List (Bool × TgV)} {n u v : Nat} (h : tH ts u = true) (s : stp ts n u v) : tH ts v = true := Rc_H h ⟨n, s⟩
theorem stp_lt {ts : List (Bool × TgV)} {n u v : Nat} (h : u < ts.length) (s : stp ts n u v) : v < ts.length := Rc_lt h ⟨n, s⟩
/-- the longest row so far, of those that begin with an input below u -/
def LgI (ts : List (Bool × TgV)) (t u b : Nat) : Prop := (b = 0 ∨ ∃ z, z < u ∧ edge ts t z ∧ 0 < b ∧ lng ts z (b - 1)) ∧ ∀ z, z < u → edge ts t z → ∃ k, lng ts z k ∧ k + 1 ≤ b
theorem LgI.no {ts : List (Bool × TgV)} {t u b : Nat} (h : LgI ts t u b) (e : ¬ edge ts t u) : LgI ts t (u + 1) b := ⟨h.1.elim Or.inl (fun ⟨z, z1, z2⟩ => Or.inr ⟨z, by omega, z2⟩), fun z hz ez => by
  rcases Nat.lt_or_ge z u with y | y
  · exact h.2 z y ez
  · rw [show z = u by omega] at ez; exact absurd ez e⟩
theorem LgI.up {ts : List (Bool × TgV)} {t u b k : Nat} (h : LgI ts t u b) (e : edge ts t u) (hk : lng ts u k) (hb : b < k + 1) : LgI ts t (u + 1) (k + 1) := ⟨Or.inr ⟨u, by omega, e, by omega, hk⟩, fun z hz ez => by
  rcases Nat.lt_or_ge z u with y | y
  · obtain ⟨k2, a, b2⟩ := h.2 z y ez
    exact ⟨k2, a, by omega⟩
  · rw [show z = u by omega]; exact ⟨k, hk, Nat.le_refl _⟩⟩
theorem LgI.ge {ts : List (Bool × TgV)} {t u b k : Nat} (h : LgI ts t u b) (e : edge ts t u) (hk : lng ts u k) (hb : k + 1 ≤ b) : LgI ts t (u + 1) b := ⟨h.1.elim Or.inl (fun ⟨z, z1, z2⟩ => Or.inr ⟨z, by omega, z2⟩), fun z hz ez => by
  rcases Nat.lt_or_ge z u with y | y
  · exact h.2 z y ez
  · rw [show z = u by omega]; exact ⟨k, hk, hb⟩⟩
theorem lng_lt {ts : List (Bool × TgV)} {t u n k : Nat} (hn : ∀ x, ¬ stp ts (n + 1) t x) (e : edge ts t u) (hk : lng ts u k) : k < n := by
  rcases Nat.lt_or_ge k n with z | z
  · exact z
  · exfalso
    obtain ⟨x, hx⟩ := hk.1
    have s := stp_front.mpr ⟨u, e, hx⟩
    rw [show k + 1 = (n + 1) + (k - n) by omega] at s
    obtain ⟨w, hw⟩ := stp_pre s
    exact hn w hw
theorem nxtF_ok {ts : List (Bool × TgV)} {mk : Nat → Int} {t m : Nat} (hl : ts.length ≤ 14) : ∀ i, (nxtF ts mk t m i = 14 ∨ ∃ j, j < i ∧ inT ts t j = (nxtF ts mk t m i : Nat) ∧ mk (nxtF ts mk t m i) = (m : Nat)) ∧ ∀ j v : Nat, j < i → inT ts t j = (v : Nat) → mk v = (m : Nat) → nxtF ts mk t m i ≤ v
  | 0 => ⟨Or.inl rfl, fun j v hj => absurd hj (Nat.not_lt_zero _)⟩
  | i + 1 => by
    obtain ⟨a, b⟩ := nxtF_ok (ts := ts) (mk := mk) (t := t) (m := m) hl i
    have le := nxtF_le ts mk t m i
    unfold nxtF
    by_cases q : 0 ≤ inT ts t i ∧ mk (inT ts t i).toNat = (m : Nat)
    · rw [if_pos q]
      refine ⟨?_, fun j v hj e1 e2 => ?_⟩
      · rcases Nat.le_total (nxtF ts mk t m i) (inT ts t i).toNat with z | z
        · rw [Nat.min_eq_left z]
          rcases a with a | ⟨j, j1, j2, j3⟩
          · exact Or.inl a
          · exact Or.inr ⟨j, by omega, j2, j3⟩
        · rw [Nat.min_eq_right z]
          exact Or.inr ⟨i, by omega, by omega, q.2⟩
      · rcases Nat.lt_or_ge j i with y | y
        · have := b j v y e1 e2
          omega
        · rw [show j = i by omega] at e1
          omega
    · rw [if_neg q]
      refine ⟨?_, fun j v hj e1 e2 => ?_⟩
      · rcases a with a | ⟨j, j1, j2, j3⟩
        · exact Or.inl a
        · exact Or.inr ⟨j, by omega, j2, j3⟩
      · rcases Nat.lt_or_ge j i with y | y
        · exact b j v y e1 e2
        · rw [show j = i by omega] at e1
          exact absurd ⟨by omega, by rw [e1, Int.toNat_natCast]; exact e2⟩ q
theorem nxt_is {ts : List (Bool × TgV)} {mk : Nat → Int} {t m v : Nat} (hl : ts.length ≤ 14) (h6 : (tgI (tD ts t)).length ≤ 6) (e : edge ts t v) (hm : mk v = (m : Nat)) (hn : ∀ z, z < v → ¬ (edge ts t z ∧ mk z = (m : Nat))) : nxtF ts mk t m 6 = v := by
  obtain ⟨a, b⟩ := nxtF_ok (ts := ts) (mk := mk) (t := t) (m := m) hl 6
  obtain ⟨i, hi⟩ := e
  have i6 : i < 6 := by
    rcases Nat.lt_or_ge i 6 with z | z
    · exact z
    · rw [inT_end (by omega)] at hi; omega
  have le := b i v i6 hi hm
  have vl := (inT_lt hi).2
  rcases a with a | ⟨j, j1, j2, j3⟩
  · omega
  · rcases Nat.lt_or_ge (nxtF ts mk t m 6) v with z | z
    · exact absurd ⟨⟨j, j2⟩, j3⟩ (hn _ z)
    · omega
theorem d313_0 : dc 313 0 = some (.iconst 0, 1) := by decide +kernel
theorem d313_1 : dc 313 1 = some (.istore_n 3, 2) := by decide +kernel
theorem d313_2 : dc 313 2 = some (.iload_n 3, 3) := by decide +kernel
theorem d313_3 : dc 313 3 = some (.aload_n 0, 4) := by decide +kernel
theorem d313_4 : dc 313 4 = some (.dload 1664, 7) := by decide +kernel
theorem d313_7 : dc 313 7 = some (.dload 1424, 10) := by decide +kernel
theorem d313_10 : dc 313 10 = some (.iload_n 1, 11) := by decide +kernel
theorem d313_11 : dc 313 11 = some (.iaload, 12) := by decide +kernel
theorem d313_12 : dc 313 12 = some (.if_icmp .ge ((36 : Nat) : Int), 15) := by decide +kernel
theorem d313_15 : dc 313 15 = some (.aload_n 0, 16) := by decide +kernel
theorem d313_16 : dc 313 16 = some (.dload 1664, 19) := by decide +kernel
theorem d313_19 : dc 313 19 = some (.iload_n 1, 20) := by decide +kernel
theorem d313_20 : dc 313 20 = some (.iload_n 3, 21) := by decide +kernel
theorem d313_21 : dc 313 21 = some (.invokevirtual 231, 24) := by decide +kernel
theorem d313_24 : dc 313 24 = some (.iload_n 2, 25) := by decide +kernel
theorem d313_25 : dc 313 25 = some (.if_icmp .ne ((30 : Nat) : Int), 28) := by decide +kernel
theorem d313_28 : dc 313 28 = some (.iconst 1, 29) := by decide +kernel
theorem d313_29 : dc 313 29 = some (.freturn, 30) := by decide +kernel
theorem d313_30 : dc 313 30 = some (.iinc 3 1, 33) := by decide +kernel
theorem d313_33 : dc 313 33 = some (.goto ((2 : Nat) : Int), 36) := by decide +kernel
theorem d313_36 : dc 313 36 = some (.iconst 0, 37) := by decide +kernel
theorem d313_37 : dc 313 37 = some (.freturn, 38) := by decide +kernel
theorem k_M_names {S : Shp} {G : Nat → Option Nat} {d : Nat} {h : Hp} {Q : Option MV → Hp → Prop} {m : Nat} {t : Nat} {u : Nat} {P0 : PlV} (ok : Ok S h) (h1 : 3 ≤ d) (hm : sK S m = 14) (NF : DfC S h (sT S 1664 m) P0) (ht : t < P0.2.2.length) (hH : tH P0.2.2 t = true)
    (kk : ∀ b : Bool, (b = true ↔ edge P0.2.2 t u) → Q (some (vI (b2i b))) h) : Cl G d 313 [vR (some m), vI (t : Nat), vI (u : Nat)] h Q := by
  show Wp G d 313 0 [some (vR (some m)), some (vI (t : Nat)), some (vI (u : Nat)), none] [] h Q
  have NF_0 := NF
  have htl := NF.2.2.2.1
  have hd0 := kT1664 ok hm
  have n6 := (NF.2.2.2.2 t ht).2.2.2.2.2.2.2.2.2.2.1
  refine w_iconst d313_0 (by decide) ?_
  refine w_istore3 d313_1 rfl ?_
  have L2 : ∀ (m2 : Nat) (i : Nat), (tgI (tD P0.2.2 t)).length - i = m2 → (∀ j, j < i → ¬ inT P0.2.2 t j = ((u : Nat) : Int)) → Wp G d 313 2 [some (vR (some m)), some (vI (t : Nat)), some (vI (u : Nat)), some (vI (i : Nat))] [] h Q := by
    intro m2
    induction m2 using Nat.strongRecOn with | ind m2 IH2 => ?_
    intro i hm2 hn
    refine w_iload_n d313_2 rfl ?_
    refine w_aload_n d313_3 rfl ?_
    refine w_dloadS d313_4 (ok.kd hm) (fr1664 ok hm) ?_
    refine w_dloadS d313_7 (ok.kd (kT1664 ok hm)) (fr1424 ok (kT1664 ok hm)) ?_
    refine w_iload_n d313_10 rfl ?_
    refine w_ialoadV (x := ((tgI (tD P0.2.2 t)).length : Int)) d313_11 (gi1424 ok (kT1664 ok hm) (by omega)) (NF.2.2.2.2 t ht).2.2.2.2.2.2.2.2.2.1 ?_
    refine w_icmpge d313_12 (fun c12 => ?_) (fun c12 => ?_)
    · refine w_iconst d313_36 (by decide) ?_
      refine w_zreturn d313_37 (by decide) ?_
      exact kk false ⟨fun z => absurd z (by decide), fun ⟨j, hj⟩ => absurd hj (by
        rcases Nat.lt_or_ge j i with y | y
        · exact hn j y
        · rw [inT_end (by omega)]; omega)⟩
    · have hi : i < (tgI (tD P0.2.2 t)).length := by omega
      have te := taT_in hH ht hi
      refine w_aload_n d313_15 rfl ?_
      refine w_dloadS d313_16 (ok.kd hm) (fr1664 ok hm) ?_
      refine w_iload_n d313_19 rfl ?_
      refine w_iload_n d313_20 rfl ?_
      refine w_callv3 d313_21 (by omega) rfl (ok.kd (kT1664 ok hm)) (by simp) (Nat.le_of_ble_eq_true rfl) ?_
      refine k_D_targetAt ok (by omega) (kT1664 ok hm) NF.2.2 ht hi ?_
      refine w_iload_n d313_24 rfl ?_
      refine w_icmpne d313_25 (fun c25 => ?_) (fun c25 => ?_)
      · have ne : ¬ inT P0.2.2 t i = ((u : Nat) : Int) := by rw [← te]; omega
        refine w_iinc3 d313_30 rfl (by constructor <;> omega) ?_
        refine w_goto d313_33 ?_
        rw [show ((i : Nat) : Int) + 1 = ((i + 1 : Nat) : Int) by omega]
        refine w_less ?_ (IH2 _ (by omega) (i + 1) rfl (fun j hj => by rcases Nat.lt_or_ge j i with y | y; exact hn j y; rw [show j = i by omega]; exact ne))
        exact ⟨Or.inr rfl, Or.inr rfl, Or.inr rfl, Or.inr rfl, trivial⟩
      · refine w_iconst d313_28 (by decide) ?_
        refine w_zreturn d313_29 (by decide) ?_
        exact kk true ⟨fun _ => ⟨i, by rw [← te]; omega⟩, fun _ => rfl⟩
  refine w_less ?_ (L2 _ 0 rfl (fun j hj => absurd hj (Nat.not_lt_zero _)))
  exact ⟨Or.inr rfl, Or.inr rfl, Or.inr rfl, Or.inr rfl, trivial⟩
theorem d316_0 : dc 316 0 = some (.iconst 1, 1) := by decide +kernel
theorem d316_1 : dc 316 1 = some (.iload_n 1, 2) := by decide +kernel
theorem d316_2 : dc 316 2 = some (.ishl, 3) := by decide +kernel
theorem d316_3 : dc 316 3 = some (.istore_n 3, 4) := by decide +kernel
theorem d316_4 : dc 316 4 = some (.iconst 0, 5) := by decide +kernel
theorem d316_5 : dc 316 5 = some (.istore 4, 7) := by decide +kernel
theorem d316_7 : dc 316 7 = some (.iload 4, 9) := by decide +kernel
theorem d316_9 : dc 316 9 = some (.bipush 14, 11) := by decide +kernel
theorem d316_11 : dc 316 11 = some (.if_icmp .gt ((110 : Nat) : Int), 14) := by decide +kernel
theorem d316_14 : dc 316 14 = some (.iload_n 3, 15) := by decide +kernel
theorem d316_15 : dc 316 15 = some (.iload_n 2, 16) := by decide +kernel
theorem d316_16 : dc 316 16 = some (.ishr, 17) := by decide +kernel
theorem d316_17 : dc 316 17 = some (.iconst 1, 18) := by decide +kernel
theorem d316_18 : dc 316 18 = some (.iand, 19) := by decide +kernel
theorem d316_19 : dc 316 19 = some (.iconst 1, 20) := by decide +kernel
theorem d316_20 : dc 316 20 = some (.if_icmp .ne ((26 : Nat) : Int), 23) := by decide +kernel
theorem d316_23 : dc 316 23 = some (.iload 4, 25) := by decide +kernel
theorem d316_25 : dc 316 25 = some (.ireturn, 26) := by decide +kernel
theorem d316_26 : dc 316 26 = some (.iconst 0, 27) := by decide +kernel
theorem d316_27 : dc 316 27 = some (.istore 5, 29) := by decide +kernel
theorem d316_29 : dc 316 29 = some (.iconst 0, 30) := by decide +kernel
theorem d316_30 : dc 316 30 = some (.istore 6, 32) := by decide +kernel
theorem d316_32 : dc 316 32 = some (.iload 6, 34) := by decide +kernel
theorem d316_34 : dc 316 34 = some (.aload_n 0, 35) := by decide +kernel
theorem d316_35 : dc 316 35 = some (.dload 1664, 38) := by decide +kernel
theorem d316_38 : dc 316 38 = some (.getfield 1417, 41) := by decide +kernel
theorem d316_41 : dc 316 41 = some (.if_icmp .ge ((101 : Nat) : Int), 44) := by decide +kernel
theorem d316_44 : dc 316 44 = some (.iconst 0, 45) := by decide +kernel
theorem d316_45 : dc 316 45 = some (.istore 7, 47) := by decide +kernel
theorem d316_47 : dc 316 47 = some (.iload 7, 49) := by decide +kernel
theorem d316_49 : dc 316 49 = some (.aload_n 0, 50) := by decide +kernel
theorem d316_50 : dc 316 50 = some (.dload 1664, 53) := by decide +kernel
theorem d316_53 : dc 316 53 = some (.getfield 1417, 56) := by decide +kernel
theorem d316_56 : dc 316 56 = some (.if_icmp .ge ((95 : Nat) : Int), 59) := by decide +kernel
theorem d316_59 : dc 316 59 = some (.iload_n 3, 60) := by decide +kernel
theorem d316_60 : dc 316 60 = some (.iload 6, 62) := by decide +kernel
theorem d316_62 : dc 316 62 = some (.ishr, 63) := by decide +kernel
theorem d316_63 : dc 316 63 = some (.iconst 1, 64) := by decide +kernel
theorem d316_64 : dc 316 64 = some (.iand, 65) := by decide +kernel
theorem d316_65 : dc 316 65 = some (.iconst 1, 66) := by decide +kernel
theorem d316_66 : dc 316 66 = some (.if_icmp .ne ((89 : Nat) : Int), 69) := by decide +kernel
theorem d316_69 : dc 316 69 = some (.aload_n 0, 70) := by decide +kernel
theorem d316_70 : dc 316 70 = some (.iload 6, 72) := by decide +kernel
theorem d316_72 : dc 316 72 = some (.iload 7, 74) := by decide +kernel
theorem d316_74 : dc 316 74 = some (.invokevirtual 313, 77) := by decide +kernel
theorem d316_77 : dc 316 77 = some (.ifCond .eq ((89 : Nat) : Int), 80) := by decide +kernel
theorem d316_80 : dc 316 80 = some (.iload 5, 82) := by decide +kernel
theorem d316_82 : dc 316 82 = some (.iconst 1, 83) := by decide +kernel
theorem d316_83 : dc 316 83 = some (.iload 7, 85) := by decide +kernel
theorem d316_85 : dc 316 85 = some (.ishl, 86) := by decide +kernel
theorem d316_86 : dc 316 86 = some (.ior, 87) := by decide +kernel
theorem d316_87 : dc 316 87 = some (.istore 5, 89) := by decide +kernel
theorem d316_89 : dc 316 89 = some (.iinc 7 1, 92) := by decide +kernel
theorem d316_92 : dc 316 92 = some (.goto ((47 : Nat) : Int), 95) := by decide +kernel
theorem d316_95 : dc 316 95 = some (.iinc 6 1, 98) := by decide +kernel
theorem d316_98 : dc 316 98 = some (.goto ((32 : Nat) : Int), 101) := by decide +kernel
theorem d316_101 : dc 316 101 = some (.iload 5, 103) := by decide +kernel
theorem d316_103 : dc 316 103 = some (.istore_n 3, 104) := by decide +kernel
theorem d316_104 : dc 316 104 = some (.iinc 4 1, 107) := by decide +kernel
theorem d316_107 : dc 316 107 = some (.goto ((7 : Nat) : Int), 110) := by decide +kernel
theorem d316_110 : dc 316 110 = some (.iconst (-1), 111) := by decide +kernel
theorem d316_111 : dc 316 111 = some (.ireturn, 112) := by decide +kernel
theorem k_M_far {S : Shp} {G : Nat → Option Nat} {d : Nat} {h : Hp} {Q : Option MV → Hp → Prop} {m : Nat} {t : Nat} {u : Nat} {P0 : PlV} {mk : Nat → Int} (ok : Ok S h) (h1 : 4 ≤ d) (hm : sK S m = 14) (NF : DfC S h (sT S 1664 m) P0) (ht : t < P0.2.2.length) (hH : tH P0.2.2 t = true) (hu : u < P0.2.2.length) (W : wayS P0.2.2 mk u 14 t)
    (kk : Q (some (vI (mk t - 1))) h) : Cl G d 316 [vR (some m), vI (t : Nat), vI (u : Nat)] h Q := by
  show Wp G d 316 0 [some (vR (some m)), some (vI (t : Nat)), some (vI (u : Nat)), none, none, none, none, none] [] h Q
  have NF_0 := NF
  have htl := NF.2.2.2.1
  have hd0 := kT1664 ok hm
  refine w_iconst d316_0 (by decide) ?_
  refine w_iload_n d316_1 rfl ?_
  refine w_ishl d316_2 ?_
  rw [shl_1 ⟨t, by omega⟩]
  refine w_istore3 d316_3 rfl ?_
  refine w_iconst d316_4 (by decide) ?_
  refine w_istore4 d316_5 rfl ?_
  have L7 : ∀ (m7 : Nat) (n s : Nat), 15 - n = m7 → (n ≤ 15 ∧ s < 16384) → (∀ z, bt s z ↔ stp P0.2.2 n t z) → (∀ j, j < n → ¬ stp P0.2.2 j t u) → Wp G d 316 7 [some (vR (some m)), some (vI (t : Nat)), some (vI (u : Nat)), some (vI (s : Nat)), some (vI (n : Nat)), none, none, none] [] h Q := by
    intro m7
    induction m7 using Nat.strongRecOn with | ind m7 IH7 => ?_
    intro n s hm7 nl sb ns
    refine w_iload d316_7 rfl ?_
    refine w_bipush d316_9 (by decide) ?_
    refine w_icmpgt d316_11 (fun c11 => ?_) (fun c11 => ?_)
    · have e : mk t - 1 = -1 := by
        rcases W with ⟨k, k1, k2, k3⟩ | ⟨w1, w2⟩
        · exact absurd k3.1 (ns k (by omega))
        · omega
      rw [e] at kk
      refine w_iconst d316_110 (by decide) ?_
      refine w_ireturn d316_111 ?_
      exact kk
    · have n14 : n ≤ 14 := by omega
      refine w_iload_n d316_14 rfl ?_
      refine w_iload_n d316_15 rfl ?_
      refine w_ishr d316_16 ?_
      rw [shr_n (n := s) (u := u) (by omega) (by omega)]
      refine w_iconst d316_17 (by decide) ?_
      refine w_iand d316_18 ?_
      rw [and_1 (a := s / 2 ^ u) (div_lt (by omega))]
      refine w_iconst d316_19 (by decide) ?_
      refine w_icmpne d316_20 (fun c20 => ?_) (fun c20 => ?_)
      · have bu : ¬ bt s u := by unfold bt; omega
        refine w_iconst d316_26 (by decide) ?_
        refine w_istore5 d316_27 rfl ?_
        refine w_iconst d316_29 (by decide) ?_
        refine w_istore6 d316_30 rfl ?_
        have L32 : ∀ (m32 : Nat) (v k : Nat), P0.2.2.length - v = m32 → (k < 16384 ∧ v ≤ P0.2.2.length) → (∀ z, bt k z ↔ ∃ w, w < v ∧ bt s w ∧ edge P0.2.2 w z) → Wp G d 316 32 [some (vR (some m)), some (vI (t : Nat)), some (vI (u : Nat)), some (vI (s : Nat)), some (vI (n : Nat)), some (vI (k : Nat)), some (vI (v : Nat)), none] [] h Q := by
          intro m32
          induction m32 using Nat.strongRecOn with | ind m32 IH32 => ?_
          intro v k hm32 kl kb
          refine w_iload d316_32 rfl ?_
          refine w_aload_n d316_34 rfl ?_
          refine w_dloadS d316_35 (ok.kd hm) (fr1664 ok hm) ?_
          refine w_getI (x := ((P0.2.2.length : Nat) : Int)) d316_38 (ok.kd (kT1664 ok hm)) NF.2.2.1 ?_
          refine w_icmpge d316_41 (fun c41 => ?_) (fun c41 => ?_)
          · have ev : v = P0.2.2.length := by omega
            refine w_iload d316_101 rfl ?_
            refine w_istore3 d316_103 rfl ?_
            refine w_iinc4 d316_104 rfl (by constructor <;> omega) ?_
            refine w_goto d316_107 ?_
            rw [show ((n : Nat) : Int) + 1 = ((n + 1 : Nat) : Int) by omega]
            refine w_less ?_ (IH7 _ (by omega) (n + 1) k rfl ⟨by omega, kl.1⟩ (fun z => by rw [kb z]; exact ⟨fun ⟨w, w1, w2, w3⟩ => ⟨w, (sb w).mp w2, w3⟩, fun ⟨w, w1, w2⟩ => ⟨w, by have := (edge_lt w2).1; omega, (sb w).mpr w1, w2⟩⟩) (fun j hj => by rcases Nat.lt_or_ge j n with y | y; exact ns j y; rw [show j = n by omega]; exact fun z => bu ((sb u).mpr z)))
            exact ⟨Or.inr rfl, Or.inr rfl, Or.inr rfl, Or.inr rfl, Or.inr rfl, Or.inl rfl, Or.inl rfl, Or.inl rfl, trivial⟩
          · have hv : v < P0.2.2.length := by omega
            refine w_iconst d316_44 (by decide) ?_
            refine w_istore7 d316_45 rfl ?_
            have L47 : ∀ (m47 : Nat) (w l : Nat), P0.2.2.length - w = m47 → (l < 16384 ∧ w ≤ P0.2.2.length) → (∀ z, bt l z ↔ (∃ y, y < v ∧ bt s y ∧ edge P0.2.2 y z) ∨ (bt s v ∧ z < w ∧ edge P0.2.2 v z)) → Wp G d 316 47 [some (vR (some m)), some (vI (t : Nat)), some (vI (u : Nat)), some (vI (s : Nat)), some (vI (n : Nat)), some (vI (l : Nat)), some (vI (v : Nat)), some (vI (w : Nat))] [] h Q := by
              intro m47
              induction m47 using Nat.strongRecOn with | ind m47 IH47 => ?_
              intro w l hm47 ll lb
              refine w_iload d316_47 rfl ?_
              refine w_aload_n d316_49 rfl ?_
              refine w_dloadS d316_50 (ok.kd hm) (fr1664 ok hm) ?_
              refine w_getI (x := ((P0.2.2.length : Nat) : Int)) d316_53 (ok.kd (kT1664 ok hm)) NF.2.2.1 ?_
              refine w_icmpge d316_56 (fun c56 => ?_) (fun c56 => ?_)
              · have ew : w = P0.2.2.length := by omega
                refine w_iinc6 d316_95 rfl (by constructor <;> omega) ?_
                refine w_goto d316_98 ?_
                rw [show ((v : Nat) : Int) + 1 = ((v + 1 : Nat) : Int) by omega]
                refine w_less ?_ (IH32 _ (by omega) (v + 1) l rfl ⟨ll.1, by omega⟩ (fun z => by rw [lb z]; exact ⟨fun y => y.elim (fun ⟨w, w1, w2⟩ => ⟨w, by omega, w2⟩) (fun y => ⟨v, by omega, y.1, y.2.2⟩), fun ⟨w, w1, w2, w3⟩ => by rcases Nat.lt_or_ge w v with y | y; exact Or.inl ⟨w, y, w2, w3⟩; rw [show w = v by omega] at w2 w3; exact Or.inr ⟨w2, by have := (edge_lt w3).2; omega, w3⟩⟩))
                exact ⟨Or.inr rfl, Or.inr rfl, Or.inr rfl, Or.inr rfl, Or.inr rfl, Or.inr rfl, Or.inr rfl, Or.inl rfl, trivial⟩
              · have hw : w < P0.2.2.length := by omega
                refine w_iload_n d316_59 rfl ?_
                refine w_iload d316_60 rfl ?_
                refine w_ishr d316_62 ?_
                rw [shr_n (n := s) (u := v) (by omega) (by omega)]
                refine w_iconst d316_63 (by decide) ?_
                refine w_iand d316_64 ?_
                rw [and_1 (a := s / 2 ^ v) (div_lt (by omega))]
                refine w_iconst d316_65 (by decide) ?_
                refine w_icmpne d316_66 (fun c66 => ?_) (fun c66 => ?_)
                · have bv : ¬ bt s v := by unfold bt; omega
                  refine w_iinc7 d316_89 rfl (by constructor <;> omega) ?_
                  refine w_goto d316_92 ?_
                  rw [show ((w : Nat) : Int) + 1 = ((w + 1 : Nat) : Int) by omega]
                  refine w_less ?_ (IH47 _ (by omega) (w + 1) l rfl ⟨ll.1, by omega⟩ (fun z => by rw [lb z]; exact ⟨fun y => y.elim Or.inl (fun y => Or.inr ⟨y.1, by omega, y.2.2⟩), fun y => y.elim Or.inl (fun y => by rcases Nat.lt_or_ge z w with x | x; exact Or.inr ⟨y.1, x, y.2.2⟩; have ez : z = w := by { have := y.2.1; omega }; rw [ez] at y; first | exact absurd y.1 bv | exact absurd y.2.2 ne)⟩))
                  exact ⟨Or.inr rfl, Or.inr rfl, Or.inr rfl, Or.inr rfl, Or.inr rfl, Or.inr rfl, Or.inr rfl, Or.inr rfl, trivial⟩
                · have bv : bt s v := by unfold bt; omega
                  have vH := stp_H hH ((sb v).mp bv)
                  refine w_aload_n d316_69 rfl ?_
                  refine w_iload d316_70 rfl ?_
                  refine w_iload d316_72 rfl ?_
                  refine w_callv3 d316_74 (by omega) rfl (ok.kd hm) (by simp) (Nat.le_of_ble_eq_true rfl) ?_
                  refine k_M_names ok (by omega) hm NF hv vH (fun b74 bq74 => ?_)
                  refine w_ifeq d316_77 (fun c77 => ?_) (fun c77 => ?_)
                  · have bf : b74 = false := by
                      cases hz : b74 with
                      | true => rw [hz] at c77; exact absurd c77 (by decide)
                      | false => rfl
                    have ne : ¬ edge P0.2.2 v w := fun z => by rw [bq74.mpr z] at bf; exact absurd bf (by decide)
                    refine w_iinc7 d316_89 rfl (by constructor <;> omega) ?_
                    refine w_goto d316_92 ?_
                    rw [show ((w : Nat) : Int) + 1 = ((w + 1 : Nat) : Int) by omega]
                    refine w_less ?_ (IH47 _ (by omega) (w + 1) l rfl ⟨ll.1, by omega⟩ (fun z => by rw [lb z]; exact ⟨fun y => y.elim Or.inl (fun y => Or.inr ⟨y.1, by omega, y.2.2⟩), fun y => y.elim Or.inl (fun y => by rcases Nat.lt_or_ge z w with x | x; exact Or.inr ⟨y.1, x, y.2.2⟩; have ez : z = w := by { have := y.2.1; omega }; rw [ez] at y; first | exact absurd y.1 bv | exact absurd y.2.2 ne)⟩))
                    exact ⟨Or.inr rfl, Or.inr rfl, Or.inr rfl, Or.inr rfl, Or.inr rfl, Or.inr rfl, Or.inr rfl, Or.inr rfl, trivial⟩
                  · have bt_ : b74 = true := by
                      cases hz : b74 with
                      | true => rfl
                      | false => rw [hz] at c77; exact absurd rfl c77
                    have ed := bq74.mp bt_
                    have pw := pow14 (v := w) (by omega)
                    refine w_iload d316_80 rfl ?_
                    refine w_iconst d316_82 (by decide) ?_
                    refine w_iload d316_83 rfl ?_
                    refine w_ishl d316_85 ?_
                    rw [shl_1 ⟨w, by omega⟩]
                    refine w_ior d316_86 ?_
                    rw [or_n (a := l) (b := 2 ^ w) (by omega) (by omega)]
                    refine w_istore5 d316_87 rfl ?_
                    refine w_iinc7 d316_89 rfl (by constructor <;> omega) ?_
                    refine w_goto d316_92 ?_
                    rw [show ((w : Nat) : Int) + 1 = ((w + 1 : Nat) : Int) by omega]
                    refine w_less ?_ (IH47 _ (by omega) (w + 1) ((l ||| 2 ^ w)) rfl ⟨or_lt ll.1 (by omega), by omega⟩ (fun z => by rw [bt_or, lb z]; exact ⟨fun y => y.elim (fun y => y.elim Or.inl (fun y => Or.inr ⟨y.1, by omega, y.2.2⟩)) (fun y => Or.inr ⟨bv, by omega, y ▸ ed⟩), fun y => y.elim (fun y => Or.inl (Or.inl y)) (fun y => by rcases Nat.lt_or_ge z w with x | x; exact Or.inl (Or.inr ⟨y.1, x, y.2.2⟩); exact Or.inr (by omega))⟩))
                    exact ⟨Or.inr rfl, Or.inr rfl, Or.inr rfl, Or.inr rfl, Or.inr rfl, Or.inr rfl, Or.inr rfl, Or.inr rfl, trivial⟩
            refine w_less ?_ (L47 _ 0 k rfl ⟨kl.1, Nat.zero_le _⟩ (fun z => by rw [kb z]; exact ⟨Or.inl, fun y => y.elim id (fun y => absurd y.2.1 (Nat.not_lt_zero _))⟩))
            exact ⟨Or.inr rfl, Or.inr rfl, Or.inr rfl, Or.inr rfl, Or.inr rfl, Or.inr rfl, Or.inr rfl, Or.inr rfl, trivial⟩
        refine w_less ?_ (L32 _ 0 0 rfl ⟨by decide, Nat.zero_le _⟩ (fun z => ⟨fun y => absurd y bt_0, fun ⟨w, w1, _⟩ => absurd w1 (Nat.not_lt_zero _)⟩))
        exact ⟨Or.inr rfl, Or.inr rfl, Or.inr rfl, Or.inr rfl, Or.inr rfl, Or.inr rfl, Or.inr rfl, Or.inl rfl, trivial⟩
      · have bu : bt s u := by unfold bt; omega
        have e : mk t - 1 = (n : Int) := by
          have st := (sb u).mp bu
          rcases W with ⟨k, k1, k2, k3⟩ | ⟨w1, w2⟩
          · rcases Nat.lt_trichotomy n k with z | z | z
            · exact absurd st (k3.2 n z)
            · omega
            · exact absurd k3.1 (ns k z)
          · rcases Nat.lt_or_ge n 14 with z | z
            · exact absurd st (w2 n z)
            · exfalso
              have d1 : ∀ j, j < n → ¬ stp P0.2.2 j t u := ns
              have := dst_lt ht (⟨st, d1⟩ : dst P0.2.2 t u n)
              omega
        rw [e] at kk
        refine w_iload d316_23 rfl ?_
        refine w_ireturn d316_25 ?_
        exact kk
  refine w_less ?_ (L7 _ 0 (2 ^ t) rfl ⟨by decide, pow14 (by omega)⟩ (fun z => bt_pow.trans ⟨Eq.symm, Eq.symm⟩) (fun j hj => absurd hj (Nat.not_lt_zero _)))
  exact ⟨Or.inr rfl, Or.inr rfl, Or.inr rfl, Or.inr rfl, Or.inr rfl, Or.inl rfl, Or.inl rfl, Or.inl rfl, trivial⟩
theorem d312_0 : dc 312 0 = some (.iconst 0, 1) := by decide +kernel
theorem d312_1 : dc 312 1 = some (.istore_n 2, 2) := by decide +kernel
theorem d312_2 : dc 312 2 = some (.iconst 0, 3) := by decide +kernel
theorem d312_3 : dc 312 3 = some (.istore_n 3, 4) := by decide +kernel
theorem d312_4 : dc 312 4 = some (.iload_n 3, 5) := by decide +kernel
theorem d312_5 : dc 312 5 = some (.aload_n 0, 6) := by decide +kernel
theorem d312_6 : dc 312 6 = some (.dload 1664, 9) := by decide +kernel
theorem d312_9 : dc 312 9 = some (.getfield 1417, 12) := by decide +kernel
theorem d312_12 : dc 312 12 = some (.if_icmp .ge ((53 : Nat) : Int), 15) := by decide +kernel
theorem d312_15 : dc 312 15 = some (.aload_n 0, 16) := by decide +kernel
theorem d312_16 : dc 312 16 = some (.iload_n 1, 17) := by decide +kernel
theorem d312_17 : dc 312 17 = some (.iload_n 3, 18) := by decide +kernel
theorem d312_18 : dc 312 18 = some (.invokevirtual 313, 21) := by decide +kernel
theorem d312_21 : dc 312 21 = some (.ifCond .ne ((27 : Nat) : Int), 24) := by decide +kernel
theorem d312_24 : dc 312 24 = some (.goto ((47 : Nat) : Int), 27) := by decide +kernel
theorem d312_27 : dc 312 27 = some (.aload_n 0, 28) := by decide +kernel
theorem d312_28 : dc 312 28 = some (.iload_n 3, 29) := by decide +kernel
theorem d312_29 : dc 312 29 = some (.invokevirtual 312, 32) := by decide +kernel
theorem d312_32 : dc 312 32 = some (.istore 4, 34) := by decide +kernel
theorem d312_34 : dc 312 34 = some (.iload 4, 36) := by decide +kernel
theorem d312_36 : dc 312 36 = some (.iload_n 2, 37) := by decide +kernel
theorem d312_37 : dc 312 37 = some (.if_icmp .le ((45 : Nat) : Int), 40) := by decide +kernel
theorem d312_40 : dc 312 40 = some (.iload 4, 42) := by decide +kernel
theorem d312_42 : dc 312 42 = some (.goto ((46 : Nat) : Int), 45) := by decide +kernel
theorem d312_45 : dc 312 45 = some (.iload_n 2, 46) := by decide +kernel
theorem d312_46 : dc 312 46 = some (.istore_n 2, 47) := by decide +kernel
theorem d312_47 : dc 312 47 = some (.iinc 3 1, 50) := by decide +kernel
theorem d312_50 : dc 312 50 = some (.goto ((4 : Nat) : Int), 53) := by decide +kernel
theorem d312_53 : dc 312 53 = some (.iload_n 2, 54) := by decide +kernel
theorem d312_54 : dc 312 54 = some (.iconst 1, 55) := by decide +kernel
theorem d312_55 : dc 312 55 = some (.iadd, 56) := by decide +kernel
theorem d312_56 : dc 312 56 = some (.ireturn, 57) := by decide +kernel
theorem k_M_longest {S : Shp} {G : Nat → Option Nat} {d : Nat} {h : Hp} {Q : Option MV → Hp → Prop} {m : Nat} {t : Nat} {n : Nat} {P0 : PlV} (ok : Ok S h) (h1 : 4 ≤ d) (hm : sK S m = 14) (NF : DfC S h (sT S 1664 m) P0) (ht : t < P0.2.2.length) (hH : tH P0.2.2 t = true) (hd : n + 4 ≤ d) (hn : ∀ x, ¬ stp P0.2.2 (n + 1) t x) (n14 : n ≤ 14)
    (kk : ∀ k : Nat, lng P0.2.2 t k → Q (some (vI ((k + 1 : Nat) : Int))) h) : Cl G d 312 [vR (some m), vI (t : Nat)] h Q := by
  show Wp G d 312 0 [some (vR (some m)), some (vI (t : Nat)), none, none, none] [] h Q
  have NF_0 := NF
  have htl := NF.2.2.2.1
  have hd0 := kT1664 ok hm
  refine w_iconst d312_0 (by decide) ?_
  refine w_istore2 d312_1 rfl ?_
  refine w_iconst d312_2 (by decide) ?_
  refine w_istore3 d312_3 rfl ?_
  have L4 : ∀ (m4 : Nat) (u b : Nat), P0.2.2.length - u = m4 → (u ≤ P0.2.2.length ∧ b ≤ 15) → (LgI P0.2.2 t u b) → Wp G d 312 4 [some (vR (some m)), some (vI (t : Nat)), some (vI (b : Nat)), some (vI (u : Nat)), none] [] h Q := by
    intro m4
    induction m4 using Nat.strongRecOn with | ind m4 IH4 => ?_
    intro u b hm4 ul hb
    refine w_iload_n d312_4 rfl ?_
    refine w_aload_n d312_5 rfl ?_
    refine w_dloadS d312_6 (ok.kd hm) (fr1664 ok hm) ?_
    refine w_getI (x := ((P0.2.2.length : Nat) : Int)) d312_9 (ok.kd (kT1664 ok hm)) NF.2.2.1 ?_
    refine w_icmpge d312_12 (fun c12 => ?_) (fun c12 => ?_)
    · have lg : lng P0.2.2 t b := by
        refine ⟨?_, fun x s => ?_⟩
        · rcases hb.1 with z | ⟨z, z1, z2, z3, z4⟩
          · rw [z]; exact ⟨t, rfl⟩
          · obtain ⟨x, hx⟩ := z4.1
            refine ⟨x, ?_⟩
            rw [show b = (b - 1) + 1 by omega]
            exact stp_front.mpr ⟨z, z2, hx⟩
        · obtain ⟨z, z1, z2⟩ := stp_front.mp s
          obtain ⟨k, k1, k2⟩ := hb.2 z (by have := (edge_lt z1).2; omega) z1
          rw [show b = (k + 1) + (b - (k + 1)) by omega] at z2
          obtain ⟨w, hw⟩ := stp_pre z2
          exact k1.2 w hw
      refine w_iload_n d312_53 rfl ?_
      refine w_iconst d312_54 (by decide) ?_
      refine w_iadd d312_55 (by constructor <;> omega) ?_
      rw [show ((b : Nat) : Int) + 1 = ((b + 1 : Nat) : Int) by omega]
      refine w_ireturn d312_56 ?_
      exact kk b lg
    · have hu : u < P0.2.2.length := by omega
      refine w_aload_n d312_15 rfl ?_
      refine w_iload_n d312_16 rfl ?_
      refine w_iload_n d312_17 rfl ?_
      refine w_callv3 d312_18 (by omega) rfl (ok.kd hm) (by simp) (Nat.le_of_ble_eq_true rfl) ?_
      refine k_M_names ok (by omega) hm NF ht hH (fun b18 bq18 => ?_)
      refine w_ifne d312_21 (fun c21 => ?_) (fun c21 => ?_)
      · have be : edge P0.2.2 t u := bq18.mp (by
          rcases Bool.eq_false_or_eq_true b18 with z | z
          · exact z
          · rw [z] at c21; exact absurd rfl c21)
        have n0 : n ≠ 0 := fun z => by rw [z] at hn; exact hn u (stp_1 be)
        have bl : b ≤ 15 := ul.2
        refine w_aload_n d312_27 rfl ?_
        refine w_iload_n d312_28 rfl ?_
        refine w_callv2 d312_29 (by omega) rfl (ok.kd hm) (by simp) (Nat.le_of_ble_eq_true rfl) ?_
        refine k_M_longest (n := n - 1) ok (by omega) hm NF hu (edge_H be) (by omega) (fun x s => hn x (by rw [show n + 1 = (n - 1 + 1) + 1 by omega]; exact stp_front.mpr ⟨u, be, s⟩)) (by omega) (fun k29 kl29 => ?_)
        have kn := lng_lt hn be kl29
        refine w_istore4 d312_32 rfl ?_
        refine w_iload d312_34 rfl ?_
        refine w_iload_n d312_36 rfl ?_
        refine w_icmple d312_37 (fun c37 => ?_) (fun c37 => ?_)
        · refine w_iload_n d312_45 rfl ?_
          refine w_istore2 d312_46 rfl ?_
          refine w_iinc3 d312_47 rfl (by constructor <;> omega) ?_
          refine w_goto d312_50 ?_
          rw [show ((u : Nat) : Int) + 1 = ((u + 1 : Nat) : Int) by omega]
          refine w_less ?_ (IH4 _ (by omega) (u + 1) b rfl ⟨by omega, by omega⟩ (by first | exact hb.ge be kl29 (by omega) | exact hb.no be))
          exact ⟨Or.inr rfl, Or.inr rfl, Or.inr rfl, Or.inr rfl, Or.inl rfl, trivial⟩
        · refine w_iload d312_40 rfl ?_
          refine w_goto d312_42 ?_
          refine w_istore2 d312_46 rfl ?_
          refine w_iinc3 d312_47 rfl (by constructor <;> omega) ?_
          refine w_goto d312_50 ?_
          rw [show ((u : Nat) : Int) + 1 = ((u + 1 : Nat) : Int) by omega]
          refine w_less ?_ (IH4 _ (by omega) (u + 1) (k29 + 1) rfl ⟨by omega, by omega⟩ (hb.up be kl29 (by omega)))
          exact ⟨Or.inr rfl, Or.inr rfl, Or.inr rfl, Or.inr rfl, Or.inl rfl, trivial⟩
      · have be : ¬ edge P0.2.2 t u := fun z => by rw [bq18.mpr z] at c21; exact absurd c21 (by decide)
        refine w_goto d312_24 ?_
        refine w_iinc3 d312_47 rfl (by constructor <;> omega) ?_
        refine w_goto d312_50 ?_
        rw [show ((u : Nat) : Int) + 1 = ((u + 1 : Nat) : Int) by omega]
        refine w_less ?_ (IH4 _ (by omega) (u + 1) b rfl ⟨by omega, by omega⟩ (by first | exact hb.ge be kl29 (by omega) | exact hb.no be))
        exact ⟨Or.inr rfl, Or.inr rfl, Or.inr rfl, Or.inr rfl, Or.inl rfl, trivial⟩
  refine w_less ?_ (L4 _ 0 0 rfl ⟨Nat.zero_le _, by decide⟩ ⟨Or.inl rfl, fun z hz => absurd hz (Nat.not_lt_zero _)⟩)
  exact ⟨Or.inr rfl, Or.inr rfl, Or.inr rfl, Or.inr rfl, Or.inl rfl, trivial⟩
termination_by n
decreasing_by omega
