/-! the reference: what is needed, told -/
/-- the lowest number with q of those that came -/
def BsI (Sc q : Nat → Prop) (b : Int) (v : Nat) : Prop := (b = -1 ∧ ∀ x, Sc x → ¬ q x) ∨ (0 ≤ b ∧ Sc v ∧ q v ∧ ∀ x, Sc x → q x → v ≤ x)
section BSI
variable {Sc Sc' q : Nat → Prop} {b b' : Int} {v y : Nat}
theorem BsI.cg (h : BsI Sc q b v) (e : ∀ x, Sc' x ↔ Sc x) : BsI Sc' q b v := h.elim (fun z => Or.inl ⟨z.1, fun x hx => z.2 x ((e x).mp hx)⟩) (fun z => Or.inr ⟨z.1, (e v).mpr z.2.1, z.2.2.1, fun x hx => z.2.2.2 x ((e x).mp hx)⟩)
theorem BsI.skip (h : BsI Sc q b v) (e : ∀ x, Sc' x ↔ Sc x ∨ x = y) (hq : ¬ q y) : BsI Sc' q b v := h.elim (fun z => Or.inl ⟨z.1, fun x hx => ((e x).mp hx).elim (z.2 x) (fun t => by rw [t]; exact hq)⟩) (fun z => Or.inr ⟨z.1, (e v).mpr (Or.inl z.2.1), z.2.2.1, fun x hx qx => ((e x).mp hx).elim (fun t => z.2.2.2 x t qx) (fun t => absurd (t ▸ qx) hq)⟩)
theorem BsI.keep (h : BsI Sc q b v) (e : ∀ x, Sc' x ↔ Sc x ∨ x = y) (hb : 0 ≤ b) (hv : v ≤ y) : BsI Sc' q b v := by
  rcases h with z | z
  · omega
  · exact Or.inr ⟨z.1, (e v).mpr (Or.inl z.2.1), z.2.2.1, fun x hx qx => ((e x).mp hx).elim (fun t => z.2.2.2 x t qx) (fun t => by rw [t]; exact hv)⟩
theorem BsI.new (h : BsI Sc q b v) (e : ∀ x, Sc' x ↔ Sc x ∨ x = y) (hq : q y) (hb : b < 0 ∨ y ≤ v) (hb' : 0 ≤ b') : BsI Sc' q b' y := Or.inr ⟨hb', (e y).mpr (Or.inr rfl), hq, fun x hx qx => ((e x).mp hx).elim (fun t => by
  rcases h with z | z
  · exact absurd qx (z.2 x t)
  · have := z.2.2.2 x t qx
    omega) (fun t => by omega)⟩
theorem BsI.fin {K : Nat → Nat} {N j : Nat} (h : BsI Sc q b v) (hS : ∀ x, Sc x ↔ ∃ a, a < N ∧ x = K a) (hK : ∀ a c, a < c → c < N → K a < K c) (hq : ∀ x, q x ↔ j = 0 ∨ K (j - 1) < x) (hj : j ≤ N) : (b = -1 → j = N) ∧ (0 ≤ b → j < N ∧ v = K j) := by
  have qj : j < N → q (K j) := fun z => (hq _).mpr (by
    rcases Nat.eq_zero_or_pos j with y | y
    · exact Or.inl y
    · exact Or.inr (hK _ _ (by omega) z))
  rcases h with z | z
  · refine ⟨fun _ => ?_, fun _ => by omega⟩
    rcases Nat.lt_or_ge j N with y | y
    · exact absurd (qj y) (z.2 _ ((hS _).mpr ⟨j, y, rfl⟩))
    · omega
  · refine ⟨fun _ => by omega, fun _ => ?_⟩
    obtain ⟨a, a1, a2⟩ := (hS v).mp z.2.1
    have ja : j ≤ a := by
      rcases (hq v).mp z.2.2.1 with y | y
      · omega
      · rcases Nat.lt_or_ge a j with x | x
        · rcases Nat.lt_or_ge a (j - 1) with w | w
          · have := hK a (j - 1) w (by omega)
            omega
          · rw [show a = j - 1 by omega] at a2; omega
        · exact x
    refine ⟨by omega, ?_⟩
    have le := z.2.2.2 (K j) ((hS _).mpr ⟨j, by omega, rfl⟩) (qj (by omega))
    rcases Nat.lt_or_ge j a with x | x
    · have := hK j a x a1
      omega
    · rw [a2, show a = j by omega]
end BSI
theorem psTxt_s {ps : List (List Nat)} {j : Nat} (h : j < ps.length) : psTxt (ps.take (j + 1)) = psTxt (ps.take j) ++ (ps.getD j [] ++ [44]) := by
  rw [List.take_succ, List.getElem?_eq_getElem h, List.getD_eq_getElem?_getD, List.getElem?_eq_getElem h]
  exact psTxt_snoc _ _
/-- names that came: those of the first u targets in s, and the first k inputs of target u -/
def ScN (ts : List (Bool × TgV)) (s u k x : Nat) : Prop := ∃ v i, v < ts.length ∧ (v < u ∨ v = u ∧ i < k) ∧ bt s v ∧ i < (tgI (tD ts v)).length ∧ inB (tgI (tD ts v)) i = false ∧ x = kN (inN (tgI (tD ts v)) i)
theorem ScN.z {ts : List (Bool × TgV)} {s x : Nat} : ¬ ScN ts s 0 0 x := fun ⟨v, i, _, z, _⟩ => by omega
theorem ScN.u {ts : List (Bool × TgV)} {s u x : Nat} (hb : ¬ bt s u) : ScN ts s (u + 1) 0 x ↔ ScN ts s u 0 x := ⟨fun ⟨v, i, v1, v2, v3, v4⟩ => ⟨v, i, v1, by
  rcases v2 with y | y
  · rcases Nat.lt_or_ge v u with w | w
    · exact Or.inl w
    · rw [show v = u by omega] at v3; exact absurd v3 hb
  · omega, v3, v4⟩, fun ⟨v, i, v1, v2, v3⟩ => ⟨v, i, v1, by omega, v3⟩⟩
theorem ScN.e {ts : List (Bool × TgV)} {s u k x : Nat} (hk : (tgI (tD ts u)).length = k) : ScN ts s (u + 1) 0 x ↔ ScN ts s u k x := ⟨fun ⟨v, i, v1, v2, v3, v4, v5⟩ => ⟨v, i, v1, by
  rcases Nat.lt_or_ge v u with w | w
  · exact Or.inl w
  · have e : v = u := by omega
    exact Or.inr ⟨e, by rw [e] at v4; omega⟩, v3, v4, v5⟩, fun ⟨v, i, v1, v2, v3⟩ => ⟨v, i, v1, by omega, v3⟩⟩
theorem ScN.t {ts : List (Bool × TgV)} {s u k x : Nat} (hb : inB (tgI (tD ts u)) k = true) : ScN ts s u (k + 1) x ↔ ScN ts s u k x := ⟨fun ⟨v, i, v1, v2, v3, v4, v5, v6⟩ => ⟨v, i, v1, by
  rcases v2 with y | y
  · exact Or.inl y
  · rcases Nat.lt_or_ge i k with w | w
    · exact Or.inr ⟨y.1, w⟩
    · rw [y.1, show i = k by omega, hb] at v5; exact absurd v5 (by decide), v3, v4, v5, v6⟩, fun ⟨v, i, v1, v2, v3⟩ => ⟨v, i, v1, by omega, v3⟩⟩
theorem ScN.s {ts : List (Bool × TgV)} {s u k x : Nat} (hu : u < ts.length) (b : bt s u) (hk : k < (tgI (tD ts u)).length) (hb : inB (tgI (tD ts u)) k = false) : ScN ts s u (k + 1) x ↔ ScN ts s u k x ∨ x = kN (inN (tgI (tD ts u)) k) := ⟨fun ⟨v, i, v1, v2, v3, v4, v5, v6⟩ => by
  rcases v2 with y | y
  · exact Or.inl ⟨v, i, v1, Or.inl y, v3, v4, v5, v6⟩
  · rcases Nat.lt_or_ge i k with w | w
    · exact Or.inl ⟨v, i, v1, Or.inr ⟨y.1, w⟩, v3, v4, v5, v6⟩
    · rw [y.1, show i = k by omega] at v6; exact Or.inr v6, fun z => z.elim (fun ⟨v, i, v1, v2, v3⟩ => ⟨v, i, v1, by omega, v3⟩) (fun z => ⟨u, k, hu, Or.inr ⟨rfl, by omega⟩, b, hk, hb, z⟩)⟩
/-- the input of a row -/
def RwV (ts : List (Bool × TgV)) (b : Int) (v : Nat) : Prop := 0 ≤ b → ∃ u k : Nat, b = ((6 * u + k : Nat) : Int) ∧ u < ts.length ∧ k < (tgI (tD ts u)).length ∧ kN (inN (tgI (tD ts u)) k) = v
theorem d310_0 : dc 310 0 = some (.aload_n 0, 1) := by decide +kernel
theorem d310_1 : dc 310 1 = some (.dload 1664, 4) := by decide +kernel
theorem d310_4 : dc 310 4 = some (.dload 1426, 7) := by decide +kernel
theorem d310_7 : dc 310 7 = some (.bipush 12, 9) := by decide +kernel
theorem d310_9 : dc 310 9 = some (.iload_n 1, 10) := by decide +kernel
theorem d310_10 : dc 310 10 = some (.imul, 11) := by decide +kernel
theorem d310_11 : dc 310 11 = some (.aload_n 0, 12) := by decide +kernel
theorem d310_12 : dc 310 12 = some (.dload 1664, 15) := by decide +kernel
theorem d310_15 : dc 310 15 = some (.dload 1427, 18) := by decide +kernel
theorem d310_18 : dc 310 18 = some (.iload_n 1, 19) := by decide +kernel
theorem d310_19 : dc 310 19 = some (.iaload, 20) := by decide +kernel
theorem d310_20 : dc 310 20 = some (.aload_n 0, 21) := by decide +kernel
theorem d310_21 : dc 310 21 = some (.dload 1664, 24) := by decide +kernel
theorem d310_24 : dc 310 24 = some (.dload 1426, 27) := by decide +kernel
theorem d310_27 : dc 310 27 = some (.bipush 12, 29) := by decide +kernel
theorem d310_29 : dc 310 29 = some (.iload_n 2, 30) := by decide +kernel
theorem d310_30 : dc 310 30 = some (.imul, 31) := by decide +kernel
theorem d310_31 : dc 310 31 = some (.aload_n 0, 32) := by decide +kernel
theorem d310_32 : dc 310 32 = some (.dload 1664, 35) := by decide +kernel
theorem d310_35 : dc 310 35 = some (.dload 1427, 38) := by decide +kernel
theorem d310_38 : dc 310 38 = some (.iload_n 2, 39) := by decide +kernel
theorem d310_39 : dc 310 39 = some (.iaload, 40) := by decide +kernel
theorem d310_40 : dc 310 40 = some (.invokevirtual 304, 43) := by decide +kernel
theorem d310_43 : dc 310 43 = some (.ireturn, 44) := by decide +kernel
theorem k_M_compareInputs {S : Shp} {G : Nat → Option Nat} {d : Nat} {h : Hp} {Q : Option MV → Hp → Prop} {m : Nat} {r1 : Int} {r2 : Int} {P0 : PlV} {u k v i : Nat} (ok : Ok S h) (h1 : 1 ≤ d) (hm : sK S m = 14) (NF : DfC S h (sT S 1664 m) P0) (e1 : r1 = ((6 * u + k : Nat) : Int)) (e2 : r2 = ((6 * v + i : Nat) : Int)) (hu : u < P0.2.2.length) (hk : k < (tgI (tD P0.2.2 u)).length) (hv : v < P0.2.2.length) (hi : i < (tgI (tD P0.2.2 v)).length)
    (kk : Q (some (vI (cmpL (inN (tgI (tD P0.2.2 u)) k) (inN (tgI (tD P0.2.2 v)) i)))) h) : Cl G d 310 [vR (some m), vI r1, vI r2] h Q := by
  show Wp G d 310 0 [some (vR (some m)), some (vI r1), some (vI r2)] [] h Q
  have NF_0 := NF
  subst e1 e2
  have htl := NF.2.2.2.1
  have hd0 := kT1664 ok hm
  have k6 : k < 6 := by have := (NF.2.2.2.2 u hu).2.2.2.2.2.2.2.2.2.2.1; omega
  have i6 : i < 6 := by have := (NF.2.2.2.2 v hv).2.2.2.2.2.2.2.2.2.2.1; omega
  obtain ⟨p1, p2, p3, p4⟩ := ((NF.2.2.2.2 u hu).2.2.2.2.2.2.2.2.2.2.2.1 k hk)
  obtain ⟨q1, q2, q3, q4⟩ := ((NF.2.2.2.2 v hv).2.2.2.2.2.2.2.2.2.2.2.1 i hi)
  refine w_aload_n d310_0 rfl ?_
  refine w_dloadS d310_1 (ok.kd hm) (fr1664 ok hm) ?_
  refine w_dloadS d310_4 (ok.kd (kT1664 ok hm)) (fr1426 ok (kT1664 ok hm)) ?_
  refine w_bipush d310_7 (by decide) ?_
  refine w_iload_n d310_9 rfl ?_
  refine w_imul d310_10 (by constructor <;> omega) ?_
  rw [show (12 : Int) * (((6 * u + k) : Nat) : Int) = ((12 * (6 * u + k) : Nat) : Int) by omega]
  refine w_aload_n d310_11 rfl ?_
  refine w_dloadS d310_12 (ok.kd hm) (fr1664 ok hm) ?_
  refine w_dloadS d310_15 (ok.kd (kT1664 ok hm)) (fr1427 ok (kT1664 ok hm)) ?_
  refine w_iload_n d310_18 rfl ?_
  refine w_ialoadV (x := ((inN (tgI (tD P0.2.2 u)) k).length : Int)) d310_19 (gi1427 ok (kT1664 ok hm) (by omega)) p2 ?_
  refine w_aload_n d310_20 rfl ?_
  refine w_dloadS d310_21 (ok.kd hm) (fr1664 ok hm) ?_
  refine w_dloadS d310_24 (ok.kd (kT1664 ok hm)) (fr1426 ok (kT1664 ok hm)) ?_
  refine w_bipush d310_27 (by decide) ?_
  refine w_iload_n d310_29 rfl ?_
  refine w_imul d310_30 (by constructor <;> omega) ?_
  rw [show (12 : Int) * (((6 * v + i) : Nat) : Int) = ((12 * (6 * v + i) : Nat) : Int) by omega]
  refine w_aload_n d310_31 rfl ?_
  refine w_dloadS d310_32 (ok.kd hm) (fr1664 ok hm) ?_
  refine w_dloadS d310_35 (ok.kd (kT1664 ok hm)) (fr1427 ok (kT1664 ok hm)) ?_
  refine w_iload_n d310_38 rfl ?_
  refine w_ialoadV (x := ((inN (tgI (tD P0.2.2 v)) i).length : Int)) d310_39 (gi1427 ok (kT1664 ok hm) (by omega)) q2 ?_
  refine w_calls6 d310_40 (by omega) rfl rfl (by simp) (Nat.le_of_ble_eq_true rfl) ?_
  refine k_M_compareSigns ok (by omega) rfl rfl p4 q4 (p4.le (fun i => (ra1426 ok hd0 i).2)) (q4.le (fun i => (ra1426 ok hd0 i).2)) ?_
  refine w_ireturn d310_43 ?_
  exact kk
theorem d309_0 : dc 309 0 = some (.aload_n 0, 1) := by decide +kernel
theorem d309_1 : dc 309 1 = some (.dload 1664, 4) := by decide +kernel
theorem d309_4 : dc 309 4 = some (.iload_n 1, 5) := by decide +kernel
theorem d309_5 : dc 309 5 = some (.invokevirtual 230, 8) := by decide +kernel
theorem d309_8 : dc 309 8 = some (.istore_n 2, 9) := by decide +kernel
theorem d309_9 : dc 309 9 = some (.iconst 0, 10) := by decide +kernel
theorem d309_10 : dc 309 10 = some (.istore_n 3, 11) := by decide +kernel
theorem d309_11 : dc 309 11 = some (.iload_n 3, 12) := by decide +kernel
theorem d309_12 : dc 309 12 = some (.aload_n 0, 13) := by decide +kernel
theorem d309_13 : dc 309 13 = some (.dload 1664, 16) := by decide +kernel
theorem d309_16 : dc 309 16 = some (.getfield 1417, 19) := by decide +kernel
theorem d309_19 : dc 309 19 = some (.if_icmp .ge ((59 : Nat) : Int), 22) := by decide +kernel
theorem d309_22 : dc 309 22 = some (.iload_n 3, 23) := by decide +kernel
theorem d309_23 : dc 309 23 = some (.iload_n 1, 24) := by decide +kernel
theorem d309_24 : dc 309 24 = some (.if_icmp .eq ((53 : Nat) : Int), 27) := by decide +kernel
theorem d309_27 : dc 309 27 = some (.iload_n 2, 28) := by decide +kernel
theorem d309_28 : dc 309 28 = some (.iload_n 3, 29) := by decide +kernel
theorem d309_29 : dc 309 29 = some (.ishr, 30) := by decide +kernel
theorem d309_30 : dc 309 30 = some (.iconst 1, 31) := by decide +kernel
theorem d309_31 : dc 309 31 = some (.iand, 32) := by decide +kernel
theorem d309_32 : dc 309 32 = some (.ifCond .ne ((38 : Nat) : Int), 35) := by decide +kernel
theorem d309_35 : dc 309 35 = some (.goto ((53 : Nat) : Int), 38) := by decide +kernel
theorem d309_38 : dc 309 38 = some (.aload_n 0, 39) := by decide +kernel
theorem d309_39 : dc 309 39 = some (.aload_n 0, 40) := by decide +kernel
theorem d309_40 : dc 309 40 = some (.dload 1664, 43) := by decide +kernel
theorem d309_43 : dc 309 43 = some (.iload_n 3, 44) := by decide +kernel
theorem d309_44 : dc 309 44 = some (.invokevirtual 293, 47) := by decide +kernel
theorem d309_47 : dc 309 47 = some (.aload_n 0, 48) := by decide +kernel
theorem d309_48 : dc 309 48 = some (.bipush 59, 50) := by decide +kernel
theorem d309_50 : dc 309 50 = some (.invokevirtual 218, 53) := by decide +kernel
theorem d309_53 : dc 309 53 = some (.iinc 3 1, 56) := by decide +kernel
theorem d309_56 : dc 309 56 = some (.goto ((11 : Nat) : Int), 59) := by decide +kernel
theorem d309_59 : dc 309 59 = some (.iconst (-1), 60) := by decide +kernel
theorem d309_60 : dc 309 60 = some (.istore_n 3, 61) := by decide +kernel
theorem d309_61 : dc 309 61 = some (.iconst 1, 62) := by decide +kernel
theorem d309_62 : dc 309 62 = some (.istore 4, 64) := by decide +kernel
theorem d309_64 : dc 309 64 = some (.iload 4, 66) := by decide +kernel
theorem d309_66 : dc 309 66 = some (.ifCond .eq ((247 : Nat) : Int), 69) := by decide +kernel
theorem d309_69 : dc 309 69 = some (.iconst (-1), 70) := by decide +kernel
theorem d309_70 : dc 309 70 = some (.istore 5, 72) := by decide +kernel
theorem d309_72 : dc 309 72 = some (.iconst 0, 73) := by decide +kernel
theorem d309_73 : dc 309 73 = some (.istore 6, 75) := by decide +kernel
theorem d309_75 : dc 309 75 = some (.iload 6, 77) := by decide +kernel
theorem d309_77 : dc 309 77 = some (.aload_n 0, 78) := by decide +kernel
theorem d309_78 : dc 309 78 = some (.dload 1664, 81) := by decide +kernel
theorem d309_81 : dc 309 81 = some (.getfield 1417, 84) := by decide +kernel
theorem d309_84 : dc 309 84 = some (.if_icmp .ge ((189 : Nat) : Int), 87) := by decide +kernel
theorem d309_87 : dc 309 87 = some (.iload_n 2, 88) := by decide +kernel
theorem d309_88 : dc 309 88 = some (.iload 6, 90) := by decide +kernel
theorem d309_90 : dc 309 90 = some (.ishr, 91) := by decide +kernel
theorem d309_91 : dc 309 91 = some (.iconst 1, 92) := by decide +kernel
theorem d309_92 : dc 309 92 = some (.iand, 93) := by decide +kernel
theorem d309_93 : dc 309 93 = some (.ifCond .ne ((99 : Nat) : Int), 96) := by decide +kernel
theorem d309_96 : dc 309 96 = some (.goto ((183 : Nat) : Int), 99) := by decide +kernel
theorem d309_99 : dc 309 99 = some (.iconst 0, 100) := by decide +kernel
theorem d309_100 : dc 309 100 = some (.istore 7, 102) := by decide +kernel
theorem d309_102 : dc 309 102 = some (.iload 7, 104) := by decide +kernel
theorem d309_104 : dc 309 104 = some (.aload_n 0, 105) := by decide +kernel
theorem d309_105 : dc 309 105 = some (.dload 1664, 108) := by decide +kernel
theorem d309_108 : dc 309 108 = some (.dload 1424, 111) := by decide +kernel
theorem d309_111 : dc 309 111 = some (.iload 6, 113) := by decide +kernel
theorem d309_113 : dc 309 113 = some (.iaload, 114) := by decide +kernel
theorem d309_114 : dc 309 114 = some (.if_icmp .ge ((183 : Nat) : Int), 117) := by decide +kernel
theorem d309_117 : dc 309 117 = some (.bipush 6, 119) := by decide +kernel
theorem d309_119 : dc 309 119 = some (.iload 6, 121) := by decide +kernel
theorem d309_121 : dc 309 121 = some (.imul, 122) := by decide +kernel
theorem d309_122 : dc 309 122 = some (.iload 7, 124) := by decide +kernel
theorem d309_124 : dc 309 124 = some (.iadd, 125) := by decide +kernel
theorem d309_125 : dc 309 125 = some (.istore 8, 127) := by decide +kernel
theorem d309_127 : dc 309 127 = some (.aload_n 0, 128) := by decide +kernel
theorem d309_128 : dc 309 128 = some (.dload 1664, 131) := by decide +kernel
theorem d309_131 : dc 309 131 = some (.dload 1425, 134) := by decide +kernel
theorem d309_134 : dc 309 134 = some (.iload 8, 136) := by decide +kernel
theorem d309_136 : dc 309 136 = some (.baload, 137) := by decide +kernel
theorem d309_137 : dc 309 137 = some (.ifCond .ne ((177 : Nat) : Int), 140) := by decide +kernel
theorem d309_140 : dc 309 140 = some (.iload_n 3, 141) := by decide +kernel
theorem d309_141 : dc 309 141 = some (.ifCond .lt ((157 : Nat) : Int), 144) := by decide +kernel
theorem d309_144 : dc 309 144 = some (.aload_n 0, 145) := by decide +kernel
theorem d309_145 : dc 309 145 = some (.iload 8, 147) := by decide +kernel
theorem d309_147 : dc 309 147 = some (.iload_n 3, 148) := by decide +kernel
theorem d309_148 : dc 309 148 = some (.invokevirtual 310, 151) := by decide +kernel
theorem d309_151 : dc 309 151 = some (.ifCond .gt ((157 : Nat) : Int), 154) := by decide +kernel
theorem d309_154 : dc 309 154 = some (.goto ((177 : Nat) : Int), 157) := by decide +kernel
theorem d309_157 : dc 309 157 = some (.iload 5, 159) := by decide +kernel
theorem d309_159 : dc 309 159 = some (.ifCond .lt ((173 : Nat) : Int), 162) := by decide +kernel
theorem d309_162 : dc 309 162 = some (.aload_n 0, 163) := by decide +kernel
theorem d309_163 : dc 309 163 = some (.iload 8, 165) := by decide +kernel
theorem d309_165 : dc 309 165 = some (.iload 5, 167) := by decide +kernel
theorem d309_167 : dc 309 167 = some (.invokevirtual 310, 170) := by decide +kernel
theorem d309_170 : dc 309 170 = some (.ifCond .ge ((177 : Nat) : Int), 173) := by decide +kernel
theorem d309_173 : dc 309 173 = some (.iload 8, 175) := by decide +kernel
theorem d309_175 : dc 309 175 = some (.istore 5, 177) := by decide +kernel
theorem d309_177 : dc 309 177 = some (.iinc 7 1, 180) := by decide +kernel
theorem d309_180 : dc 309 180 = some (.goto ((102 : Nat) : Int), 183) := by decide +kernel
theorem d309_183 : dc 309 183 = some (.iinc 6 1, 186) := by decide +kernel
theorem d309_186 : dc 309 186 = some (.goto ((75 : Nat) : Int), 189) := by decide +kernel
theorem d309_189 : dc 309 189 = some (.iload 5, 191) := by decide +kernel
theorem d309_191 : dc 309 191 = some (.ifCond .lt ((198 : Nat) : Int), 194) := by decide +kernel
theorem d309_194 : dc 309 194 = some (.iconst 1, 195) := by decide +kernel
theorem d309_195 : dc 309 195 = some (.goto ((199 : Nat) : Int), 198) := by decide +kernel
theorem d309_198 : dc 309 198 = some (.iconst 0, 199) := by decide +kernel
theorem d309_199 : dc 309 199 = some (.istore 4, 201) := by decide +kernel
theorem d309_201 : dc 309 201 = some (.iload 4, 203) := by decide +kernel
theorem d309_203 : dc 309 203 = some (.ifCond .ne ((209 : Nat) : Int), 206) := by decide +kernel
theorem d309_206 : dc 309 206 = some (.goto ((64 : Nat) : Int), 209) := by decide +kernel
theorem d309_209 : dc 309 209 = some (.aload_n 0, 210) := by decide +kernel
theorem d309_210 : dc 309 210 = some (.aload_n 0, 211) := by decide +kernel
theorem d309_211 : dc 309 211 = some (.dload 1664, 214) := by decide +kernel
theorem d309_214 : dc 309 214 = some (.dload 1426, 217) := by decide +kernel
theorem d309_217 : dc 309 217 = some (.bipush 12, 219) := by decide +kernel
theorem d309_219 : dc 309 219 = some (.iload 5, 221) := by decide +kernel
theorem d309_221 : dc 309 221 = some (.imul, 222) := by decide +kernel
theorem d309_222 : dc 309 222 = some (.aload_n 0, 223) := by decide +kernel
theorem d309_223 : dc 309 223 = some (.dload 1664, 226) := by decide +kernel
theorem d309_226 : dc 309 226 = some (.dload 1427, 229) := by decide +kernel
theorem d309_229 : dc 309 229 = some (.iload 5, 231) := by decide +kernel
theorem d309_231 : dc 309 231 = some (.iaload, 232) := by decide +kernel
theorem d309_232 : dc 309 232 = some (.invokevirtual 294, 235) := by decide +kernel
theorem d309_235 : dc 309 235 = some (.aload_n 0, 236) := by decide +kernel
theorem d309_236 : dc 309 236 = some (.bipush 44, 238) := by decide +kernel
theorem d309_238 : dc 309 238 = some (.invokevirtual 218, 241) := by decide +kernel
theorem d309_241 : dc 309 241 = some (.iload 5, 243) := by decide +kernel
theorem d309_243 : dc 309 243 = some (.istore_n 3, 244) := by decide +kernel
theorem d309_244 : dc 309 244 = some (.goto ((64 : Nat) : Int), 247) := by decide +kernel
theorem d309_247 : dc 309 247 = some (.return_, 248) := by decide +kernel
theorem k_M_tellNeeds {S : Shp} {G : Nat → Option Nat} {d : Nat} {h : Hp} {Q : Option MV → Hp → Prop} {m : Nat} {t : Nat} {P0 : PlV} {la : List Nat} {sel : Nat → Bool} {ps : List (List Nat)} (ok : Ok S h) (h1 : 5 ≤ d) (hm : sK S m = 14) (TE : TeR S h m la) (NF : DfC S h (sT S 1664 m) P0) (ht : t < P0.2.2.length) (hH : tH P0.2.2 t = true) (hs : ∀ u, u < P0.2.2.length → (sel u = true ↔ Rc P0.2.2 t u ∧ u ≠ t)) (hp : List.Pairwise ltP ps) (hn : ∀ n, n ∈ ps ↔ nmd P0.2.2 t n) (oi : ∀ u k, u < P0.2.2.length → k < (tgI (tD P0.2.2 u)).length → okP (inN (tgI (tD P0.2.2 u)) k) ∧ cln (inN (tgI (tD P0.2.2 u)) k)) (hcl : ∀ u, cln (tgN (tD P0.2.2 u)))
    (kk : ∀ h', Fr S m [1732, 1733] h h' → TeR S h' m (addBs 20000 la (mkTxt P0.2.2 sel P0.2.2.length ++ psTxt ps)) → Q none h') : Cl G d 309 [vR (some m), vI (t : Nat)] h Q := by
  show Wp G d 309 0 [some (vR (some m)), some (vI (t : Nat)), none, none, none, none, none, none, none] [] h Q
  have TE_0 := TE
  have NF_0 := NF
  have htl := NF.2.2.2.1
  have hd0 := kT1664 ok hm
  have op : ∀ n, n ∈ ps → okP n := fun n h => by
    obtain ⟨u, u1, u2, i, i1, i2, i3⟩ := (hn n).mp h
    rw [← i3]; exact (oi u i u1 i1).1
  have gm : ∀ a, a < ps.length → ps.getD a [] ∈ ps := fun a ha => by rw [List.getD_eq_getElem?_getD, List.getElem?_eq_getElem ha]; exact List.getElem_mem ha
  have hK : ∀ a c, a < c → c < ps.length → kN (ps.getD a []) < kN (ps.getD c []) := fun a c h1 h2 => by
    have := List.pairwise_iff_getElem.mp hp a c (by omega) h2 h1
    rw [← ltP_kN (op _ (gm a (by omega))) (op _ (gm c h2)), List.getD_eq_getElem?_getD, List.getD_eq_getElem?_getD, List.getElem?_eq_getElem h2, List.getElem?_eq_getElem (show a < ps.length by omega)]
    exact this
  refine w_aload_n d309_0 rfl ?_
  refine w_dloadS d309_1 (ok.kd hm) (fr1664 ok hm) ?_
  refine w_iload_n d309_4 rfl ?_
  refine w_callv2 d309_5 (by omega) rfl (ok.kd (kT1664 ok hm)) (by simp) (Nat.le_of_ble_eq_true rfl) ?_
  refine k_D_needs ok (by omega) (kT1664 ok hm) NF.2.2 ht hH (fun n5 nl5 nb5 => ?_)
  have hS : ∀ x, ScN P0.2.2 n5 P0.2.2.length 0 x ↔ ∃ a, a < ps.length ∧ x = kN (ps.getD a []) := fun x => ⟨fun ⟨v, i, v1, v2, v3, v4, v5, v6⟩ => by
    have mem := (hn _).mpr ⟨v, v1, (nb5 v).mp v3, i, v4, v5, rfl⟩
    obtain ⟨a, ha, e⟩ := List.getElem_of_mem mem
    exact ⟨a, ha, by rw [v6, List.getD_eq_getElem?_getD, List.getElem?_eq_getElem ha, Option.getD_some, e]⟩, fun ⟨a, ha, e⟩ => by
    obtain ⟨u, u1, u2, i, i1, i2, i3⟩ := (hn _).mp (gm a ha)
    exact ⟨u, i, u1, Or.inl u1, (nb5 u).mpr u2, i1, i2, by rw [e, i3]⟩⟩
  refine w_istore2 d309_8 rfl ?_
  refine w_iconst d309_9 (by decide) ?_
  refine w_istore3 d309_10 rfl ?_
  have L11 : ∀ (m11 : Nat) (g11 : Hp) (u : Nat), P0.2.2.length - u = m11 → Fr S m [1732, 1733] h g11 → (u ≤ P0.2.2.length) → (TeR S g11 m (addBs 20000 la (mkTxt P0.2.2 sel u))) → Wp G d 309 11 [some (vR (some m)), some (vI (t : Nat)), some (vI (n5 : Nat)), some (vI (u : Nat)), none, none, none, none, none] [] g11 Q := by
    intro m11
    induction m11 using Nat.strongRecOn with | ind m11 IH11 => ?_
    intro g11 u hm11 FRg11 ul TE
    have okg11 := FRg11.ok
    have NF := DfC.r (f := 1664) FRg11 hm (by decide) NF_0
    refine w_iload_n d309_11 rfl ?_
    refine w_aload_n d309_12 rfl ?_
    refine w_dloadS d309_13 (okg11.kd hm) (fr1664 okg11 hm) ?_
    refine w_getI (x := ((P0.2.2.length : Nat) : Int)) d309_16 (okg11.kd (kT1664 okg11 hm)) NF.2.2.1 ?_
    refine w_icmpge d309_19 (fun c19 => ?_) (fun c19 => ?_)
    · rw [show u = P0.2.2.length by omega] at TE
      refine w_iconst d309_59 (by decide) ?_
      refine w_istore3 d309_60 rfl ?_
      refine w_iconst d309_61 (by decide) ?_
      refine w_istore4 d309_62 rfl ?_
      have L64 : ∀ (m64 : Nat) (g64 : Hp) (j : Nat) (last : Int) (mo : Bool), 2 * (ps.length - j) + (if mo = true then 1 else 0) = m64 → Fr S m [1732, 1733] h g64 → (j ≤ ps.length) → (TeR S g64 m (addBs 20000 la (mkTxt P0.2.2 sel P0.2.2.length ++ psTxt (ps.take j)))) → ((j = 0 ∧ last = -1) ∨ (0 < j ∧ ∃ y i : Nat, last = ((6 * y + i : Nat) : Int) ∧ y < P0.2.2.length ∧ i < (tgI (tD P0.2.2 y)).length ∧ inN (tgI (tD P0.2.2 y)) i = ps.getD (j - 1) [])) → (mo = false → j = ps.length) → Wp G d 309 64 [some (vR (some m)), some (vI (t : Nat)), some (vI (n5 : Nat)), some (vI last), some (vI (b2i mo)), none, none, none, none] [] g64 Q := by
        intro m64
        induction m64 using Nat.strongRecOn with | ind m64 IH64 => ?_
        intro g64 j last mo hm64 FRg64 jl TE la_ hmo
        have okg64 := FRg64.ok
        have NF := DfC.r (f := 1664) FRg64 hm (by decide) NF_0
        refine w_iload d309_64 rfl ?_
        refine w_ifeq d309_66 (fun c66 => ?_) (fun c66 => ?_)
        · have mf : mo = false := by
            cases hz : mo with
            | true => rw [hz] at c66; exact absurd c66 (by decide)
            | false => rfl
          have jn := hmo mf
          rw [jn, List.take_length] at TE
          refine w_return d309_247 ?_
          exact kk g64 FRg64 TE
        · have mt : mo = true := by
            cases hz : mo with
            | true => rfl
            | false => rw [hz] at c66; exact absurd rfl c66
          refine w_iconst d309_69 (by decide) ?_
          refine w_istore5 d309_70 rfl ?_
          refine w_iconst d309_72 (by decide) ?_
          refine w_istore6 d309_73 rfl ?_
          have L75 : ∀ (m75 : Nat) (u : Nat) (best : Int) (bv : Nat), P0.2.2.length - u = m75 → (u ≤ P0.2.2.length) → (BsI (ScN P0.2.2 n5 u 0) (fun x => j = 0 ∨ kN (ps.getD (j - 1) []) < x) best bv) → (RwV P0.2.2 best bv) → Wp G d 309 75 [some (vR (some m)), some (vI (t : Nat)), some (vI (n5 : Nat)), some (vI last), some (vI (b2i mo)), some (vI best), some (vI (u : Nat)), none, none] [] g64 Q := by
            intro m75
            induction m75 using Nat.strongRecOn with | ind m75 IH75 => ?_
            intro u best bv hm75 ul bi rv
            refine w_iload d309_75 rfl ?_
            refine w_aload_n d309_77 rfl ?_
            refine w_dloadS d309_78 (okg64.kd hm) (fr1664 okg64 hm) ?_
            refine w_getI (x := ((P0.2.2.length : Nat) : Int)) d309_81 (okg64.kd (kT1664 okg64 hm)) NF.2.2.1 ?_
            refine w_icmpge d309_84 (fun c84 => ?_) (fun c84 => ?_)
            · rw [show u = P0.2.2.length by omega] at bi
              have bf := bi.fin hS hK (fun x => Iff.rfl) jl
              refine w_iload d309_189 rfl ?_
              refine w_iflt d309_191 (fun c191 => ?_) (fun c191 => ?_)
              · have bb : best = -1 := by rcases bi with z | z <;> omega
                have jn := bf.1 bb
                refine w_iconst d309_198 (by decide) ?_
                refine w_istore4 d309_199 rfl ?_
                refine w_iload d309_201 rfl ?_
                refine w_ifne d309_203 (fun c203 => ?_) (fun c203 => ?_)
                · exact absurd rfl c203
                · refine w_goto d309_206 ?_
                  refine w_less ?_ (IH64 _ (by rw [mt] at hm64; simp at hm64 ⊢; omega) g64 j last false rfl FRg64 jl TE la_ (fun _ => jn))
                  exact ⟨Or.inr rfl, Or.inr rfl, Or.inr rfl, Or.inr rfl, Or.inr rfl, Or.inl rfl, Or.inl rfl, Or.inl rfl, Or.inl rfl, trivial⟩
              · have b0 : 0 ≤ best := by omega
                obtain ⟨jn, bv_⟩ := bf.2 b0
                obtain ⟨w, a, lw, vw_, ia, ea⟩ := rv b0
                have a6 : a < 6 := by have := (NF.2.2.2.2 w vw_).2.2.2.2.2.2.2.2.2.2.1; omega
                have nm : inN (tgI (tD P0.2.2 w)) a = ps.getD j [] := (kN_inj (oi w a vw_ ia).1 (op _ (gm j jn))).mp (ea.trans bv_)
                obtain ⟨p1, p2, p3, p4⟩ := (NF.2.2.2.2 w vw_).2.2.2.2.2.2.2.2.2.2.2.1 a ia
                have nb := nb_fd (f := 1426) (g := 1732) (fd := 1664) (m := m) ok (by decide) (by decide) (by decide)
                refine w_iconst d309_194 (by decide) ?_
                refine w_goto d309_195 ?_
                refine w_istore4 d309_199 rfl ?_
                refine w_iload d309_201 rfl ?_
                refine w_ifne d309_203 (fun c203 => ?_) (fun c203 => ?_)
                · refine w_aload_n d309_209 rfl ?_
                  refine w_aload_n d309_210 rfl ?_
                  refine w_dloadS d309_211 (okg64.kd hm) (fr1664 okg64 hm) ?_
                  refine w_dloadS d309_214 (okg64.kd (kT1664 okg64 hm)) (fr1426 okg64 (kT1664 okg64 hm)) ?_
                  refine w_bipush d309_217 (by decide) ?_
                  rw [lw]
                  refine w_iload d309_219 rfl ?_
                  refine w_imul d309_221 (by constructor <;> omega) ?_
                  rw [show (12 : Int) * (((6 * w + a) : Nat) : Int) = ((12 * (6 * w + a) : Nat) : Int) by omega]
                  refine w_aload_n d309_222 rfl ?_
                  refine w_dloadS d309_223 (okg64.kd hm) (fr1664 okg64 hm) ?_
                  refine w_dloadS d309_226 (okg64.kd (kT1664 okg64 hm)) (fr1427 okg64 (kT1664 okg64 hm)) ?_
                  refine w_iload d309_229 rfl ?_
                  refine w_ialoadV (x := ((inN (tgI (tD P0.2.2 w)) a).length : Int)) d309_231 (gi1427 okg64 (kT1664 okg64 hm) (by omega)) p2 ?_
                  refine w_callv4 d309_232 (by omega) rfl (okg64.kd hm) (by simp) (Nat.le_of_ble_eq_true rfl) ?_
                  refine k_M_sayBytes okg64 (by omega) hm TE rfl p4 nb (p4.le (fun i => (ra1426 okg64 hd0 i).2)) (fun h232 m232 q232 TE => ?_)
                  have f232 : Fr S m [1732, 1733] _ _ := Fr.mk okg64 m232 (fun ζ q => q.elim ((fun ζ e => Or.inl e) ζ) ((fun ζ e => Or.inr ⟨1732, by decide, e ▸ U_refl⟩) ζ)) q232 (by decide)
                  have ok232 := f232.ok
                  have FR232 := Fr.tr (F := [1732, 1733]) FRg64 f232 (by decide) (by decide)
                  have NF := DfC.r (f := 1664) f232 hm (by decide) NF
                  rw [(oi w a vw_ ia).2.map, nm] at TE
                  refine w_aload_n d309_235 rfl ?_
                  refine w_bipush d309_236 (by decide) ?_
                  refine w_callv2 d309_238 (by omega) rfl (ok232.kd hm) (by simp) (Nat.le_of_ble_eq_true rfl) ?_
                  refine k_M_put (c := 44) ok232 (by omega) hm TE (by omega) (fun h238 m238 q238 TE => ?_)
                  have f238 : Fr S m [1732, 1733] _ _ := Fr.mk ok232 m238 (fun ζ q => q.elim ((fun ζ e => Or.inl e) ζ) ((fun ζ e => Or.inr ⟨1732, by decide, e ▸ U_refl⟩) ζ)) q238 (by decide)
                  have ok238 := f238.ok
                  have FR238 := Fr.tr (F := [1732, 1733]) FR232 f238 (by decide) (by decide)
                  have NF := DfC.r (f := 1664) f238 hm (by decide) NF
                  rw [← addBs_app, ← addBs_app, List.append_assoc, ← psTxt_s jn] at TE
                  refine w_iload d309_241 rfl ?_
                  refine w_istore3 d309_243 rfl ?_
                  refine w_goto d309_244 ?_
                  refine w_less ?_ (IH64 _ (by rw [mt] at hm64; simp at hm64 ⊢; omega) h238 (j + 1) ((6 * w + a : Nat) : Int) true rfl FR238 (by omega) TE (Or.inr ⟨by omega, w, a, rfl, vw_, ia, nm⟩) (fun z => absurd z (by decide)))
                  exact ⟨Or.inr rfl, Or.inr rfl, Or.inr rfl, Or.inr rfl, Or.inr rfl, Or.inl rfl, Or.inl rfl, Or.inl rfl, Or.inl rfl, trivial⟩
                · exact absurd c203 (by decide)
            · have hu : u < P0.2.2.length := by omega
              refine w_iload_n d309_87 rfl ?_
              refine w_iload d309_88 rfl ?_
              refine w_ishr d309_90 ?_
              rw [shr_n (n := n5) (u := u) (by omega) (by omega)]
              refine w_iconst d309_91 (by decide) ?_
              refine w_iand d309_92 ?_
              rw [and_1 (a := n5 / 2 ^ u) (div_lt (by omega))]
              refine w_ifne d309_93 (fun c93 => ?_) (fun c93 => ?_)
              · have bu : bt n5 u := by unfold bt; have := bt_v n5 u; omega
                refine w_iconst d309_99 (by decide) ?_
                refine w_istore7 d309_100 rfl ?_
                have L102 : ∀ (m102 : Nat) (k : Nat) (best : Int) (bv : Nat), (tgI (tD P0.2.2 u)).length - k = m102 → (k ≤ (tgI (tD P0.2.2 u)).length) → (BsI (ScN P0.2.2 n5 u k) (fun x => j = 0 ∨ kN (ps.getD (j - 1) []) < x) best bv) → (RwV P0.2.2 best bv) → Wp G d 309 102 [some (vR (some m)), some (vI (t : Nat)), some (vI (n5 : Nat)), some (vI last), some (vI (b2i mo)), some (vI best), some (vI (u : Nat)), some (vI (k : Nat)), none] [] g64 Q := by
                  intro m102
                  induction m102 using Nat.strongRecOn with | ind m102 IH102 => ?_
                  intro k best bv hm102 kl bk rv
                  refine w_iload d309_102 rfl ?_
                  refine w_aload_n d309_104 rfl ?_
                  refine w_dloadS d309_105 (okg64.kd hm) (fr1664 okg64 hm) ?_
                  refine w_dloadS d309_108 (okg64.kd (kT1664 okg64 hm)) (fr1424 okg64 (kT1664 okg64 hm)) ?_
                  refine w_iload d309_111 rfl ?_
                  refine w_ialoadV (x := (((tgI (tD P0.2.2 u)).length : Nat) : Int)) d309_113 (gi1424 okg64 (kT1664 okg64 hm) (by omega)) (NF.2.2.2.2 u hu).2.2.2.2.2.2.2.2.2.1 ?_
                  refine w_icmpge d309_114 (fun c114 => ?_) (fun c114 => ?_)
                  · have ek : (tgI (tD P0.2.2 u)).length = k := by omega
                    refine w_iinc6 d309_183 rfl (by constructor <;> omega) ?_
                    refine w_goto d309_186 ?_
                    rw [show ((u : Nat) : Int) + 1 = ((u + 1 : Nat) : Int) by omega]
                    refine w_less ?_ (IH75 _ (by omega) (u + 1) best bv rfl (by omega) (by first | exact bi.cg (fun x => ScN.u bu) | exact bk.cg (fun x => ScN.e ek)) rv)
                    exact ⟨Or.inr rfl, Or.inr rfl, Or.inr rfl, Or.inr rfl, Or.inr rfl, Or.inr rfl, Or.inr rfl, Or.inl rfl, Or.inl rfl, trivial⟩
                  · have hk : k < (tgI (tD P0.2.2 u)).length := by omega
                    have hk6 : k < 6 := by have := (NF.2.2.2.2 u hu).2.2.2.2.2.2.2.2.2.2.1; omega
                    have oi1 := oi u k hu hk
                    refine w_bipush d309_117 (by decide) ?_
                    refine w_iload d309_119 rfl ?_
                    refine w_imul d309_121 (by constructor <;> omega) ?_
                    rw [show (6 : Int) * ((u : Nat) : Int) = ((6 * u : Nat) : Int) by omega]
                    refine w_iload d309_122 rfl ?_
                    refine w_iadd d309_124 (by constructor <;> omega) ?_
                    rw [show ((6 * u : Nat) : Int) + ((k : Nat) : Int) = ((6 * u + k : Nat) : Int) by omega]
                    refine w_istore8 d309_125 rfl ?_
                    refine w_aload_n d309_127 rfl ?_
                    refine w_dloadS d309_128 (okg64.kd hm) (fr1664 okg64 hm) ?_
                    refine w_dloadS d309_131 (okg64.kd (kT1664 okg64 hm)) (fr1425 okg64 (kT1664 okg64 hm)) ?_
                    refine w_iload d309_134 rfl ?_
                    refine w_baloadV (x := (b2i (inB (tgI (tD P0.2.2 u)) k))) d309_136 (gi1425 okg64 (kT1664 okg64 hm) (by omega)) (((NF.2.2.2.2 u hu).2.2.2.2.2.2.2.2.2.2.2.1 k hk).1) ?_
                    refine w_ifne d309_137 (fun c137 => ?_) (fun c137 => ?_)
                    · have ib : (inB (tgI (tD P0.2.2 u)) k) = true := by
                        cases hz : (inB (tgI (tD P0.2.2 u)) k) with
                        | true => rfl
                        | false => rw [hz] at c137; exact absurd rfl c137
                      refine w_iinc7 d309_177 rfl (by constructor <;> omega) ?_
                      refine w_goto d309_180 ?_
                      rw [show ((k : Nat) : Int) + 1 = ((k + 1 : Nat) : Int) by omega]
                      refine w_less ?_ (IH102 _ (by omega) (k + 1) best bv rfl (by omega) (by first | exact bk.cg (fun x => ScN.t ib) | exact bk.skip se nq | exact bk.keep se b0 vk) rv)
                      exact ⟨Or.inr rfl, Or.inr rfl, Or.inr rfl, Or.inr rfl, Or.inr rfl, Or.inr rfl, Or.inr rfl, Or.inr rfl, Or.inl rfl, trivial⟩
                    · have ib : (inB (tgI (tD P0.2.2 u)) k) = false := by
                        cases hz : (inB (tgI (tD P0.2.2 u)) k) with
                        | true => rw [hz] at c137; exact absurd c137 (by decide)
                        | false => rfl
                      have se := fun x => ScN.s (x := x) hu bu hk ib
                      refine w_iload_n d309_140 rfl ?_
                      refine w_iflt d309_141 (fun c141 => ?_) (fun c141 => ?_)
                      · have qy : (fun x => j = 0 ∨ kN (ps.getD (j - 1) []) < x) (kN (inN (tgI (tD P0.2.2 u)) k)) := by
                          rcases la_ with z | z
                          · exact Or.inl z.1
                          · omega
                        refine w_iload d309_157 rfl ?_
                        refine w_iflt d309_159 (fun c159 => ?_) (fun c159 => ?_)
                        · have bn : best < 0 ∨ kN (inN (tgI (tD P0.2.2 u)) k) ≤ bv := Or.inl (by omega)
                          refine w_iload d309_173 rfl ?_
                          refine w_istore5 d309_175 rfl ?_
                          refine w_iinc7 d309_177 rfl (by constructor <;> omega) ?_
                          refine w_goto d309_180 ?_
                          rw [show ((k : Nat) : Int) + 1 = ((k + 1 : Nat) : Int) by omega]
                          refine w_less ?_ (IH102 _ (by omega) (k + 1) ((6 * u + k : Nat) : Int) (kN (inN (tgI (tD P0.2.2 u)) k)) rfl (by omega) (bk.new se qy bn (by omega)) (fun _ => ⟨u, k, rfl, hu, hk, rfl⟩))
                          exact ⟨Or.inr rfl, Or.inr rfl, Or.inr rfl, Or.inr rfl, Or.inr rfl, Or.inr rfl, Or.inr rfl, Or.inr rfl, Or.inl rfl, trivial⟩
                        · obtain ⟨w, a, lw, vw_, ia, ea⟩ := rv (by omega)
                          have a6 : a < 6 := by have := (NF.2.2.2.2 w vw_).2.2.2.2.2.2.2.2.2.2.1; omega
                          have cr := cmp_kN oi1.1 (oi w a vw_ ia).1
                          refine w_aload_n d309_162 rfl ?_
                          refine w_iload d309_163 rfl ?_
                          refine w_iload d309_165 rfl ?_
                          refine w_callv3 d309_167 (by omega) rfl (okg64.kd hm) (by simp) (Nat.le_of_ble_eq_true rfl) ?_
                          refine k_M_compareInputs okg64 (by omega) hm NF rfl lw hu hk vw_ ia ?_
                          refine w_ifge d309_170 (fun c170 => ?_) (fun c170 => ?_)
                          · have vk : bv ≤ kN (inN (tgI (tD P0.2.2 u)) k) := by rw [← ea]; have := cr.1; omega
                            have b0 : 0 ≤ best := by omega
                            refine w_iinc7 d309_177 rfl (by constructor <;> omega) ?_
                            refine w_goto d309_180 ?_
                            rw [show ((k : Nat) : Int) + 1 = ((k + 1 : Nat) : Int) by omega]
                            refine w_less ?_ (IH102 _ (by omega) (k + 1) best bv rfl (by omega) (by first | exact bk.cg (fun x => ScN.t ib) | exact bk.skip se nq | exact bk.keep se b0 vk) rv)
                            exact ⟨Or.inr rfl, Or.inr rfl, Or.inr rfl, Or.inr rfl, Or.inr rfl, Or.inr rfl, Or.inr rfl, Or.inr rfl, Or.inl rfl, trivial⟩
                          · have bn : best < 0 ∨ kN (inN (tgI (tD P0.2.2 u)) k) ≤ bv := Or.inr (by rw [← ea]; have := cr.1; omega)
                            refine w_iload d309_173 rfl ?_
                            refine w_istore5 d309_175 rfl ?_
                            refine w_iinc7 d309_177 rfl (by constructor <;> omega) ?_
                            refine w_goto d309_180 ?_
                            rw [show ((k : Nat) : Int) + 1 = ((k + 1 : Nat) : Int) by omega]
                            refine w_less ?_ (IH102 _ (by omega) (k + 1) ((6 * u + k : Nat) : Int) (kN (inN (tgI (tD P0.2.2 u)) k)) rfl (by omega) (bk.new se qy bn (by omega)) (fun _ => ⟨u, k, rfl, hu, hk, rfl⟩))
                            exact ⟨Or.inr rfl, Or.inr rfl, Or.inr rfl, Or.inr rfl, Or.inr rfl, Or.inr rfl, Or.inr rfl, Or.inr rfl, Or.inl rfl, trivial⟩
                      · obtain ⟨j0, y, i, ly, vy, iy, ey⟩ : 0 < j ∧ ∃ y i : Nat, last = ((6 * y + i : Nat) : Int) ∧ y < P0.2.2.length ∧ i < (tgI (tD P0.2.2 y)).length ∧ inN (tgI (tD P0.2.2 y)) i = ps.getD (j - 1) [] := by
                          rcases la_ with z | z
                          · omega
                          · exact ⟨z.1, z.2⟩
                        have i6 : i < 6 := by have := (NF.2.2.2.2 y vy).2.2.2.2.2.2.2.2.2.2.1; omega
                        have cq := cmp_kN oi1.1 (oi y i vy iy).1
                        refine w_aload_n d309_144 rfl ?_
                        refine w_iload d309_145 rfl ?_
                        refine w_iload_n d309_147 rfl ?_
                        refine w_callv3 d309_148 (by omega) rfl (okg64.kd hm) (by simp) (Nat.le_of_ble_eq_true rfl) ?_
                        refine k_M_compareInputs okg64 (by omega) hm NF rfl ly hu hk vy iy ?_
                        refine w_ifgt d309_151 (fun c151 => ?_) (fun c151 => ?_)
                        · have qy : (fun x => j = 0 ∨ kN (ps.getD (j - 1) []) < x) (kN (inN (tgI (tD P0.2.2 u)) k)) := Or.inr (by rw [← ey]; have := cq.1; have := cq.2; omega)
                          refine w_iload d309_157 rfl ?_
                          refine w_iflt d309_159 (fun c159 => ?_) (fun c159 => ?_)
                          · have bn : best < 0 ∨ kN (inN (tgI (tD P0.2.2 u)) k) ≤ bv := Or.inl (by omega)
                            refine w_iload d309_173 rfl ?_
                            refine w_istore5 d309_175 rfl ?_
                            refine w_iinc7 d309_177 rfl (by constructor <;> omega) ?_
                            refine w_goto d309_180 ?_
                            rw [show ((k : Nat) : Int) + 1 = ((k + 1 : Nat) : Int) by omega]
                            refine w_less ?_ (IH102 _ (by omega) (k + 1) ((6 * u + k : Nat) : Int) (kN (inN (tgI (tD P0.2.2 u)) k)) rfl (by omega) (bk.new se qy bn (by omega)) (fun _ => ⟨u, k, rfl, hu, hk, rfl⟩))
                            exact ⟨Or.inr rfl, Or.inr rfl, Or.inr rfl, Or.inr rfl, Or.inr rfl, Or.inr rfl, Or.inr rfl, Or.inr rfl, Or.inl rfl, trivial⟩
                          · obtain ⟨w, a, lw, vw_, ia, ea⟩ := rv (by omega)
                            have a6 : a < 6 := by have := (NF.2.2.2.2 w vw_).2.2.2.2.2.2.2.2.2.2.1; omega
                            have cr := cmp_kN oi1.1 (oi w a vw_ ia).1
                            refine w_aload_n d309_162 rfl ?_
                            refine w_iload d309_163 rfl ?_
                            refine w_iload d309_165 rfl ?_
                            refine w_callv3 d309_167 (by omega) rfl (okg64.kd hm) (by simp) (Nat.le_of_ble_eq_true rfl) ?_
                            refine k_M_compareInputs okg64 (by omega) hm NF rfl lw hu hk vw_ ia ?_
                            refine w_ifge d309_170 (fun c170 => ?_) (fun c170 => ?_)
                            · have vk : bv ≤ kN (inN (tgI (tD P0.2.2 u)) k) := by rw [← ea]; have := cr.1; omega
                              have b0 : 0 ≤ best := by omega
                              refine w_iinc7 d309_177 rfl (by constructor <;> omega) ?_
                              refine w_goto d309_180 ?_
                              rw [show ((k : Nat) : Int) + 1 = ((k + 1 : Nat) : Int) by omega]
                              refine w_less ?_ (IH102 _ (by omega) (k + 1) best bv rfl (by omega) (by first | exact bk.cg (fun x => ScN.t ib) | exact bk.skip se nq | exact bk.keep se b0 vk) rv)
                              exact ⟨Or.inr rfl, Or.inr rfl, Or.inr rfl, Or.inr rfl, Or.inr rfl, Or.inr rfl, Or.inr rfl, Or.inr rfl, Or.inl rfl, trivial⟩
                            · have bn : best < 0 ∨ kN (inN (tgI (tD P0.2.2 u)) k) ≤ bv := Or.inr (by rw [← ea]; have := cr.1; omega)
                              refine w_iload d309_173 rfl ?_
                              refine w_istore5 d309_175 rfl ?_
                              refine w_iinc7 d309_177 rfl (by constructor <;> omega) ?_
                              refine w_goto d309_180 ?_
                              rw [show ((k : Nat) : Int) + 1 = ((k + 1 : Nat) : Int) by omega]
                              refine w_less ?_ (IH102 _ (by omega) (k + 1) ((6 * u + k : Nat) : Int) (kN (inN (tgI (tD P0.2.2 u)) k)) rfl (by omega) (bk.new se qy bn (by omega)) (fun _ => ⟨u, k, rfl, hu, hk, rfl⟩))
                              exact ⟨Or.inr rfl, Or.inr rfl, Or.inr rfl, Or.inr rfl, Or.inr rfl, Or.inr rfl, Or.inr rfl, Or.inr rfl, Or.inl rfl, trivial⟩
                        · have nq : ¬ (fun x => j = 0 ∨ kN (ps.getD (j - 1) []) < x) (kN (inN (tgI (tD P0.2.2 u)) k)) := fun z => by
                            rcases z with z | z
                            · omega
                            · rw [← ey] at z; have := cq.1; have := cq.2; omega
                          refine w_goto d309_154 ?_
                          refine w_iinc7 d309_177 rfl (by constructor <;> omega) ?_
                          refine w_goto d309_180 ?_
                          rw [show ((k : Nat) : Int) + 1 = ((k + 1 : Nat) : Int) by omega]
                          refine w_less ?_ (IH102 _ (by omega) (k + 1) best bv rfl (by omega) (by first | exact bk.cg (fun x => ScN.t ib) | exact bk.skip se nq | exact bk.keep se b0 vk) rv)
                          exact ⟨Or.inr rfl, Or.inr rfl, Or.inr rfl, Or.inr rfl, Or.inr rfl, Or.inr rfl, Or.inr rfl, Or.inr rfl, Or.inl rfl, trivial⟩
                refine w_less ?_ (L102 _ 0 best bv rfl (Nat.zero_le _) bi rv)
                exact ⟨Or.inr rfl, Or.inr rfl, Or.inr rfl, Or.inr rfl, Or.inr rfl, Or.inr rfl, Or.inr rfl, Or.inr rfl, Or.inl rfl, trivial⟩
              · have bu : ¬ bt n5 u := by unfold bt; omega
                refine w_goto d309_96 ?_
                refine w_iinc6 d309_183 rfl (by constructor <;> omega) ?_
                refine w_goto d309_186 ?_
                rw [show ((u : Nat) : Int) + 1 = ((u + 1 : Nat) : Int) by omega]
                refine w_less ?_ (IH75 _ (by omega) (u + 1) best bv rfl (by omega) (by first | exact bi.cg (fun x => ScN.u bu) | exact bk.cg (fun x => ScN.e ek)) rv)
                exact ⟨Or.inr rfl, Or.inr rfl, Or.inr rfl, Or.inr rfl, Or.inr rfl, Or.inr rfl, Or.inr rfl, Or.inl rfl, Or.inl rfl, trivial⟩
          refine w_less ?_ (L75 _ 0 (-1) 0 rfl (Nat.zero_le _) (Or.inl ⟨rfl, fun x hx => absurd hx ScN.z⟩) (fun z => by omega))
          exact ⟨Or.inr rfl, Or.inr rfl, Or.inr rfl, Or.inr rfl, Or.inr rfl, Or.inr rfl, Or.inr rfl, Or.inl rfl, Or.inl rfl, trivial⟩
      refine w_less ?_ (L64 _ g11 0 (-1) true rfl FRg11 (Nat.zero_le _) (by rw [List.take_zero, show psTxt [] = [] from rfl, List.append_nil]; exact TE) (Or.inl ⟨rfl, rfl⟩) (fun z => absurd z (by decide)))
      exact ⟨Or.inr rfl, Or.inr rfl, Or.inr rfl, Or.inr rfl, Or.inr rfl, Or.inl rfl, Or.inl rfl, Or.inl rfl, Or.inl rfl, trivial⟩
    · have hu : u < P0.2.2.length := by omega
      refine w_iload_n d309_22 rfl ?_
      refine w_iload_n d309_23 rfl ?_
      refine w_icmpeq d309_24 (fun c24 => ?_) (fun c24 => ?_)
      · have sf : ¬ sel u = true := fun z => ((hs u hu).mp z).2 (by omega)
        refine w_iinc3 d309_53 rfl (by constructor <;> omega) ?_
        refine w_goto d309_56 ?_
        rw [show ((u : Nat) : Int) + 1 = ((u + 1 : Nat) : Int) by omega]
        refine w_less ?_ (IH11 _ (by omega) g11 (u + 1) rfl FRg11 (by omega) (by first | (rw [show mkTxt P0.2.2 sel (u + 1) = mkTxt P0.2.2 sel u by rw [mkTxt, if_neg sf, List.append_nil]]; exact TE) | (rw [show mkTxt P0.2.2 sel (u + 1) = mkTxt P0.2.2 sel u ++ (tgN (tD P0.2.2 u) ++ [59]) by rw [mkTxt, if_pos sf]]; exact TE)))
        exact ⟨Or.inr rfl, Or.inr rfl, Or.inr rfl, Or.inr rfl, Or.inl rfl, Or.inl rfl, Or.inl rfl, Or.inl rfl, Or.inl rfl, trivial⟩
      · have ut : u ≠ t := by omega
        refine w_iload_n d309_27 rfl ?_
        refine w_iload_n d309_28 rfl ?_
        refine w_ishr d309_29 ?_
        rw [shr_n (n := n5) (u := u) (by omega) (by omega)]
        refine w_iconst d309_30 (by decide) ?_
        refine w_iand d309_31 ?_
        rw [and_1 (a := n5 / 2 ^ u) (div_lt (by omega))]
        refine w_ifne d309_32 (fun c32 => ?_) (fun c32 => ?_)
        · have sf : sel u = true := (hs u hu).mpr ⟨(nb5 u).mp (by unfold bt; have := bt_v n5 u; omega), ut⟩
          refine w_aload_n d309_38 rfl ?_
          refine w_aload_n d309_39 rfl ?_
          refine w_dloadS d309_40 (okg11.kd hm) (fr1664 okg11 hm) ?_
          refine w_iload_n d309_43 rfl ?_
          refine w_callv3 d309_44 (by omega) rfl (okg11.kd hm) (by simp) (Nat.le_of_ble_eq_true rfl) ?_
          refine k_M_sayName (fd := 1664) okg11 (by omega) hm TE NF (Or.inl rfl) hu (hcl u) (fun h44 f44 TE => ?_)
          have ok44 := f44.ok
          have FR44 := Fr.tr (F := [1732, 1733]) FRg11 f44 (by decide) (by decide)
          have NF := DfC.r (f := 1664) f44 hm (by decide) NF
          refine w_aload_n d309_47 rfl ?_
          refine w_bipush d309_48 (by decide) ?_
          refine w_callv2 d309_50 (by omega) rfl (ok44.kd hm) (by simp) (Nat.le_of_ble_eq_true rfl) ?_
          refine k_M_put (c := 59) ok44 (by omega) hm TE (by omega) (fun h50 m50 q50 TE => ?_)
          have f50 : Fr S m [1732, 1733] _ _ := Fr.mk ok44 m50 (fun ζ q => q.elim ((fun ζ e => Or.inl e) ζ) ((fun ζ e => Or.inr ⟨1732, by decide, e ▸ U_refl⟩) ζ)) q50 (by decide)
          have ok50 := f50.ok
          have FR50 := Fr.tr (F := [1732, 1733]) FR44 f50 (by decide) (by decide)
          have NF := DfC.r (f := 1664) f50 hm (by decide) NF
          rw [← addBs_app, ← addBs_app] at TE
          refine w_iinc3 d309_53 rfl (by constructor <;> omega) ?_
          refine w_goto d309_56 ?_
          rw [show ((u : Nat) : Int) + 1 = ((u + 1 : Nat) : Int) by omega]
          refine w_less ?_ (IH11 _ (by omega) h50 (u + 1) rfl FR50 (by omega) (by first | (rw [show mkTxt P0.2.2 sel (u + 1) = mkTxt P0.2.2 sel u by rw [mkTxt, if_neg sf, List.append_nil]]; exact TE) | (rw [show mkTxt P0.2.2 sel (u + 1) = mkTxt P0.2.2 sel u ++ (tgN (tD P0.2.2 u) ++ [59]) by rw [mkTxt, if_pos sf]]; exact TE)))
          exact ⟨Or.inr rfl, Or.inr rfl, Or.inr rfl, Or.inr rfl, Or.inl rfl, Or.inl rfl, Or.inl rfl, Or.inl rfl, Or.inl rfl, trivial⟩
        · have sf : ¬ sel u = true := fun z => by have b := (nb5 u).mpr ((hs u hu).mp z).1; unfold bt at b; omega
          refine w_goto d309_35 ?_
          refine w_iinc3 d309_53 rfl (by constructor <;> omega) ?_
          refine w_goto d309_56 ?_
          rw [show ((u : Nat) : Int) + 1 = ((u + 1 : Nat) : Int) by omega]
          refine w_less ?_ (IH11 _ (by omega) g11 (u + 1) rfl FRg11 (by omega) (by first | (rw [show mkTxt P0.2.2 sel (u + 1) = mkTxt P0.2.2 sel u by rw [mkTxt, if_neg sf, List.append_nil]]; exact TE) | (rw [show mkTxt P0.2.2 sel (u + 1) = mkTxt P0.2.2 sel u ++ (tgN (tD P0.2.2 u) ++ [59]) by rw [mkTxt, if_pos sf]]; exact TE)))
          exact ⟨Or.inr rfl, Or.inr rfl, Or.inr rfl, Or.inr rfl, Or.inl rfl, Or.inl rfl, Or.inl rfl, Or.inl rfl, Or.inl rfl, trivial⟩
  refine w_less ?_ (L11 _ h 0 rfl (Fr.refl ok) (Nat.zero_le _) TE)
  exact ⟨Or.inr rfl, Or.inr rfl, Or.inr rfl, Or.inr rfl, Or.inl rfl, Or.inl rfl, Or.inl rfl, Or.inl rfl, Or.inl rfl, trivial⟩
