/-! the reference: files, targets told -/
def ScF (fs : List (List Nat × List Nat)) (n x : Nat) : Prop := ∃ i, i < n ∧ x = kN (fP fs i)
theorem ScF.s {fs : List (List Nat × List Nat)} {n x : Nat} : ScF fs (n + 1) x ↔ ScF fs n x ∨ x = kN (fP fs n) := ⟨fun ⟨i, hi, e⟩ => by
  rcases Nat.lt_or_ge i n with y | y
  · exact Or.inl ⟨i, y, e⟩
  · rw [show i = n by omega] at e; exact Or.inr e, fun z => z.elim (fun ⟨i, hi, e⟩ => ⟨i, by omega, e⟩) (fun e => ⟨n, by omega, e⟩)⟩
theorem ScF.z {fs : List (List Nat × List Nat)} {x : Nat} : ¬ ScF fs 0 x := fun ⟨i, hi, _⟩ => absurd hi (Nat.not_lt_zero _)
def RfV (fs : List (List Nat × List Nat)) (b : Int) (v : Nat) : Prop := 0 ≤ b → ∃ i : Nat, b = (i : Int) ∧ i < fs.length ∧ kN (fP fs i) = v
/-- inputs told, the first k -/
def insK (l : List InV) : Nat → List Nat
  | 0 => []
  | k + 1 => insK l k ++ ((if 0 < k then [44] else []) ++ inTxt (l.getD k (false, [])))
theorem insK_cons (v : InV) (l : List InV) : ∀ k, insK (v :: l) (k + 1) = inTxt v ++ (if k = 0 then [] else 44 :: insK l k)
  | 0 => by simp [insK]
  | k + 1 => by
    have e : insK (v :: l) (k + 1 + 1) = insK (v :: l) (k + 1) ++ ([44] ++ inTxt (l.getD k (false, []))) := by
      rw [insK, if_pos (by omega)]
      rfl
    rw [e, insK_cons v l k, if_neg (show ¬ k + 1 = 0 by omega)]
    by_cases q : k = 0
    · subst q
      simp [insK]
    · have e2 : insK l (k + 1) = insK l k ++ ([44] ++ inTxt (l.getD k (false, []))) := by rw [insK, if_pos (by omega)]
      rw [if_neg q, e2]
      simp
theorem wd_eq {R wx W : List Nat} (h : wx = if W = [] then [] else [46]) : R ++ wx ++ (W ++ [40]) = R ++ ((if W = [] then [] else 46 :: W) ++ [40]) := by
  rw [h]
  by_cases q : W = []
  · rw [if_pos q, if_pos q, q]; simp
  · rw [if_neg q, if_neg q]; simp
theorem insK_all : ∀ l : List InV, insK l l.length = insTxt l
  | [] => rfl
  | [v] => by
    show insK [v] (0 + 1) = _
    rw [insK_cons, if_pos rfl, List.append_nil]
    rfl
  | v :: w :: l => by
    show insK (v :: w :: l) ((w :: l).length + 1) = _
    rw [insK_cons, if_neg (by simp), insK_all (w :: l)]
    rfl
theorem d303_0 : dc 303 0 = some (.aload_n 0, 1) := by decide +kernel
theorem d303_1 : dc 303 1 = some (.dload 1664, 4) := by decide +kernel
theorem d303_4 : dc 303 4 = some (.dload 1409, 7) := by decide +kernel
theorem d303_7 : dc 303 7 = some (.bipush 12, 9) := by decide +kernel
theorem d303_9 : dc 303 9 = some (.iload_n 1, 10) := by decide +kernel
theorem d303_10 : dc 303 10 = some (.imul, 11) := by decide +kernel
theorem d303_11 : dc 303 11 = some (.aload_n 0, 12) := by decide +kernel
theorem d303_12 : dc 303 12 = some (.dload 1664, 15) := by decide +kernel
theorem d303_15 : dc 303 15 = some (.dload 1410, 18) := by decide +kernel
theorem d303_18 : dc 303 18 = some (.iload_n 1, 19) := by decide +kernel
theorem d303_19 : dc 303 19 = some (.iaload, 20) := by decide +kernel
theorem d303_20 : dc 303 20 = some (.aload_n 0, 21) := by decide +kernel
theorem d303_21 : dc 303 21 = some (.dload 1664, 24) := by decide +kernel
theorem d303_24 : dc 303 24 = some (.dload 1409, 27) := by decide +kernel
theorem d303_27 : dc 303 27 = some (.bipush 12, 29) := by decide +kernel
theorem d303_29 : dc 303 29 = some (.iload_n 2, 30) := by decide +kernel
theorem d303_30 : dc 303 30 = some (.imul, 31) := by decide +kernel
theorem d303_31 : dc 303 31 = some (.aload_n 0, 32) := by decide +kernel
theorem d303_32 : dc 303 32 = some (.dload 1664, 35) := by decide +kernel
theorem d303_35 : dc 303 35 = some (.dload 1410, 38) := by decide +kernel
theorem d303_38 : dc 303 38 = some (.iload_n 2, 39) := by decide +kernel
theorem d303_39 : dc 303 39 = some (.iaload, 40) := by decide +kernel
theorem d303_40 : dc 303 40 = some (.invokevirtual 304, 43) := by decide +kernel
theorem d303_43 : dc 303 43 = some (.ireturn, 44) := by decide +kernel
theorem k_M_comparePaths {S : Shp} {G : Nat → Option Nat} {d : Nat} {h : Hp} {Q : Option MV → Hp → Prop} {m : Nat} {r1 : Int} {r2 : Int} {P0 : PlV} {a b : Nat} (ok : Ok S h) (h1 : 1 ≤ d) (hm : sK S m = 14) (NF : DfC S h (sT S 1664 m) P0) (e1 : r1 = (a : Int)) (e2 : r2 = (b : Int)) (ha : a < P0.1.length) (hb : b < P0.1.length)
    (kk : Q (some (vI (cmpL (fP P0.1 a) (fP P0.1 b)))) h) : Cl G d 303 [vR (some m), vI r1, vI r2] h Q := by
  show Wp G d 303 0 [some (vR (some m)), some (vI r1), some (vI r2)] [] h Q
  have NF_0 := NF
  subst e1 e2
  have hfl := NF.1.2.1
  have hd0 := kT1664 ok hm
  obtain ⟨p1, p2, p3, -⟩ := NF.1.2.2 a ha
  obtain ⟨q1, q2, q3, -⟩ := NF.1.2.2 b hb
  refine w_aload_n d303_0 rfl ?_
  refine w_dloadS d303_1 (ok.kd hm) (fr1664 ok hm) ?_
  refine w_dloadS d303_4 (ok.kd (kT1664 ok hm)) (fr1409 ok (kT1664 ok hm)) ?_
  refine w_bipush d303_7 (by decide) ?_
  refine w_iload_n d303_9 rfl ?_
  refine w_imul d303_10 (by constructor <;> omega) ?_
  rw [show (12 : Int) * ((a : Nat) : Int) = ((12 * a : Nat) : Int) by omega]
  refine w_aload_n d303_11 rfl ?_
  refine w_dloadS d303_12 (ok.kd hm) (fr1664 ok hm) ?_
  refine w_dloadS d303_15 (ok.kd (kT1664 ok hm)) (fr1410 ok (kT1664 ok hm)) ?_
  refine w_iload_n d303_18 rfl ?_
  refine w_ialoadV (x := ((fP P0.1 a).length : Int)) d303_19 (gi1410 ok (kT1664 ok hm) (by omega)) p1 ?_
  refine w_aload_n d303_20 rfl ?_
  refine w_dloadS d303_21 (ok.kd hm) (fr1664 ok hm) ?_
  refine w_dloadS d303_24 (ok.kd (kT1664 ok hm)) (fr1409 ok (kT1664 ok hm)) ?_
  refine w_bipush d303_27 (by decide) ?_
  refine w_iload_n d303_29 rfl ?_
  refine w_imul d303_30 (by constructor <;> omega) ?_
  rw [show (12 : Int) * ((b : Nat) : Int) = ((12 * b : Nat) : Int) by omega]
  refine w_aload_n d303_31 rfl ?_
  refine w_dloadS d303_32 (ok.kd hm) (fr1664 ok hm) ?_
  refine w_dloadS d303_35 (ok.kd (kT1664 ok hm)) (fr1410 ok (kT1664 ok hm)) ?_
  refine w_iload_n d303_38 rfl ?_
  refine w_ialoadV (x := ((fP P0.1 b).length : Int)) d303_39 (gi1410 ok (kT1664 ok hm) (by omega)) q1 ?_
  refine w_calls6 d303_40 (by omega) rfl rfl (by simp) (Nat.le_of_ble_eq_true rfl) ?_
  refine k_M_compareSigns ok (by omega) rfl rfl p3 q3 (p3.le (fun i => (ra1409 ok hd0 i).2)) (q3.le (fun i => (ra1409 ok hd0 i).2)) ?_
  refine w_ireturn d303_43 ?_
  exact kk
theorem d302_0 : dc 302 0 = some (.iconst (-1), 1) := by decide +kernel
theorem d302_1 : dc 302 1 = some (.istore_n 2, 2) := by decide +kernel
theorem d302_2 : dc 302 2 = some (.iconst 0, 3) := by decide +kernel
theorem d302_3 : dc 302 3 = some (.istore_n 3, 4) := by decide +kernel
theorem d302_4 : dc 302 4 = some (.iload_n 3, 5) := by decide +kernel
theorem d302_5 : dc 302 5 = some (.aload_n 0, 6) := by decide +kernel
theorem d302_6 : dc 302 6 = some (.dload 1664, 9) := by decide +kernel
theorem d302_9 : dc 302 9 = some (.getfield 1408, 12) := by decide +kernel
theorem d302_12 : dc 302 12 = some (.if_icmp .ge ((52 : Nat) : Int), 15) := by decide +kernel
theorem d302_15 : dc 302 15 = some (.iload_n 1, 16) := by decide +kernel
theorem d302_16 : dc 302 16 = some (.ifCond .lt ((31 : Nat) : Int), 19) := by decide +kernel
theorem d302_19 : dc 302 19 = some (.aload_n 0, 20) := by decide +kernel
theorem d302_20 : dc 302 20 = some (.iload_n 3, 21) := by decide +kernel
theorem d302_21 : dc 302 21 = some (.iload_n 1, 22) := by decide +kernel
theorem d302_22 : dc 302 22 = some (.invokevirtual 303, 25) := by decide +kernel
theorem d302_25 : dc 302 25 = some (.ifCond .gt ((31 : Nat) : Int), 28) := by decide +kernel
theorem d302_28 : dc 302 28 = some (.goto ((46 : Nat) : Int), 31) := by decide +kernel
theorem d302_31 : dc 302 31 = some (.iload_n 2, 32) := by decide +kernel
theorem d302_32 : dc 302 32 = some (.ifCond .lt ((44 : Nat) : Int), 35) := by decide +kernel
theorem d302_35 : dc 302 35 = some (.aload_n 0, 36) := by decide +kernel
theorem d302_36 : dc 302 36 = some (.iload_n 3, 37) := by decide +kernel
theorem d302_37 : dc 302 37 = some (.iload_n 2, 38) := by decide +kernel
theorem d302_38 : dc 302 38 = some (.invokevirtual 303, 41) := by decide +kernel
theorem d302_41 : dc 302 41 = some (.ifCond .ge ((46 : Nat) : Int), 44) := by decide +kernel
theorem d302_44 : dc 302 44 = some (.iload_n 3, 45) := by decide +kernel
theorem d302_45 : dc 302 45 = some (.istore_n 2, 46) := by decide +kernel
theorem d302_46 : dc 302 46 = some (.iinc 3 1, 49) := by decide +kernel
theorem d302_49 : dc 302 49 = some (.goto ((4 : Nat) : Int), 52) := by decide +kernel
theorem d302_52 : dc 302 52 = some (.iload_n 2, 53) := by decide +kernel
theorem d302_53 : dc 302 53 = some (.ireturn, 54) := by decide +kernel
theorem k_M_nextFile {S : Shp} {G : Nat → Option Nat} {d : Nat} {h : Hp} {Q : Option MV → Hp → Prop} {m : Nat} {last : Int} {P0 : PlV} {lv : Nat} (ok : Ok S h) (h1 : 2 ≤ d) (hm : sK S m = 14) (NF : DfC S h (sT S 1664 m) P0) (hl : (last = -1) ∨ (0 ≤ last ∧ RfV P0.1 last lv)) (op : ∀ i, i < P0.1.length → okP (fP P0.1 i))
    (kk : ∀ best v, BsI (ScF P0.1 P0.1.length) (fun x => last = -1 ∨ lv < x) best v → RfV P0.1 best v → Q (some (vI best)) h) : Cl G d 302 [vR (some m), vI last] h Q := by
  show Wp G d 302 0 [some (vR (some m)), some (vI last), none, none] [] h Q
  have NF_0 := NF
  have hfl := NF.1.2.1
  have hd0 := kT1664 ok hm
  refine w_iconst d302_0 (by decide) ?_
  refine w_istore2 d302_1 rfl ?_
  refine w_iconst d302_2 (by decide) ?_
  refine w_istore3 d302_3 rfl ?_
  have L4 : ∀ (m4 : Nat) (i : Nat) (best : Int) (bv : Nat), P0.1.length - i = m4 → (i ≤ P0.1.length) → (BsI (ScF P0.1 i) (fun x => last = -1 ∨ lv < x) best bv) → (RfV P0.1 best bv) → Wp G d 302 4 [some (vR (some m)), some (vI last), some (vI best), some (vI (i : Nat))] [] h Q := by
    intro m4
    induction m4 using Nat.strongRecOn with | ind m4 IH4 => ?_
    intro i best bv hm4 il bi rv
    refine w_iload_n d302_4 rfl ?_
    refine w_aload_n d302_5 rfl ?_
    refine w_dloadS d302_6 (ok.kd hm) (fr1664 ok hm) ?_
    refine w_getI (x := ((P0.1.length : Nat) : Int)) d302_9 (ok.kd (kT1664 ok hm)) NF.1.1 ?_
    refine w_icmpge d302_12 (fun c12 => ?_) (fun c12 => ?_)
    · rw [show i = P0.1.length by omega] at bi
      refine w_iload_n d302_52 rfl ?_
      refine w_ireturn d302_53 ?_
      exact kk best bv bi rv
    · have hi : i < P0.1.length := by omega
      refine w_iload_n d302_15 rfl ?_
      refine w_iflt d302_16 (fun c16 => ?_) (fun c16 => ?_)
      · have qy : (fun x => last = -1 ∨ lv < x) (kN (fP P0.1 i)) := Or.inl (by rcases hl with z | z <;> omega)
        refine w_iload_n d302_31 rfl ?_
        refine w_iflt d302_32 (fun c32 => ?_) (fun c32 => ?_)
        · have bn : best < 0 ∨ kN (fP P0.1 i) ≤ bv := Or.inl (by omega)
          refine w_iload_n d302_44 rfl ?_
          refine w_istore2 d302_45 rfl ?_
          refine w_iinc3 d302_46 rfl (by constructor <;> omega) ?_
          refine w_goto d302_49 ?_
          rw [show ((i : Nat) : Int) + 1 = ((i + 1 : Nat) : Int) by omega]
          refine w_less ?_ (IH4 _ (by omega) (i + 1) ((i : Nat) : Int) (kN (fP P0.1 i)) rfl (by omega) (bi.new (fun x => ScF.s) qy bn (by omega)) (fun _ => ⟨i, rfl, hi, rfl⟩))
          exact ⟨Or.inr rfl, Or.inr rfl, Or.inr rfl, Or.inr rfl, trivial⟩
        · obtain ⟨b, lb_, bl, bv_⟩ := rv (by omega)
          have cr := cmp_kN (op i hi) (op b bl)
          refine w_aload_n d302_35 rfl ?_
          refine w_iload_n d302_36 rfl ?_
          refine w_iload_n d302_37 rfl ?_
          refine w_callv3 d302_38 (by omega) rfl (ok.kd hm) (by simp) (Nat.le_of_ble_eq_true rfl) ?_
          refine k_M_comparePaths ok (by omega) hm NF rfl lb_ hi bl ?_
          refine w_ifge d302_41 (fun c41 => ?_) (fun c41 => ?_)
          · have vk : bv ≤ kN (fP P0.1 i) := by rw [← bv_]; have := cr.1; omega
            have b0 : 0 ≤ best := by omega
            refine w_iinc3 d302_46 rfl (by constructor <;> omega) ?_
            refine w_goto d302_49 ?_
            rw [show ((i : Nat) : Int) + 1 = ((i + 1 : Nat) : Int) by omega]
            refine w_less ?_ (IH4 _ (by omega) (i + 1) best bv rfl (by omega) (by first | exact bi.skip (fun x => ScF.s) nq | exact bi.keep (fun x => ScF.s) b0 vk) rv)
            exact ⟨Or.inr rfl, Or.inr rfl, Or.inr rfl, Or.inr rfl, trivial⟩
          · have bn : best < 0 ∨ kN (fP P0.1 i) ≤ bv := Or.inr (by rw [← bv_]; have := cr.1; omega)
            refine w_iload_n d302_44 rfl ?_
            refine w_istore2 d302_45 rfl ?_
            refine w_iinc3 d302_46 rfl (by constructor <;> omega) ?_
            refine w_goto d302_49 ?_
            rw [show ((i : Nat) : Int) + 1 = ((i + 1 : Nat) : Int) by omega]
            refine w_less ?_ (IH4 _ (by omega) (i + 1) ((i : Nat) : Int) (kN (fP P0.1 i)) rfl (by omega) (bi.new (fun x => ScF.s) qy bn (by omega)) (fun _ => ⟨i, rfl, hi, rfl⟩))
            exact ⟨Or.inr rfl, Or.inr rfl, Or.inr rfl, Or.inr rfl, trivial⟩
      · obtain ⟨a, la_, al, av⟩ := (hl.resolve_left (by omega)).2 (by omega)
        have cq := cmp_kN (op i hi) (op a al)
        refine w_aload_n d302_19 rfl ?_
        refine w_iload_n d302_20 rfl ?_
        refine w_iload_n d302_21 rfl ?_
        refine w_callv3 d302_22 (by omega) rfl (ok.kd hm) (by simp) (Nat.le_of_ble_eq_true rfl) ?_
        refine k_M_comparePaths ok (by omega) hm NF rfl la_ hi al ?_
        refine w_ifgt d302_25 (fun c25 => ?_) (fun c25 => ?_)
        · have qy : (fun x => last = -1 ∨ lv < x) (kN (fP P0.1 i)) := Or.inr (by rw [← av]; have := cq.1; have := cq.2; omega)
          refine w_iload_n d302_31 rfl ?_
          refine w_iflt d302_32 (fun c32 => ?_) (fun c32 => ?_)
          · have bn : best < 0 ∨ kN (fP P0.1 i) ≤ bv := Or.inl (by omega)
            refine w_iload_n d302_44 rfl ?_
            refine w_istore2 d302_45 rfl ?_
            refine w_iinc3 d302_46 rfl (by constructor <;> omega) ?_
            refine w_goto d302_49 ?_
            rw [show ((i : Nat) : Int) + 1 = ((i + 1 : Nat) : Int) by omega]
            refine w_less ?_ (IH4 _ (by omega) (i + 1) ((i : Nat) : Int) (kN (fP P0.1 i)) rfl (by omega) (bi.new (fun x => ScF.s) qy bn (by omega)) (fun _ => ⟨i, rfl, hi, rfl⟩))
            exact ⟨Or.inr rfl, Or.inr rfl, Or.inr rfl, Or.inr rfl, trivial⟩
          · obtain ⟨b, lb_, bl, bv_⟩ := rv (by omega)
            have cr := cmp_kN (op i hi) (op b bl)
            refine w_aload_n d302_35 rfl ?_
            refine w_iload_n d302_36 rfl ?_
            refine w_iload_n d302_37 rfl ?_
            refine w_callv3 d302_38 (by omega) rfl (ok.kd hm) (by simp) (Nat.le_of_ble_eq_true rfl) ?_
            refine k_M_comparePaths ok (by omega) hm NF rfl lb_ hi bl ?_
            refine w_ifge d302_41 (fun c41 => ?_) (fun c41 => ?_)
            · have vk : bv ≤ kN (fP P0.1 i) := by rw [← bv_]; have := cr.1; omega
              have b0 : 0 ≤ best := by omega
              refine w_iinc3 d302_46 rfl (by constructor <;> omega) ?_
              refine w_goto d302_49 ?_
              rw [show ((i : Nat) : Int) + 1 = ((i + 1 : Nat) : Int) by omega]
              refine w_less ?_ (IH4 _ (by omega) (i + 1) best bv rfl (by omega) (by first | exact bi.skip (fun x => ScF.s) nq | exact bi.keep (fun x => ScF.s) b0 vk) rv)
              exact ⟨Or.inr rfl, Or.inr rfl, Or.inr rfl, Or.inr rfl, trivial⟩
            · have bn : best < 0 ∨ kN (fP P0.1 i) ≤ bv := Or.inr (by rw [← bv_]; have := cr.1; omega)
              refine w_iload_n d302_44 rfl ?_
              refine w_istore2 d302_45 rfl ?_
              refine w_iinc3 d302_46 rfl (by constructor <;> omega) ?_
              refine w_goto d302_49 ?_
              rw [show ((i : Nat) : Int) + 1 = ((i + 1 : Nat) : Int) by omega]
              refine w_less ?_ (IH4 _ (by omega) (i + 1) ((i : Nat) : Int) (kN (fP P0.1 i)) rfl (by omega) (bi.new (fun x => ScF.s) qy bn (by omega)) (fun _ => ⟨i, rfl, hi, rfl⟩))
              exact ⟨Or.inr rfl, Or.inr rfl, Or.inr rfl, Or.inr rfl, trivial⟩
        · have nq : ¬ (fun x => last = -1 ∨ lv < x) (kN (fP P0.1 i)) := fun z => by
            rcases z with z | z
            · omega
            · rw [← av] at z; have := cq.1; have := cq.2; omega
          refine w_goto d302_28 ?_
          refine w_iinc3 d302_46 rfl (by constructor <;> omega) ?_
          refine w_goto d302_49 ?_
          rw [show ((i : Nat) : Int) + 1 = ((i + 1 : Nat) : Int) by omega]
          refine w_less ?_ (IH4 _ (by omega) (i + 1) best bv rfl (by omega) (by first | exact bi.skip (fun x => ScF.s) nq | exact bi.keep (fun x => ScF.s) b0 vk) rv)
          exact ⟨Or.inr rfl, Or.inr rfl, Or.inr rfl, Or.inr rfl, trivial⟩
  refine w_less ?_ (L4 _ 0 (-1) 0 rfl (Nat.zero_le _) (Or.inl ⟨rfl, fun x hx => absurd hx ScF.z⟩) (fun z => by omega))
  exact ⟨Or.inr rfl, Or.inr rfl, Or.inr rfl, Or.inr rfl, trivial⟩
theorem d301_0 : dc 301 0 = some (.aload_n 0, 1) := by decide +kernel
theorem d301_1 : dc 301 1 = some (.iconst (-1), 2) := by decide +kernel
theorem d301_2 : dc 301 2 = some (.invokevirtual 302, 5) := by decide +kernel
theorem d301_5 : dc 301 5 = some (.istore_n 1, 6) := by decide +kernel
theorem d301_6 : dc 301 6 = some (.iload_n 1, 7) := by decide +kernel
theorem d301_7 : dc 301 7 = some (.ifCond .lt ((68 : Nat) : Int), 10) := by decide +kernel
theorem d301_10 : dc 301 10 = some (.aload_n 0, 11) := by decide +kernel
theorem d301_11 : dc 301 11 = some (.aload_n 0, 12) := by decide +kernel
theorem d301_12 : dc 301 12 = some (.dload 1664, 15) := by decide +kernel
theorem d301_15 : dc 301 15 = some (.dload 1409, 18) := by decide +kernel
theorem d301_18 : dc 301 18 = some (.bipush 12, 20) := by decide +kernel
theorem d301_20 : dc 301 20 = some (.iload_n 1, 21) := by decide +kernel
theorem d301_21 : dc 301 21 = some (.imul, 22) := by decide +kernel
theorem d301_22 : dc 301 22 = some (.aload_n 0, 23) := by decide +kernel
theorem d301_23 : dc 301 23 = some (.dload 1664, 26) := by decide +kernel
theorem d301_26 : dc 301 26 = some (.dload 1410, 29) := by decide +kernel
theorem d301_29 : dc 301 29 = some (.iload_n 1, 30) := by decide +kernel
theorem d301_30 : dc 301 30 = some (.iaload, 31) := by decide +kernel
theorem d301_31 : dc 301 31 = some (.invokevirtual 294, 34) := by decide +kernel
theorem d301_34 : dc 301 34 = some (.aload_n 0, 35) := by decide +kernel
theorem d301_35 : dc 301 35 = some (.bipush 32, 37) := by decide +kernel
theorem d301_37 : dc 301 37 = some (.invokevirtual 218, 40) := by decide +kernel
theorem d301_40 : dc 301 40 = some (.aload_n 0, 41) := by decide +kernel
theorem d301_41 : dc 301 41 = some (.aload_n 0, 42) := by decide +kernel
theorem d301_42 : dc 301 42 = some (.dload 1664, 45) := by decide +kernel
theorem d301_45 : dc 301 45 = some (.dload 1412, 48) := by decide +kernel
theorem d301_48 : dc 301 48 = some (.iload_n 1, 49) := by decide +kernel
theorem d301_49 : dc 301 49 = some (.iaload, 50) := by decide +kernel
theorem d301_50 : dc 301 50 = some (.invokevirtual 219, 53) := by decide +kernel
theorem d301_53 : dc 301 53 = some (.aload_n 0, 54) := by decide +kernel
theorem d301_54 : dc 301 54 = some (.bipush 59, 56) := by decide +kernel
theorem d301_56 : dc 301 56 = some (.invokevirtual 218, 59) := by decide +kernel
theorem d301_59 : dc 301 59 = some (.aload_n 0, 60) := by decide +kernel
theorem d301_60 : dc 301 60 = some (.iload_n 1, 61) := by decide +kernel
theorem d301_61 : dc 301 61 = some (.invokevirtual 302, 64) := by decide +kernel
theorem d301_64 : dc 301 64 = some (.istore_n 1, 65) := by decide +kernel
theorem d301_65 : dc 301 65 = some (.goto ((6 : Nat) : Int), 68) := by decide +kernel
theorem d301_68 : dc 301 68 = some (.return_, 69) := by decide +kernel
theorem k_M_tellFiles {S : Shp} {G : Nat → Option Nat} {d : Nat} {h : Hp} {Q : Option MV → Hp → Prop} {m : Nat} {P0 : PlV} {la : List Nat} {fl : List (List Nat × List Nat)} (ok : Ok S h) (h1 : 12 ≤ d) (hm : sK S m = 14) (TE : TeR S h m la) (NF : DfC S h (sT S 1664 m) P0) (hp : List.Pairwise (fun a b => ltP a.1 b.1) fl) (hset : ∀ x, x ∈ fl ↔ x ∈ P0.1) (oks : ∀ x ∈ fl, okP x.1 ∧ cln x.1)
    (kk : ∀ h', Fr S m [1732, 1733] h h' → TeR S h' m (addBs 20000 la (flTxt fl fl.length)) → Q none h') : Cl G d 301 [vR (some m)] h Q := by
  show Wp G d 301 0 [some (vR (some m)), none] [] h Q
  have TE_0 := TE
  have NF_0 := NF
  have hfl := NF.1.2.1
  have hd0 := kT1664 ok hm
  have gm : ∀ a, a < fl.length → (fP fl a, fB fl a) ∈ fl := fun a ha => by unfold fP fB; rw [List.getD_eq_getElem?_getD, List.getElem?_eq_getElem ha]; exact List.getElem_mem ha
  have gm2 : ∀ a, a < P0.1.length → (fP P0.1 a, fB P0.1 a) ∈ P0.1 := fun a ha => by unfold fP fB; rw [List.getD_eq_getElem?_getD, List.getElem?_eq_getElem ha]; exact List.getElem_mem ha
  have op : ∀ i, i < P0.1.length → okP (fP P0.1 i) := fun i hi => (oks _ ((hset _).mpr (gm2 i hi))).1
  have hK : ∀ a c, a < c → c < fl.length → kN (fP fl a) < kN (fP fl c) := fun a c h1 h2 => by
    have := List.pairwise_iff_getElem.mp hp a c (by omega) h2 h1
    rw [← ltP_kN (oks _ (gm a (by omega))).1 (oks _ (gm c h2)).1]
    unfold fP
    rw [List.getD_eq_getElem?_getD, List.getD_eq_getElem?_getD, List.getElem?_eq_getElem h2, List.getElem?_eq_getElem (show a < fl.length by omega)]
    exact this
  have hin : ∀ i, i < P0.1.length → ∃ a, a < fl.length ∧ fP fl a = fP P0.1 i ∧ fB fl a = fB P0.1 i := fun i hi => by
    obtain ⟨a, ha, e⟩ := List.getElem_of_mem ((hset _).mpr (gm2 i hi))
    refine ⟨a, ha, ?_, ?_⟩
    · unfold fP at e ⊢; rw [List.getD_eq_getElem?_getD, List.getElem?_eq_getElem ha, Option.getD_some, e]
    · unfold fB at e ⊢; rw [List.getD_eq_getElem?_getD, List.getElem?_eq_getElem ha, Option.getD_some, e]
  have hS : ∀ x, ScF P0.1 P0.1.length x ↔ ∃ a, a < fl.length ∧ x = kN (fP fl a) := fun x => ⟨fun ⟨i, hi, e⟩ => by
    obtain ⟨a, a1, a2, a3⟩ := hin i hi
    exact ⟨a, a1, by rw [a2]; exact e⟩, fun ⟨a, ha, e⟩ => by
    obtain ⟨i, hi, e2⟩ := List.getElem_of_mem ((hset _).mp (gm a ha))
    refine ⟨i, hi, ?_⟩
    have : fP P0.1 i = fP fl a := by
      show (P0.1.getD i ([], [])).1 = _
      rw [List.getD_eq_getElem?_getD, List.getElem?_eq_getElem hi, Option.getD_some, e2]
    rw [this]; exact e⟩
  refine w_aload_n d301_0 rfl ?_
  refine w_iconst d301_1 (by decide) ?_
  refine w_callv2 d301_2 (by omega) rfl (ok.kd hm) (by simp) (Nat.le_of_ble_eq_true rfl) ?_
  refine k_M_nextFile (lv := 0) ok (by omega) hm NF (Or.inl rfl) op (fun best v bi rv => ?_)
  have bf := bi.fin (j := 0) hS hK (fun x => ⟨fun z => Or.inl rfl, fun z => Or.inl rfl⟩) (Nat.zero_le _)
  refine w_istore1 d301_5 rfl ?_
  have L6 : ∀ (m6 : Nat) (g6 : Hp) (j : Nat) (f : Int) (v : Nat), fl.length - j = m6 → Fr S m [1732, 1733] h g6 → (j ≤ fl.length) → (TeR S g6 m (addBs 20000 la (flTxt fl j))) → (f < 0 → j = fl.length) → (0 ≤ f → j < fl.length ∧ v = kN (fP fl j)) → (RfV P0.1 f v) → Wp G d 301 6 [some (vR (some m)), some (vI f)] [] g6 Q := by
    intro m6
    induction m6 using Nat.strongRecOn with | ind m6 IH6 => ?_
    intro g6 j f v hm6 FRg6 jl0 TE hj hj2 rvf
    have okg6 := FRg6.ok
    have NF := DfC.r (f := 1664) FRg6 hm (by decide) NF_0
    refine w_iload_n d301_6 rfl ?_
    refine w_iflt d301_7 (fun c7 => ?_) (fun c7 => ?_)
    · rw [hj (by omega)] at TE
      refine w_return d301_68 ?_
      exact kk g6 FRg6 TE
    · obtain ⟨i, fi, il, iv⟩ := rvf (by omega)
      obtain ⟨jl, kj⟩ := hj2 (by omega)
      obtain ⟨a, a1, a2, a3⟩ := hin i il
      have aj : a = j := by
        rcases Nat.lt_trichotomy a j with z | z | z
        · have := hK a j z jl; rw [a2] at this; omega
        · exact z
        · have := hK j a z a1; rw [a2] at this; omega
      subst aj
      obtain ⟨p1, p2, p3, p4, p5, p6⟩ := NF.1.2.2 i il
      have nb := nb_fd (f := 1409) (g := 1732) (fd := 1664) (m := m) ok (by decide) (by decide) (by decide)
      refine w_aload_n d301_10 rfl ?_
      refine w_aload_n d301_11 rfl ?_
      refine w_dloadS d301_12 (okg6.kd hm) (fr1664 okg6 hm) ?_
      refine w_dloadS d301_15 (okg6.kd (kT1664 okg6 hm)) (fr1409 okg6 (kT1664 okg6 hm)) ?_
      refine w_bipush d301_18 (by decide) ?_
      rw [fi]
      refine w_iload_n d301_20 rfl ?_
      refine w_imul d301_21 (by constructor <;> omega) ?_
      rw [show (12 : Int) * ((i : Nat) : Int) = ((12 * i : Nat) : Int) by omega]
      refine w_aload_n d301_22 rfl ?_
      refine w_dloadS d301_23 (okg6.kd hm) (fr1664 okg6 hm) ?_
      refine w_dloadS d301_26 (okg6.kd (kT1664 okg6 hm)) (fr1410 okg6 (kT1664 okg6 hm)) ?_
      refine w_iload_n d301_29 rfl ?_
      refine w_ialoadV (x := ((fP P0.1 i).length : Int)) d301_30 (gi1410 okg6 (kT1664 okg6 hm) (by omega)) p1 ?_
      refine w_callv4 d301_31 (by omega) rfl (okg6.kd hm) (by simp) (Nat.le_of_ble_eq_true rfl) ?_
      refine k_M_sayBytes okg6 (by omega) hm TE rfl p3 nb (p3.le (fun i => (ra1409 okg6 hd0 i).2)) (fun h31 m31 q31 TE => ?_)
      have f31 : Fr S m [1732, 1733] _ _ := Fr.mk okg6 m31 (fun ζ q => q.elim ((fun ζ e => Or.inl e) ζ) ((fun ζ e => Or.inr ⟨1732, by decide, e ▸ U_refl⟩) ζ)) q31 (by decide)
      have ok31 := f31.ok
      have FR31 := Fr.tr (F := [1732, 1733]) FRg6 f31 (by decide) (by decide)
      have NF := DfC.r (f := 1664) f31 hm (by decide) NF
      rw [← a2, (oks _ (gm a a1)).2.map] at TE
      refine w_aload_n d301_34 rfl ?_
      refine w_bipush d301_35 (by decide) ?_
      refine w_callv2 d301_37 (by omega) rfl (ok31.kd hm) (by simp) (Nat.le_of_ble_eq_true rfl) ?_
      refine k_M_put (c := 32) ok31 (by omega) hm TE (by omega) (fun h37 m37 q37 TE => ?_)
      have f37 : Fr S m [1732, 1733] _ _ := Fr.mk ok31 m37 (fun ζ q => q.elim ((fun ζ e => Or.inl e) ζ) ((fun ζ e => Or.inr ⟨1732, by decide, e ▸ U_refl⟩) ζ)) q37 (by decide)
      have ok37 := f37.ok
      have FR37 := Fr.tr (F := [1732, 1733]) FR31 f37 (by decide) (by decide)
      have NF := DfC.r (f := 1664) f37 hm (by decide) NF
      refine w_aload_n d301_40 rfl ?_
      refine w_aload_n d301_41 rfl ?_
      refine w_dloadS d301_42 (ok37.kd hm) (fr1664 ok37 hm) ?_
      refine w_dloadS d301_45 (ok37.kd (kT1664 ok37 hm)) (fr1412 ok37 (kT1664 ok37 hm)) ?_
      refine w_iload_n d301_48 rfl ?_
      refine w_ialoadV (x := ((fB P0.1 i).length : Int)) d301_49 (gi1412 ok37 (kT1664 ok37 hm) (by omega)) ((NF.1.2.2 i il).2.2.2.1) ?_
      refine w_callv2 d301_50 (by omega) rfl (ok37.kd hm) (by simp) (Nat.le_of_ble_eq_true rfl) ?_
      refine k_M_number (n := 9) ok37 (by omega) hm (by omega) TE (by omega) (by decide) (fun h50 m50 q50 TE => ?_)
      have f50 : Fr S m [1732, 1733] _ _ := Fr.mk ok37 m50 (fun ζ q => q.elim ((fun ζ e => Or.inl e) ζ) ((fun ζ e => Or.inr ⟨1732, by decide, e ▸ U_refl⟩) ζ)) q50 (by decide)
      have ok50 := f50.ok
      have FR50 := Fr.tr (F := [1732, 1733]) FR37 f50 (by decide) (by decide)
      have NF := DfC.r (f := 1664) f50 hm (by decide) NF
      rw [← a3] at TE
      refine w_aload_n d301_53 rfl ?_
      refine w_bipush d301_54 (by decide) ?_
      refine w_callv2 d301_56 (by omega) rfl (ok50.kd hm) (by simp) (Nat.le_of_ble_eq_true rfl) ?_
      refine k_M_put (c := 59) ok50 (by omega) hm TE (by omega) (fun h56 m56 q56 TE => ?_)
      have f56 : Fr S m [1732, 1733] _ _ := Fr.mk ok50 m56 (fun ζ q => q.elim ((fun ζ e => Or.inl e) ζ) ((fun ζ e => Or.inr ⟨1732, by decide, e ▸ U_refl⟩) ζ)) q56 (by decide)
      have ok56 := f56.ok
      have FR56 := Fr.tr (F := [1732, 1733]) FR50 f56 (by decide) (by decide)
      have NF := DfC.r (f := 1664) f56 hm (by decide) NF
      simp only [← addBs_app] at TE
      refine w_aload_n d301_59 rfl ?_
      refine w_iload_n d301_60 rfl ?_
      refine w_callv2 d301_61 (by omega) rfl (ok56.kd hm) (by simp) (Nat.le_of_ble_eq_true rfl) ?_
      refine k_M_nextFile (lv := kN (fP fl a)) ok56 (by omega) hm NF (Or.inr ⟨by omega, fun _ => ⟨i, rfl, il, by rw [a2]⟩⟩) op (fun best v bi rv => ?_)
      have bf := bi.fin (j := a + 1) hS hK (fun x => ⟨fun z => Or.inr (z.resolve_left (by omega)), fun z => Or.inr (z.resolve_left (by omega))⟩) (by omega)
      refine w_istore1 d301_64 rfl ?_
      refine w_goto d301_65 ?_
      refine w_less ?_ (IH6 _ (by omega) h56 (a + 1) best v rfl FR56 (by omega) (by rw [flTxt]; simpa only [List.append_assoc, List.cons_append, List.nil_append] using TE) (fun z => (bf.1 (by rcases bi with y | y <;> omega))) (fun z => bf.2 z) rv)
      exact ⟨Or.inr rfl, Or.inr rfl, trivial⟩
  refine w_less ?_ (L6 _ h 0 best v rfl (Fr.refl ok) (Nat.zero_le _) TE (fun z => (bf.1 (by rcases bi with y | y <;> omega))) (fun z => bf.2 z) rv)
  exact ⟨Or.inr rfl, Or.inr rfl, trivial⟩
theorem d305_0 : dc 305 0 = some (.iconst 0, 1) := by decide +kernel
theorem d305_1 : dc 305 1 = some (.istore_n 1, 2) := by decide +kernel
theorem d305_2 : dc 305 2 = some (.iload_n 1, 3) := by decide +kernel
theorem d305_3 : dc 305 3 = some (.aload_n 0, 4) := by decide +kernel
theorem d305_4 : dc 305 4 = some (.dload 1664, 7) := by decide +kernel
theorem d305_7 : dc 305 7 = some (.getfield 1417, 10) := by decide +kernel
theorem d305_10 : dc 305 10 = some (.if_icmp .ge ((317 : Nat) : Int), 13) := by decide +kernel
theorem d305_13 : dc 305 13 = some (.aload_n 0, 14) := by decide +kernel
theorem d305_14 : dc 305 14 = some (.dload 1664, 17) := by decide +kernel
theorem d305_17 : dc 305 17 = some (.dload 1420, 20) := by decide +kernel
theorem d305_20 : dc 305 20 = some (.iload_n 1, 21) := by decide +kernel
theorem d305_21 : dc 305 21 = some (.baload, 22) := by decide +kernel
theorem d305_22 : dc 305 22 = some (.ifCond .ne ((28 : Nat) : Int), 25) := by decide +kernel
theorem d305_25 : dc 305 25 = some (.goto ((311 : Nat) : Int), 28) := by decide +kernel
theorem d305_28 : dc 305 28 = some (.aload_n 0, 29) := by decide +kernel
theorem d305_29 : dc 305 29 = some (.aload_n 0, 30) := by decide +kernel
theorem d305_30 : dc 305 30 = some (.dload 1664, 33) := by decide +kernel
theorem d305_33 : dc 305 33 = some (.iload_n 1, 34) := by decide +kernel
theorem d305_34 : dc 305 34 = some (.invokevirtual 293, 37) := by decide +kernel
theorem d305_37 : dc 305 37 = some (.aload_n 0, 38) := by decide +kernel
theorem d305_38 : dc 305 38 = some (.bipush 61, 40) := by decide +kernel
theorem d305_40 : dc 305 40 = some (.invokevirtual 218, 43) := by decide +kernel
theorem d305_43 : dc 305 43 = some (.iconst 0, 44) := by decide +kernel
theorem d305_44 : dc 305 44 = some (.istore_n 2, 45) := by decide +kernel
theorem d305_45 : dc 305 45 = some (.iconst 0, 46) := by decide +kernel
theorem d305_46 : dc 305 46 = some (.istore_n 3, 47) := by decide +kernel
theorem d305_47 : dc 305 47 = some (.iload_n 3, 48) := by decide +kernel
theorem d305_48 : dc 305 48 = some (.aload_n 0, 49) := by decide +kernel
theorem d305_49 : dc 305 49 = some (.dload 1664, 52) := by decide +kernel
theorem d305_52 : dc 305 52 = some (.dload 1421, 55) := by decide +kernel
theorem d305_55 : dc 305 55 = some (.iload_n 1, 56) := by decide +kernel
theorem d305_56 : dc 305 56 = some (.iaload, 57) := by decide +kernel
theorem d305_57 : dc 305 57 = some (.if_icmp .ge ((77 : Nat) : Int), 60) := by decide +kernel
theorem d305_60 : dc 305 60 = some (.getstatic 92, 62) := by decide +kernel
theorem d305_62 : dc 305 62 = some (.bipush 32, 64) := by decide +kernel
theorem d305_64 : dc 305 64 = some (.iload_n 2, 65) := by decide +kernel
theorem d305_65 : dc 305 65 = some (.invokevirtual 199, 68) := by decide +kernel
theorem d305_68 : dc 305 68 = some (.iconst 1, 69) := by decide +kernel
theorem d305_69 : dc 305 69 = some (.iadd, 70) := by decide +kernel
theorem d305_70 : dc 305 70 = some (.istore_n 2, 71) := by decide +kernel
theorem d305_71 : dc 305 71 = some (.iinc 3 1, 74) := by decide +kernel
theorem d305_74 : dc 305 74 = some (.goto ((47 : Nat) : Int), 77) := by decide +kernel
theorem d305_77 : dc 305 77 = some (.iload_n 2, 78) := by decide +kernel
theorem d305_78 : dc 305 78 = some (.istore_n 3, 79) := by decide +kernel
theorem d305_79 : dc 305 79 = some (.getstatic 92, 81) := by decide +kernel
theorem d305_81 : dc 305 81 = some (.iload_n 3, 82) := by decide +kernel
theorem d305_82 : dc 305 82 = some (.invokevirtual 24, 85) := by decide +kernel
theorem d305_85 : dc 305 85 = some (.bipush 32, 87) := by decide +kernel
theorem d305_87 : dc 305 87 = some (.if_icmp .eq ((106 : Nat) : Int), 90) := by decide +kernel
theorem d305_90 : dc 305 90 = some (.aload_n 0, 91) := by decide +kernel
theorem d305_91 : dc 305 91 = some (.getstatic 92, 93) := by decide +kernel
theorem d305_93 : dc 305 93 = some (.iload_n 3, 94) := by decide +kernel
theorem d305_94 : dc 305 94 = some (.invokevirtual 24, 97) := by decide +kernel
theorem d305_97 : dc 305 97 = some (.invokevirtual 218, 100) := by decide +kernel
theorem d305_100 : dc 305 100 = some (.iinc 3 1, 103) := by decide +kernel
theorem d305_103 : dc 305 103 = some (.goto ((79 : Nat) : Int), 106) := by decide +kernel
theorem d305_106 : dc 305 106 = some (.aload_n 0, 107) := by decide +kernel
theorem d305_107 : dc 305 107 = some (.dload 1664, 110) := by decide +kernel
theorem d305_110 : dc 305 110 = some (.dload 1423, 113) := by decide +kernel
theorem d305_113 : dc 305 113 = some (.iload_n 1, 114) := by decide +kernel
theorem d305_114 : dc 305 114 = some (.iaload, 115) := by decide +kernel
theorem d305_115 : dc 305 115 = some (.ifCond .le ((124 : Nat) : Int), 118) := by decide +kernel
theorem d305_118 : dc 305 118 = some (.aload_n 0, 119) := by decide +kernel
theorem d305_119 : dc 305 119 = some (.bipush 46, 121) := by decide +kernel
theorem d305_121 : dc 305 121 = some (.invokevirtual 218, 124) := by decide +kernel
theorem d305_124 : dc 305 124 = some (.aload_n 0, 125) := by decide +kernel
theorem d305_125 : dc 305 125 = some (.aload_n 0, 126) := by decide +kernel
theorem d305_126 : dc 305 126 = some (.dload 1664, 129) := by decide +kernel
theorem d305_129 : dc 305 129 = some (.dload 1422, 132) := by decide +kernel
theorem d305_132 : dc 305 132 = some (.bipush 8, 134) := by decide +kernel
theorem d305_134 : dc 305 134 = some (.iload_n 1, 135) := by decide +kernel
theorem d305_135 : dc 305 135 = some (.imul, 136) := by decide +kernel
theorem d305_136 : dc 305 136 = some (.aload_n 0, 137) := by decide +kernel
theorem d305_137 : dc 305 137 = some (.dload 1664, 140) := by decide +kernel
theorem d305_140 : dc 305 140 = some (.dload 1423, 143) := by decide +kernel
theorem d305_143 : dc 305 143 = some (.iload_n 1, 144) := by decide +kernel
theorem d305_144 : dc 305 144 = some (.iaload, 145) := by decide +kernel
theorem d305_145 : dc 305 145 = some (.invokevirtual 294, 148) := by decide +kernel
theorem d305_148 : dc 305 148 = some (.aload_n 0, 149) := by decide +kernel
theorem d305_149 : dc 305 149 = some (.bipush 40, 151) := by decide +kernel
theorem d305_151 : dc 305 151 = some (.invokevirtual 218, 154) := by decide +kernel
theorem d305_154 : dc 305 154 = some (.iconst 0, 155) := by decide +kernel
theorem d305_155 : dc 305 155 = some (.istore_n 3, 156) := by decide +kernel
theorem d305_156 : dc 305 156 = some (.iload_n 3, 157) := by decide +kernel
theorem d305_157 : dc 305 157 = some (.aload_n 0, 158) := by decide +kernel
theorem d305_158 : dc 305 158 = some (.dload 1664, 161) := by decide +kernel
theorem d305_161 : dc 305 161 = some (.dload 1424, 164) := by decide +kernel
theorem d305_164 : dc 305 164 = some (.iload_n 1, 165) := by decide +kernel
theorem d305_165 : dc 305 165 = some (.iaload, 166) := by decide +kernel
theorem d305_166 : dc 305 166 = some (.if_icmp .ge ((238 : Nat) : Int), 169) := by decide +kernel
theorem d305_169 : dc 305 169 = some (.bipush 6, 171) := by decide +kernel
theorem d305_171 : dc 305 171 = some (.iload_n 1, 172) := by decide +kernel
theorem d305_172 : dc 305 172 = some (.imul, 173) := by decide +kernel
theorem d305_173 : dc 305 173 = some (.iload_n 3, 174) := by decide +kernel
theorem d305_174 : dc 305 174 = some (.iadd, 175) := by decide +kernel
theorem d305_175 : dc 305 175 = some (.istore 4, 177) := by decide +kernel
theorem d305_177 : dc 305 177 = some (.iload_n 3, 178) := by decide +kernel
theorem d305_178 : dc 305 178 = some (.ifCond .le ((187 : Nat) : Int), 181) := by decide +kernel
theorem d305_181 : dc 305 181 = some (.aload_n 0, 182) := by decide +kernel
theorem d305_182 : dc 305 182 = some (.bipush 44, 184) := by decide +kernel
theorem d305_184 : dc 305 184 = some (.invokevirtual 218, 187) := by decide +kernel
theorem d305_187 : dc 305 187 = some (.aload_n 0, 188) := by decide +kernel
theorem d305_188 : dc 305 188 = some (.dload 1664, 191) := by decide +kernel
theorem d305_191 : dc 305 191 = some (.dload 1425, 194) := by decide +kernel
theorem d305_194 : dc 305 194 = some (.iload 4, 196) := by decide +kernel
theorem d305_196 : dc 305 196 = some (.baload, 197) := by decide +kernel
theorem d305_197 : dc 305 197 = some (.ifCond .eq ((206 : Nat) : Int), 200) := by decide +kernel
theorem d305_200 : dc 305 200 = some (.aload_n 0, 201) := by decide +kernel
theorem d305_201 : dc 305 201 = some (.bipush 58, 203) := by decide +kernel
theorem d305_203 : dc 305 203 = some (.invokevirtual 218, 206) := by decide +kernel
theorem d305_206 : dc 305 206 = some (.aload_n 0, 207) := by decide +kernel
theorem d305_207 : dc 305 207 = some (.aload_n 0, 208) := by decide +kernel
theorem d305_208 : dc 305 208 = some (.dload 1664, 211) := by decide +kernel
theorem d305_211 : dc 305 211 = some (.dload 1426, 214) := by decide +kernel
theorem d305_214 : dc 305 214 = some (.bipush 12, 216) := by decide +kernel
theorem d305_216 : dc 305 216 = some (.iload 4, 218) := by decide +kernel
theorem d305_218 : dc 305 218 = some (.imul, 219) := by decide +kernel
theorem d305_219 : dc 305 219 = some (.aload_n 0, 220) := by decide +kernel
theorem d305_220 : dc 305 220 = some (.dload 1664, 223) := by decide +kernel
theorem d305_223 : dc 305 223 = some (.dload 1427, 226) := by decide +kernel
theorem d305_226 : dc 305 226 = some (.iload 4, 228) := by decide +kernel
theorem d305_228 : dc 305 228 = some (.iaload, 229) := by decide +kernel
theorem d305_229 : dc 305 229 = some (.invokevirtual 294, 232) := by decide +kernel
theorem d305_232 : dc 305 232 = some (.iinc 3 1, 235) := by decide +kernel
theorem d305_235 : dc 305 235 = some (.goto ((156 : Nat) : Int), 238) := by decide +kernel
theorem d305_238 : dc 305 238 = some (.aload_n 0, 239) := by decide +kernel
theorem d305_239 : dc 305 239 = some (.bipush 41, 241) := by decide +kernel
theorem d305_241 : dc 305 241 = some (.invokevirtual 218, 244) := by decide +kernel
theorem d305_244 : dc 305 244 = some (.aload_n 0, 245) := by decide +kernel
theorem d305_245 : dc 305 245 = some (.dload 1664, 248) := by decide +kernel
theorem d305_248 : dc 305 248 = some (.dload 1429, 251) := by decide +kernel
theorem d305_251 : dc 305 251 = some (.iload_n 1, 252) := by decide +kernel
theorem d305_252 : dc 305 252 = some (.iaload, 253) := by decide +kernel
theorem d305_253 : dc 305 253 = some (.ifCond .le ((305 : Nat) : Int), 256) := by decide +kernel
theorem d305_256 : dc 305 256 = some (.aload_n 0, 257) := by decide +kernel
theorem d305_257 : dc 305 257 = some (.bipush 63, 259) := by decide +kernel
theorem d305_259 : dc 305 259 = some (.invokevirtual 218, 262) := by decide +kernel
theorem d305_262 : dc 305 262 = some (.aload_n 0, 263) := by decide +kernel
theorem d305_263 : dc 305 263 = some (.aload_n 0, 264) := by decide +kernel
theorem d305_264 : dc 305 264 = some (.dload 1664, 267) := by decide +kernel
theorem d305_267 : dc 305 267 = some (.dload 1428, 270) := by decide +kernel
theorem d305_270 : dc 305 270 = some (.bipush 8, 272) := by decide +kernel
theorem d305_272 : dc 305 272 = some (.iload_n 1, 273) := by decide +kernel
theorem d305_273 : dc 305 273 = some (.imul, 274) := by decide +kernel
theorem d305_274 : dc 305 274 = some (.aload_n 0, 275) := by decide +kernel
theorem d305_275 : dc 305 275 = some (.dload 1664, 278) := by decide +kernel
theorem d305_278 : dc 305 278 = some (.dload 1429, 281) := by decide +kernel
theorem d305_281 : dc 305 281 = some (.iload_n 1, 282) := by decide +kernel
theorem d305_282 : dc 305 282 = some (.iaload, 283) := by decide +kernel
theorem d305_283 : dc 305 283 = some (.invokevirtual 294, 286) := by decide +kernel
theorem d305_286 : dc 305 286 = some (.aload_n 0, 287) := by decide +kernel
theorem d305_287 : dc 305 287 = some (.bipush 61, 289) := by decide +kernel
theorem d305_289 : dc 305 289 = some (.invokevirtual 218, 292) := by decide +kernel
theorem d305_292 : dc 305 292 = some (.aload_n 0, 293) := by decide +kernel
theorem d305_293 : dc 305 293 = some (.aload_n 0, 294) := by decide +kernel
theorem d305_294 : dc 305 294 = some (.dload 1664, 297) := by decide +kernel
theorem d305_297 : dc 305 297 = some (.dload 1430, 300) := by decide +kernel
theorem d305_300 : dc 305 300 = some (.iload_n 1, 301) := by decide +kernel
theorem d305_301 : dc 305 301 = some (.iaload, 302) := by decide +kernel
theorem d305_302 : dc 305 302 = some (.invokevirtual 219, 305) := by decide +kernel
theorem d305_305 : dc 305 305 = some (.aload_n 0, 306) := by decide +kernel
theorem d305_306 : dc 305 306 = some (.bipush 59, 308) := by decide +kernel
theorem d305_308 : dc 305 308 = some (.invokevirtual 218, 311) := by decide +kernel
theorem d305_311 : dc 305 311 = some (.iinc 1 1, 314) := by decide +kernel
theorem d305_314 : dc 305 314 = some (.goto ((2 : Nat) : Int), 317) := by decide +kernel
theorem d305_317 : dc 305 317 = some (.return_, 318) := by decide +kernel
theorem k_M_tellTargets {S : Shp} {G : Nat → Option Nat} {d : Nat} {h : Hp} {Q : Option MV → Hp → Prop} {m : Nat} {P0 : PlV} {la : List Nat} (ok : Ok S h) (h1 : 12 ≤ d) (hm : sK S m = 14) (TE : TeR S h m la) (NF : DfC S h (sT S 1664 m) P0) (tg : Tg S G) (hc : ∀ u, u < P0.2.2.length → cln (tgW (tD P0.2.2 u)) ∧ cln (tgC (tD P0.2.2 u)) ∧ ∀ k, cln (inN (tgI (tD P0.2.2 u)) k)) (hcl : ∀ u, cln (tgN (tD P0.2.2 u)))
    (kk : ∀ h', Fr S m [1732, 1733] h h' → TeR S h' m (addBs 20000 la (tsTxt P0.2.2 P0.2.2.length)) → Q none h') : Cl G d 305 [vR (some m)] h Q := by
  show Wp G d 305 0 [some (vR (some m)), none, none, none, none] [] h Q
  have TE_0 := TE
  have NF_0 := NF
  have htl := NF.2.2.2.1
  have hd0 := kT1664 ok hm
  refine w_iconst d305_0 (by decide) ?_
  refine w_istore1 d305_1 rfl ?_
  have L2 : ∀ (m2 : Nat) (g2 : Hp) (t : Nat), P0.2.2.length - t = m2 → Fr S m [1732, 1733] h g2 → (t ≤ P0.2.2.length) → (TeR S g2 m (addBs 20000 la (tsTxt P0.2.2 t))) → Wp G d 305 2 [some (vR (some m)), some (vI (t : Nat)), none, none, none] [] g2 Q := by
    intro m2
    induction m2 using Nat.strongRecOn with | ind m2 IH2 => ?_
    intro g2 t hm2 FRg2 tl_ TE
    have okg2 := FRg2.ok
    have NF := DfC.r (f := 1664) FRg2 hm (by decide) NF_0
    refine w_iload_n d305_2 rfl ?_
    refine w_aload_n d305_3 rfl ?_
    refine w_dloadS d305_4 (okg2.kd hm) (fr1664 okg2 hm) ?_
    refine w_getI (x := ((P0.2.2.length : Nat) : Int)) d305_7 (okg2.kd (kT1664 okg2 hm)) NF.2.2.1 ?_
    refine w_icmpge d305_10 (fun c10 => ?_) (fun c10 => ?_)
    · rw [show t = P0.2.2.length by omega] at TE
      refine w_return d305_317 ?_
      exact kk g2 FRg2 TE
    · have ht : t < P0.2.2.length := by omega
      refine w_aload_n d305_13 rfl ?_
      refine w_dloadS d305_14 (okg2.kd hm) (fr1664 okg2 hm) ?_
      refine w_dloadS d305_17 (okg2.kd (kT1664 okg2 hm)) (fr1420 okg2 (kT1664 okg2 hm)) ?_
      refine w_iload_n d305_20 rfl ?_
      refine w_baloadV (x := (b2i (tH P0.2.2 t))) d305_21 (gi1420 okg2 (kT1664 okg2 hm) (by omega)) (NF.2.2.2.2 t ht).2.2.2.1 ?_
      refine w_ifne d305_22 (fun c22 => ?_) (fun c22 => ?_)
      · have tt : (tH P0.2.2 t) = true := by
          cases hz : (tH P0.2.2 t) with
          | true => rfl
          | false => rw [hz] at c22; exact absurd rfl c22
        obtain ⟨r, hr⟩ : ∃ r : Nat, rix (tgR (tD P0.2.2 t)) = (r : Int) := ⟨(rix (tgR (tD P0.2.2 t))).toNat, by have := (NF.2.2.2.2 t ht).2.2.2.2.2.1; omega⟩
        obtain ⟨hkr, hr8⟩ := rixK_nm hr
        obtain ⟨p1, p2, p3, p4⟩ := nmP_go ⟨r, hr8⟩
        have at_ := fun i hi => nmP_at ⟨r, hr8⟩ ⟨i, hi⟩
        change nmP.getD (r + 1) 0 ≤ 47 at p2
        change nmP.getD r 0 + (knm r).length + 1 = nmP.getD (r + 1) 0 at p3
        change (knm r).length ≤ 8 at p4
        change ∀ i, i < 9 → (i < (knm r).length → (txt 42).getD (nmP.getD r 0 + i) 0 = (knm r).getD i 0 ∧ (knm r).getD i 0 ≠ 32 ∧ (knm r).getD i 0 < 128) ∧ (i = (knm r).length → (txt 42).getD (nmP.getD r 0 + i) 0 = 32) at at_
        refine w_aload_n d305_28 rfl ?_
        refine w_aload_n d305_29 rfl ?_
        refine w_dloadS d305_30 (okg2.kd hm) (fr1664 okg2 hm) ?_
        refine w_iload_n d305_33 rfl ?_
        refine w_callv3 d305_34 (by omega) rfl (okg2.kd hm) (by simp) (Nat.le_of_ble_eq_true rfl) ?_
        refine k_M_sayName (fd := 1664) okg2 (by omega) hm TE NF (Or.inl rfl) ht (hcl t) (fun h34 f34 TE => ?_)
        have ok34 := f34.ok
        have FR34 := Fr.tr (F := [1732, 1733]) FRg2 f34 (by decide) (by decide)
        have NF := DfC.r (f := 1664) f34 hm (by decide) NF
        refine w_aload_n d305_37 rfl ?_
        refine w_bipush d305_38 (by decide) ?_
        refine w_callv2 d305_40 (by omega) rfl (ok34.kd hm) (by simp) (Nat.le_of_ble_eq_true rfl) ?_
        refine k_M_put (c := 61) ok34 (by omega) hm TE (by omega) (fun h40 m40 q40 TE => ?_)
        have f40 : Fr S m [1732, 1733] _ _ := Fr.mk ok34 m40 (fun ζ q => q.elim ((fun ζ e => Or.inl e) ζ) ((fun ζ e => Or.inr ⟨1732, by decide, e ▸ U_refl⟩) ζ)) q40 (by decide)
        have ok40 := f40.ok
        have FR40 := Fr.tr (F := [1732, 1733]) FR34 f40 (by decide) (by decide)
        have NF := DfC.r (f := 1664) f40 hm (by decide) NF
        obtain ⟨lb, hlb⟩ : ∃ lb, addBs 20000 (addBs 20000 (addBs 20000 la (tsTxt P0.2.2 t)) (tgN (tD P0.2.2 t))) [61] = lb := ⟨_, rfl⟩
        rw [hlb] at TE
        refine w_iconst d305_43 (by decide) ?_
        refine w_istore2 d305_44 rfl ?_
        refine w_iconst d305_45 (by decide) ?_
        refine w_istore3 d305_46 rfl ?_
        have L47 : ∀ (m47 : Nat) (j : Nat), r - j = m47 → (j ≤ r) → Wp G d 305 47 [some (vR (some m)), some (vI (t : Nat)), some (vI (nmP.getD j 0 : Nat)), some (vI (j : Nat)), none] [] h40 Q := by
          intro m47
          induction m47 using Nat.strongRecOn with | ind m47 IH47 => ?_
          intro j hm47 jr
          refine w_iload_n d305_47 rfl ?_
          refine w_aload_n d305_48 rfl ?_
          refine w_dloadS d305_49 (ok40.kd hm) (fr1664 ok40 hm) ?_
          refine w_dloadS d305_52 (ok40.kd (kT1664 ok40 hm)) (fr1421 ok40 (kT1664 ok40 hm)) ?_
          refine w_iload_n d305_55 rfl ?_
          refine w_ialoadV (x := ((r : Nat) : Int)) d305_56 (gi1421 ok40 (kT1664 ok40 hm) (by omega)) ((NF.2.2.2.2 t ht).2.2.2.2.1.trans hr) ?_
          refine w_icmpge d305_57 (fun c57 => ?_) (fun c57 => ?_)
          · have e : j = r := by omega
            rw [e]
            refine w_iload_n d305_77 rfl ?_
            refine w_istore3 d305_78 rfl ?_
            have L79 : ∀ (m79 : Nat) (g : Hp) (i : Nat), (knm r).length - i = m79 → Fr S m [1732, 1733] h g → (i ≤ (knm r).length) → (TeR S g m (addBs 20000 lb ((knm r).take i))) → Wp G d 305 79 [some (vR (some m)), some (vI (t : Nat)), some (vI (nmP.getD r 0 : Nat)), some (vI (nmP.getD r 0 + i : Nat)), none] [] g Q := by
              intro m79
              induction m79 using Nat.strongRecOn with | ind m79 IH79 => ?_
              intro g i hm79 FRg il TE
              have okg := FRg.ok
              have NF := DfC.r (f := 1664) FRg hm (by decide) NF_0
              obtain ⟨g79, v79, s79⟩ := tg.al okg 42 (by decide)
              refine w_getstaticS d305_79 v79 ?_
              refine w_iload_n d305_81 rfl ?_
              refine w_callv2 d305_82 (by omega) rfl (s79 _ okg).1 (by simp) (Nat.le_of_ble_eq_true rfl) ?_
              refine r_charAtN (S := S) (i := nmP.getD r 0 + i) (by omega) (s79 _ okg) (by rw [txt42]; omega) ?_
              refine w_bipush d305_85 (by decide) ?_
              refine w_icmpeq d305_87 (fun c87 => ?_) (fun c87 => ?_)
              · have e : i = (knm r).length := by
                  rcases Nat.lt_or_ge i (knm r).length with z | z
                  · have := (at_ i (by omega)).1 z
                    omega
                  · omega
                rw [List.take_of_length_le (by omega), hkr] at TE
                refine w_aload_n d305_106 rfl ?_
                refine w_dloadS d305_107 (okg.kd hm) (fr1664 okg hm) ?_
                refine w_dloadS d305_110 (okg.kd (kT1664 okg hm)) (fr1423 okg (kT1664 okg hm)) ?_
                refine w_iload_n d305_113 rfl ?_
                refine w_ialoadV (x := ((tgW (tD P0.2.2 t)).length : Int)) d305_114 (gi1423 okg (kT1664 okg hm) (by omega)) (NF.2.2.2.2 t ht).2.2.2.2.2.2.1 ?_
                have L124 : ∀ (m124 : Nat) (g124 : Hp) (wx : List Nat), 0 = m124 → Fr S m [1732, 1733] h g124 → (TeR S g124 m (addBs 20000 lb (tgR (tD P0.2.2 t) ++ wx))) → (wx = if tgW (tD P0.2.2 t) = [] then [] else [46]) → Wp G d 305 124 [some (vR (some m)), some (vI (t : Nat)), none, none, none] [] g124 Q := by
                  intro m124
                  induction m124 using Nat.strongRecOn with | ind m124 IH124 => ?_
                  intro g124 wx hm124 FRg124 TE hwx
                  have okg124 := FRg124.ok
                  have NF := DfC.r (f := 1664) FRg124 hm (by decide) NF_0
                  refine w_aload_n d305_124 rfl ?_
                  refine w_aload_n d305_125 rfl ?_
                  refine w_dloadS d305_126 (okg124.kd hm) (fr1664 okg124 hm) ?_
                  refine w_dloadS d305_129 (okg124.kd (kT1664 okg124 hm)) (fr1422 okg124 (kT1664 okg124 hm)) ?_
                  refine w_bipush d305_132 (by decide) ?_
                  refine w_iload_n d305_134 rfl ?_
                  refine w_imul d305_135 (by constructor <;> omega) ?_
                  rw [show (8 : Int) * ((t : Nat) : Int) = ((8 * t : Nat) : Int) by omega]
                  refine w_aload_n d305_136 rfl ?_
                  refine w_dloadS d305_137 (okg124.kd hm) (fr1664 okg124 hm) ?_
                  refine w_dloadS d305_140 (okg124.kd (kT1664 okg124 hm)) (fr1423 okg124 (kT1664 okg124 hm)) ?_
                  refine w_iload_n d305_143 rfl ?_
                  refine w_ialoadV (x := ((tgW (tD P0.2.2 t)).length : Int)) d305_144 (gi1423 okg124 (kT1664 okg124 hm) (by omega)) (NF.2.2.2.2 t ht).2.2.2.2.2.2.1 ?_
                  refine w_callv4 d305_145 (by omega) rfl (okg124.kd hm) (by simp) (Nat.le_of_ble_eq_true rfl) ?_
                  refine k_M_sayBytes okg124 (by omega) hm TE rfl (NF.2.2.2.2 t ht).2.2.2.2.2.2.2.2.1 (nb_fd (f := 1422) (g := 1732) (fd := 1664) (m := m) ok (by decide) (by decide) (by decide)) (SgC.le (NF.2.2.2.2 t ht).2.2.2.2.2.2.2.2.1 (fun i => (ra1422 okg124 hd0 i).2)) (fun h145 m145 q145 TE => ?_)
                  have f145 : Fr S m [1732, 1733] _ _ := Fr.mk okg124 m145 (fun ζ q => q.elim ((fun ζ e => Or.inl e) ζ) ((fun ζ e => Or.inr ⟨1732, by decide, e ▸ U_refl⟩) ζ)) q145 (by decide)
                  have ok145 := f145.ok
                  have FR145 := Fr.tr (F := [1732, 1733]) FRg124 f145 (by decide) (by decide)
                  have NF := DfC.r (f := 1664) f145 hm (by decide) NF
                  rw [(hc t ht).1.map] at TE
                  refine w_aload_n d305_148 rfl ?_
                  refine w_bipush d305_149 (by decide) ?_
                  refine w_callv2 d305_151 (by omega) rfl (ok145.kd hm) (by simp) (Nat.le_of_ble_eq_true rfl) ?_
                  refine k_M_put (c := 40) ok145 (by omega) hm TE (by omega) (fun h151 m151 q151 TE => ?_)
                  have f151 : Fr S m [1732, 1733] _ _ := Fr.mk ok145 m151 (fun ζ q => q.elim ((fun ζ e => Or.inl e) ζ) ((fun ζ e => Or.inr ⟨1732, by decide, e ▸ U_refl⟩) ζ)) q151 (by decide)
                  have ok151 := f151.ok
                  have FR151 := Fr.tr (F := [1732, 1733]) FR145 f151 (by decide) (by decide)
                  have NF := DfC.r (f := 1664) f151 hm (by decide) NF
                  rw [← addBs_app, ← addBs_app, wd_eq hwx] at TE
                  obtain ⟨lc, hlc⟩ : ∃ lc, addBs 20000 lb (tgR (tD P0.2.2 t) ++ ((if tgW (tD P0.2.2 t) = [] then [] else 46 :: tgW (tD P0.2.2 t)) ++ [40])) = lc := ⟨_, rfl⟩
                  rw [hlc] at TE
                  refine w_iconst d305_154 (by decide) ?_
                  refine w_istore3 d305_155 rfl ?_
                  have L156 : ∀ (m156 : Nat) (g156 : Hp) (k : Nat), (tgI (tD P0.2.2 t)).length - k = m156 → Fr S m [1732, 1733] h g156 → (k ≤ (tgI (tD P0.2.2 t)).length) → (TeR S g156 m (addBs 20000 lc (insK (tgI (tD P0.2.2 t)) k))) → Wp G d 305 156 [some (vR (some m)), some (vI (t : Nat)), none, some (vI (k : Nat)), none] [] g156 Q := by
                    intro m156
                    induction m156 using Nat.strongRecOn with | ind m156 IH156 => ?_
                    intro g156 k hm156 FRg156 kl TE
                    have okg156 := FRg156.ok
                    have NF := DfC.r (f := 1664) FRg156 hm (by decide) NF_0
                    refine w_iload_n d305_156 rfl ?_
                    refine w_aload_n d305_157 rfl ?_
                    refine w_dloadS d305_158 (okg156.kd hm) (fr1664 okg156 hm) ?_
                    refine w_dloadS d305_161 (okg156.kd (kT1664 okg156 hm)) (fr1424 okg156 (kT1664 okg156 hm)) ?_
                    refine w_iload_n d305_164 rfl ?_
                    refine w_ialoadV (x := ((tgI (tD P0.2.2 t)).length : Int)) d305_165 (gi1424 okg156 (kT1664 okg156 hm) (by omega)) (NF.2.2.2.2 t ht).2.2.2.2.2.2.2.2.2.1 ?_
                    refine w_icmpge d305_166 (fun c166 => ?_) (fun c166 => ?_)
                    · rw [show k = (tgI (tD P0.2.2 t)).length by omega, insK_all] at TE
                      refine w_aload_n d305_238 rfl ?_
                      refine w_bipush d305_239 (by decide) ?_
                      refine w_callv2 d305_241 (by omega) rfl (okg156.kd hm) (by simp) (Nat.le_of_ble_eq_true rfl) ?_
                      refine k_M_put (c := 41) okg156 (by omega) hm TE (by omega) (fun h241 m241 q241 TE => ?_)
                      have f241 : Fr S m [1732, 1733] _ _ := Fr.mk okg156 m241 (fun ζ q => q.elim ((fun ζ e => Or.inl e) ζ) ((fun ζ e => Or.inr ⟨1732, by decide, e ▸ U_refl⟩) ζ)) q241 (by decide)
                      have ok241 := f241.ok
                      have FR241 := Fr.tr (F := [1732, 1733]) FRg156 f241 (by decide) (by decide)
                      have NF := DfC.r (f := 1664) f241 hm (by decide) NF
                      rw [← addBs_app] at TE
                      obtain ⟨le_, hle⟩ : ∃ le_, addBs 20000 lc (insTxt (tgI (tD P0.2.2 t)) ++ [41]) = le_ := ⟨_, rfl⟩
                      rw [hle] at TE
                      refine w_aload_n d305_244 rfl ?_
                      refine w_dloadS d305_245 (ok241.kd hm) (fr1664 ok241 hm) ?_
                      refine w_dloadS d305_248 (ok241.kd (kT1664 ok241 hm)) (fr1429 ok241 (kT1664 ok241 hm)) ?_
                      refine w_iload_n d305_251 rfl ?_
                      refine w_ialoadV (x := ((tgC (tD P0.2.2 t)).length : Int)) d305_252 (gi1429 ok241 (kT1664 ok241 hm) (by omega)) (NF.2.2.2.2 t ht).2.2.2.2.2.2.2.2.2.2.2.2.1 ?_
                      have L305 : ∀ (m305 : Nat) (g305 : Hp) (cx : List Nat), 0 = m305 → Fr S m [1732, 1733] h g305 → (TeR S g305 m (addBs 20000 le_ cx)) → (cx = if tgC (tD P0.2.2 t) = [] then [] else 63 :: tgC (tD P0.2.2 t) ++ 61 :: dec (tgK (tD P0.2.2 t))) → Wp G d 305 305 [some (vR (some m)), some (vI (t : Nat)), none, none, none] [] g305 Q := by
                        intro m305
                        induction m305 using Nat.strongRecOn with | ind m305 IH305 => ?_
                        intro g305 cx hm305 FRg305 TE hcx
                        have okg305 := FRg305.ok
                        have NF := DfC.r (f := 1664) FRg305 hm (by decide) NF_0
                        refine w_aload_n d305_305 rfl ?_
                        refine w_bipush d305_306 (by decide) ?_
                        refine w_callv2 d305_308 (by omega) rfl (okg305.kd hm) (by simp) (Nat.le_of_ble_eq_true rfl) ?_
                        refine k_M_put (c := 59) okg305 (by omega) hm TE (by omega) (fun h308 m308 q308 TE => ?_)
                        have f308 : Fr S m [1732, 1733] _ _ := Fr.mk okg305 m308 (fun ζ q => q.elim ((fun ζ e => Or.inl e) ζ) ((fun ζ e => Or.inr ⟨1732, by decide, e ▸ U_refl⟩) ζ)) q308 (by decide)
                        have ok308 := f308.ok
                        have FR308 := Fr.tr (F := [1732, 1733]) FRg305 f308 (by decide) (by decide)
                        have NF := DfC.r (f := 1664) f308 hm (by decide) NF
                        have ft : TeR S h308 m (addBs 20000 la (tsTxt P0.2.2 (t + 1))) := by
                          rw [tsTxt, if_pos tt]
                          unfold tgTxt
                          rw [← hle, ← hlc, ← hlb] at TE
                          simp only [← addBs_app] at TE
                          rw [hcx] at TE
                          simpa only [List.append_assoc, List.cons_append, List.nil_append, List.append_nil] using TE
                        refine w_iinc1 d305_311 rfl (by constructor <;> omega) ?_
                        refine w_goto d305_314 ?_
                        rw [show ((t : Nat) : Int) + 1 = ((t + 1 : Nat) : Int) by omega]
                        refine w_less ?_ (IH2 _ (by omega) h308 (t + 1) rfl FR308 (by omega) (by first | exact ft | (rw [tsTxt, if_neg (by rw [tt]; decide), List.append_nil]; exact TE)))
                        exact ⟨Or.inr rfl, Or.inr rfl, Or.inl rfl, Or.inl rfl, Or.inl rfl, trivial⟩
                      refine w_ifle d305_253 (fun c253 => ?_) (fun c253 => ?_)
                      · have cn : tgC (tD P0.2.2 t) = [] := List.length_eq_zero_iff.mp (by omega)
                        refine w_less ?_ (L305 _ h241 [] rfl FR241 TE (by rw [if_pos cn]))
                        exact ⟨Or.inr rfl, Or.inr rfl, Or.inl rfl, Or.inl rfl, Or.inl rfl, trivial⟩
                      · have cn : tgC (tD P0.2.2 t) ≠ [] := fun z => by rw [z] at c253; exact absurd c253 (by decide)
                        refine w_aload_n d305_256 rfl ?_
                        refine w_bipush d305_257 (by decide) ?_
                        refine w_callv2 d305_259 (by omega) rfl (ok241.kd hm) (by simp) (Nat.le_of_ble_eq_true rfl) ?_
                        refine k_M_put (c := 63) ok241 (by omega) hm TE (by omega) (fun h259 m259 q259 TE => ?_)
                        have f259 : Fr S m [1732, 1733] _ _ := Fr.mk ok241 m259 (fun ζ q => q.elim ((fun ζ e => Or.inl e) ζ) ((fun ζ e => Or.inr ⟨1732, by decide, e ▸ U_refl⟩) ζ)) q259 (by decide)
                        have ok259 := f259.ok
                        have FR259 := Fr.tr (F := [1732, 1733]) FR241 f259 (by decide) (by decide)
                        have NF := DfC.r (f := 1664) f259 hm (by decide) NF
                        refine w_aload_n d305_262 rfl ?_
                        refine w_aload_n d305_263 rfl ?_
                        refine w_dloadS d305_264 (ok259.kd hm) (fr1664 ok259 hm) ?_
                        refine w_dloadS d305_267 (ok259.kd (kT1664 ok259 hm)) (fr1428 ok259 (kT1664 ok259 hm)) ?_
                        refine w_bipush d305_270 (by decide) ?_
                        refine w_iload_n d305_272 rfl ?_
                        refine w_imul d305_273 (by constructor <;> omega) ?_
                        rw [show (8 : Int) * ((t : Nat) : Int) = ((8 * t : Nat) : Int) by omega]
                        refine w_aload_n d305_274 rfl ?_
                        refine w_dloadS d305_275 (ok259.kd hm) (fr1664 ok259 hm) ?_
                        refine w_dloadS d305_278 (ok259.kd (kT1664 ok259 hm)) (fr1429 ok259 (kT1664 ok259 hm)) ?_
                        refine w_iload_n d305_281 rfl ?_
                        refine w_ialoadV (x := ((tgC (tD P0.2.2 t)).length : Int)) d305_282 (gi1429 ok259 (kT1664 ok259 hm) (by omega)) (NF.2.2.2.2 t ht).2.2.2.2.2.2.2.2.2.2.2.2.1 ?_
                        refine w_callv4 d305_283 (by omega) rfl (ok259.kd hm) (by simp) (Nat.le_of_ble_eq_true rfl) ?_
                        refine k_M_sayBytes ok259 (by omega) hm TE rfl (NF.2.2.2.2 t ht).2.2.2.2.2.2.2.2.2.2.2.2.2.2.1 (nb_fd (f := 1428) (g := 1732) (fd := 1664) (m := m) ok (by decide) (by decide) (by decide)) (SgC.le (NF.2.2.2.2 t ht).2.2.2.2.2.2.2.2.2.2.2.2.2.2.1 (fun i => (ra1428 ok259 hd0 i).2)) (fun h283 m283 q283 TE => ?_)
                        have f283 : Fr S m [1732, 1733] _ _ := Fr.mk ok259 m283 (fun ζ q => q.elim ((fun ζ e => Or.inl e) ζ) ((fun ζ e => Or.inr ⟨1732, by decide, e ▸ U_refl⟩) ζ)) q283 (by decide)
                        have ok283 := f283.ok
                        have FR283 := Fr.tr (F := [1732, 1733]) FR259 f283 (by decide) (by decide)
                        have NF := DfC.r (f := 1664) f283 hm (by decide) NF
                        rw [(hc t ht).2.1.map] at TE
                        refine w_aload_n d305_286 rfl ?_
                        refine w_bipush d305_287 (by decide) ?_
                        refine w_callv2 d305_289 (by omega) rfl (ok283.kd hm) (by simp) (Nat.le_of_ble_eq_true rfl) ?_
                        refine k_M_put (c := 61) ok283 (by omega) hm TE (by omega) (fun h289 m289 q289 TE => ?_)
                        have f289 : Fr S m [1732, 1733] _ _ := Fr.mk ok283 m289 (fun ζ q => q.elim ((fun ζ e => Or.inl e) ζ) ((fun ζ e => Or.inr ⟨1732, by decide, e ▸ U_refl⟩) ζ)) q289 (by decide)
                        have ok289 := f289.ok
                        have FR289 := Fr.tr (F := [1732, 1733]) FR283 f289 (by decide) (by decide)
                        have NF := DfC.r (f := 1664) f289 hm (by decide) NF
                        refine w_aload_n d305_292 rfl ?_
                        refine w_aload_n d305_293 rfl ?_
                        refine w_dloadS d305_294 (ok289.kd hm) (fr1664 ok289 hm) ?_
                        refine w_dloadS d305_297 (ok289.kd (kT1664 ok289 hm)) (fr1430 ok289 (kT1664 ok289 hm)) ?_
                        refine w_iload_n d305_300 rfl ?_
                        refine w_ialoadV (x := ((tgK (tD P0.2.2 t) : Nat) : Int)) d305_301 (gi1430 ok289 (kT1664 ok289 hm) (by omega)) (NF.2.2.2.2 t ht).2.2.2.2.2.2.2.2.2.2.2.2.2.2.2.1 ?_
                        have k9 := (NF.2.2.2.2 t ht).2.2.2.2.2.2.2.2.2.2.2.2.2.2.2.2
                        refine w_callv2 d305_302 (by omega) rfl (ok289.kd hm) (by simp) (Nat.le_of_ble_eq_true rfl) ?_
                        refine k_M_number (n := 9) ok289 (by omega) hm (by omega) TE (by omega) (by decide) (fun h302 m302 q302 TE => ?_)
                        have f302 : Fr S m [1732, 1733] _ _ := Fr.mk ok289 m302 (fun ζ q => q.elim ((fun ζ e => Or.inl e) ζ) ((fun ζ e => Or.inr ⟨1732, by decide, e ▸ U_refl⟩) ζ)) q302 (by decide)
                        have ok302 := f302.ok
                        have FR302 := Fr.tr (F := [1732, 1733]) FR289 f302 (by decide) (by decide)
                        have NF := DfC.r (f := 1664) f302 hm (by decide) NF
                        simp only [← addBs_app] at TE
                        refine w_less ?_ (L305 _ h302 _ rfl FR302 TE (by rw [if_neg cn]; simp only [List.append_assoc, List.cons_append, List.nil_append]))
                        exact ⟨Or.inr rfl, Or.inr rfl, Or.inl rfl, Or.inl rfl, Or.inl rfl, trivial⟩
                    · have hk : k < (tgI (tD P0.2.2 t)).length := by omega
                      have hk6 : k < 6 := by have := (NF.2.2.2.2 t ht).2.2.2.2.2.2.2.2.2.2.1; omega
                      obtain ⟨b1, b2, b3, b4⟩ := (NF.2.2.2.2 t ht).2.2.2.2.2.2.2.2.2.2.2.1 k hk
                      have ii : insK (tgI (tD P0.2.2 t)) (k + 1) = insK (tgI (tD P0.2.2 t)) k ++ ((if 0 < k then [44] else []) ++ inTxt ((tgI (tD P0.2.2 t)).getD k (false, []))) := rfl
                      refine w_bipush d305_169 (by decide) ?_
                      refine w_iload_n d305_171 rfl ?_
                      refine w_imul d305_172 (by constructor <;> omega) ?_
                      rw [show (6 : Int) * ((t : Nat) : Int) = ((6 * t : Nat) : Int) by omega]
                      refine w_iload_n d305_173 rfl ?_
                      refine w_iadd d305_174 (by constructor <;> omega) ?_
                      rw [show ((6 * t : Nat) : Int) + ((k : Nat) : Int) = ((6 * t + k : Nat) : Int) by omega]
                      refine w_istore4 d305_175 rfl ?_
                      refine w_iload_n d305_177 rfl ?_
                      refine w_ifle d305_178 (fun c178 => ?_) (fun c178 => ?_)
                      · have ii : insK (tgI (tD P0.2.2 t)) (k + 1) = insK (tgI (tD P0.2.2 t)) k ++ inTxt ((tgI (tD P0.2.2 t)).getD k (false, [])) := by rw [ii, if_neg (by omega), List.nil_append]
                        refine w_aload_n d305_187 rfl ?_
                        refine w_dloadS d305_188 (okg156.kd hm) (fr1664 okg156 hm) ?_
                        refine w_dloadS d305_191 (okg156.kd (kT1664 okg156 hm)) (fr1425 okg156 (kT1664 okg156 hm)) ?_
                        refine w_iload d305_194 rfl ?_
                        refine w_baloadV (x := (b2i (inB (tgI (tD P0.2.2 t)) k))) d305_196 (gi1425 okg156 (kT1664 okg156 hm) (by omega)) (((NF.2.2.2.2 t ht).2.2.2.2.2.2.2.2.2.2.2.1 k hk).1) ?_
                        refine w_ifeq d305_197 (fun c197 => ?_) (fun c197 => ?_)
                        · have ib : (inB (tgI (tD P0.2.2 t)) k) = false := by
                            cases hz : (inB (tgI (tD P0.2.2 t)) k) with
                            | true => rw [hz] at c197; exact absurd c197 (by decide)
                            | false => rfl
                          have it : inTxt ((tgI (tD P0.2.2 t)).getD k (false, [])) = inN (tgI (tD P0.2.2 t)) k := by unfold inTxt; rw [if_neg (by rw [show ((tgI (tD P0.2.2 t)).getD k (false, [])).1 = false from ib]; decide)]; rfl
                          refine w_aload_n d305_206 rfl ?_
                          refine w_aload_n d305_207 rfl ?_
                          refine w_dloadS d305_208 (okg156.kd hm) (fr1664 okg156 hm) ?_
                          refine w_dloadS d305_211 (okg156.kd (kT1664 okg156 hm)) (fr1426 okg156 (kT1664 okg156 hm)) ?_
                          refine w_bipush d305_214 (by decide) ?_
                          refine w_iload d305_216 rfl ?_
                          refine w_imul d305_218 (by constructor <;> omega) ?_
                          rw [show (12 : Int) * (((6 * t + k) : Nat) : Int) = ((12 * (6 * t + k) : Nat) : Int) by omega]
                          refine w_aload_n d305_219 rfl ?_
                          refine w_dloadS d305_220 (okg156.kd hm) (fr1664 okg156 hm) ?_
                          refine w_dloadS d305_223 (okg156.kd (kT1664 okg156 hm)) (fr1427 okg156 (kT1664 okg156 hm)) ?_
                          refine w_iload d305_226 rfl ?_
                          refine w_ialoadV (x := ((inN (tgI (tD P0.2.2 t)) k).length : Int)) d305_228 (gi1427 okg156 (kT1664 okg156 hm) (by omega)) (((NF.2.2.2.2 t ht).2.2.2.2.2.2.2.2.2.2.2.1 k hk).2.1) ?_
                          refine w_callv4 d305_229 (by omega) rfl (okg156.kd hm) (by simp) (Nat.le_of_ble_eq_true rfl) ?_
                          refine k_M_sayBytes okg156 (by omega) hm TE rfl (((NF.2.2.2.2 t ht).2.2.2.2.2.2.2.2.2.2.2.1 k hk).2.2.2) (nb_fd (f := 1426) (g := 1732) (fd := 1664) (m := m) ok (by decide) (by decide) (by decide)) (SgC.le (((NF.2.2.2.2 t ht).2.2.2.2.2.2.2.2.2.2.2.1 k hk).2.2.2) (fun i => (ra1426 okg156 hd0 i).2)) (fun h229 m229 q229 TE => ?_)
                          have f229 : Fr S m [1732, 1733] _ _ := Fr.mk okg156 m229 (fun ζ q => q.elim ((fun ζ e => Or.inl e) ζ) ((fun ζ e => Or.inr ⟨1732, by decide, e ▸ U_refl⟩) ζ)) q229 (by decide)
                          have ok229 := f229.ok
                          have FR229 := Fr.tr (F := [1732, 1733]) FRg156 f229 (by decide) (by decide)
                          have NF := DfC.r (f := 1664) f229 hm (by decide) NF
                          rw [((hc t ht).2.2 k).map, ← addBs_app] at TE
                          have TE : TeR S h229 m (addBs 20000 lc (insK (tgI (tD P0.2.2 t)) (k + 1))) := by rw [ii, it]; simpa only [List.append_assoc] using TE
                          refine w_iinc3 d305_232 rfl (by constructor <;> omega) ?_
                          refine w_goto d305_235 ?_
                          rw [show ((k : Nat) : Int) + 1 = ((k + 1 : Nat) : Int) by omega]
                          refine w_less ?_ (IH156 _ (by omega) h229 (k + 1) rfl FR229 (by omega) TE)
                          exact ⟨Or.inr rfl, Or.inr rfl, Or.inl rfl, Or.inr rfl, Or.inl rfl, trivial⟩
                        · have ib : (inB (tgI (tD P0.2.2 t)) k) = true := by
                            cases hz : (inB (tgI (tD P0.2.2 t)) k) with
                            | true => rfl
                            | false => rw [hz] at c197; exact absurd rfl c197
                          have it : inTxt ((tgI (tD P0.2.2 t)).getD k (false, [])) = [58] ++ inN (tgI (tD P0.2.2 t)) k := by unfold inTxt; rw [if_pos (show ((tgI (tD P0.2.2 t)).getD k (false, [])).1 = true from ib)]; rfl
                          refine w_aload_n d305_200 rfl ?_
                          refine w_bipush d305_201 (by decide) ?_
                          refine w_callv2 d305_203 (by omega) rfl (okg156.kd hm) (by simp) (Nat.le_of_ble_eq_true rfl) ?_
                          refine k_M_put (c := 58) okg156 (by omega) hm TE (by omega) (fun h203 m203 q203 TE => ?_)
                          have f203 : Fr S m [1732, 1733] _ _ := Fr.mk okg156 m203 (fun ζ q => q.elim ((fun ζ e => Or.inl e) ζ) ((fun ζ e => Or.inr ⟨1732, by decide, e ▸ U_refl⟩) ζ)) q203 (by decide)
                          have ok203 := f203.ok
                          have FR203 := Fr.tr (F := [1732, 1733]) FRg156 f203 (by decide) (by decide)
                          have NF := DfC.r (f := 1664) f203 hm (by decide) NF
                          rw [← addBs_app] at TE
                          refine w_aload_n d305_206 rfl ?_
                          refine w_aload_n d305_207 rfl ?_
                          refine w_dloadS d305_208 (ok203.kd hm) (fr1664 ok203 hm) ?_
                          refine w_dloadS d305_211 (ok203.kd (kT1664 ok203 hm)) (fr1426 ok203 (kT1664 ok203 hm)) ?_
                          refine w_bipush d305_214 (by decide) ?_
                          refine w_iload d305_216 rfl ?_
                          refine w_imul d305_218 (by constructor <;> omega) ?_
                          rw [show (12 : Int) * (((6 * t + k) : Nat) : Int) = ((12 * (6 * t + k) : Nat) : Int) by omega]
                          refine w_aload_n d305_219 rfl ?_
                          refine w_dloadS d305_220 (ok203.kd hm) (fr1664 ok203 hm) ?_
                          refine w_dloadS d305_223 (ok203.kd (kT1664 ok203 hm)) (fr1427 ok203 (kT1664 ok203 hm)) ?_
                          refine w_iload d305_226 rfl ?_
                          refine w_ialoadV (x := ((inN (tgI (tD P0.2.2 t)) k).length : Int)) d305_228 (gi1427 ok203 (kT1664 ok203 hm) (by omega)) (((NF.2.2.2.2 t ht).2.2.2.2.2.2.2.2.2.2.2.1 k hk).2.1) ?_
                          refine w_callv4 d305_229 (by omega) rfl (ok203.kd hm) (by simp) (Nat.le_of_ble_eq_true rfl) ?_
                          refine k_M_sayBytes ok203 (by omega) hm TE rfl (((NF.2.2.2.2 t ht).2.2.2.2.2.2.2.2.2.2.2.1 k hk).2.2.2) (nb_fd (f := 1426) (g := 1732) (fd := 1664) (m := m) ok (by decide) (by decide) (by decide)) (SgC.le (((NF.2.2.2.2 t ht).2.2.2.2.2.2.2.2.2.2.2.1 k hk).2.2.2) (fun i => (ra1426 ok203 hd0 i).2)) (fun h229 m229 q229 TE => ?_)
                          have f229 : Fr S m [1732, 1733] _ _ := Fr.mk ok203 m229 (fun ζ q => q.elim ((fun ζ e => Or.inl e) ζ) ((fun ζ e => Or.inr ⟨1732, by decide, e ▸ U_refl⟩) ζ)) q229 (by decide)
                          have ok229 := f229.ok
                          have FR229 := Fr.tr (F := [1732, 1733]) FR203 f229 (by decide) (by decide)
                          have NF := DfC.r (f := 1664) f229 hm (by decide) NF
                          rw [((hc t ht).2.2 k).map, ← addBs_app] at TE
                          have TE : TeR S h229 m (addBs 20000 lc (insK (tgI (tD P0.2.2 t)) (k + 1))) := by rw [ii, it]; simpa only [List.append_assoc] using TE
                          refine w_iinc3 d305_232 rfl (by constructor <;> omega) ?_
                          refine w_goto d305_235 ?_
                          rw [show ((k : Nat) : Int) + 1 = ((k + 1 : Nat) : Int) by omega]
                          refine w_less ?_ (IH156 _ (by omega) h229 (k + 1) rfl FR229 (by omega) TE)
                          exact ⟨Or.inr rfl, Or.inr rfl, Or.inl rfl, Or.inr rfl, Or.inl rfl, trivial⟩
                      · have ii : insK (tgI (tD P0.2.2 t)) (k + 1) = insK (tgI (tD P0.2.2 t)) k ++ [44] ++ inTxt ((tgI (tD P0.2.2 t)).getD k (false, [])) := by rw [ii, if_pos (by omega), List.append_assoc]
                        refine w_aload_n d305_181 rfl ?_
                        refine w_bipush d305_182 (by decide) ?_
                        refine w_callv2 d305_184 (by omega) rfl (okg156.kd hm) (by simp) (Nat.le_of_ble_eq_true rfl) ?_
                        refine k_M_put (c := 44) okg156 (by omega) hm TE (by omega) (fun h184 m184 q184 TE => ?_)
                        have f184 : Fr S m [1732, 1733] _ _ := Fr.mk okg156 m184 (fun ζ q => q.elim ((fun ζ e => Or.inl e) ζ) ((fun ζ e => Or.inr ⟨1732, by decide, e ▸ U_refl⟩) ζ)) q184 (by decide)
                        have ok184 := f184.ok
                        have FR184 := Fr.tr (F := [1732, 1733]) FRg156 f184 (by decide) (by decide)
                        have NF := DfC.r (f := 1664) f184 hm (by decide) NF
                        rw [← addBs_app] at TE
                        refine w_aload_n d305_187 rfl ?_
                        refine w_dloadS d305_188 (ok184.kd hm) (fr1664 ok184 hm) ?_
                        refine w_dloadS d305_191 (ok184.kd (kT1664 ok184 hm)) (fr1425 ok184 (kT1664 ok184 hm)) ?_
                        refine w_iload d305_194 rfl ?_
                        refine w_baloadV (x := (b2i (inB (tgI (tD P0.2.2 t)) k))) d305_196 (gi1425 ok184 (kT1664 ok184 hm) (by omega)) (((NF.2.2.2.2 t ht).2.2.2.2.2.2.2.2.2.2.2.1 k hk).1) ?_
                        refine w_ifeq d305_197 (fun c197 => ?_) (fun c197 => ?_)
                        · have ib : (inB (tgI (tD P0.2.2 t)) k) = false := by
                            cases hz : (inB (tgI (tD P0.2.2 t)) k) with
                            | true => rw [hz] at c197; exact absurd c197 (by decide)
                            | false => rfl
                          have it : inTxt ((tgI (tD P0.2.2 t)).getD k (false, [])) = inN (tgI (tD P0.2.2 t)) k := by unfold inTxt; rw [if_neg (by rw [show ((tgI (tD P0.2.2 t)).getD k (false, [])).1 = false from ib]; decide)]; rfl
                          refine w_aload_n d305_206 rfl ?_
                          refine w_aload_n d305_207 rfl ?_
                          refine w_dloadS d305_208 (ok184.kd hm) (fr1664 ok184 hm) ?_
                          refine w_dloadS d305_211 (ok184.kd (kT1664 ok184 hm)) (fr1426 ok184 (kT1664 ok184 hm)) ?_
                          refine w_bipush d305_214 (by decide) ?_
                          refine w_iload d305_216 rfl ?_
                          refine w_imul d305_218 (by constructor <;> omega) ?_
                          rw [show (12 : Int) * (((6 * t + k) : Nat) : Int) = ((12 * (6 * t + k) : Nat) : Int) by omega]
                          refine w_aload_n d305_219 rfl ?_
                          refine w_dloadS d305_220 (ok184.kd hm) (fr1664 ok184 hm) ?_
                          refine w_dloadS d305_223 (ok184.kd (kT1664 ok184 hm)) (fr1427 ok184 (kT1664 ok184 hm)) ?_
                          refine w_iload d305_226 rfl ?_
                          refine w_ialoadV (x := ((inN (tgI (tD P0.2.2 t)) k).length : Int)) d305_228 (gi1427 ok184 (kT1664 ok184 hm) (by omega)) (((NF.2.2.2.2 t ht).2.2.2.2.2.2.2.2.2.2.2.1 k hk).2.1) ?_
                          refine w_callv4 d305_229 (by omega) rfl (ok184.kd hm) (by simp) (Nat.le_of_ble_eq_true rfl) ?_
                          refine k_M_sayBytes ok184 (by omega) hm TE rfl (((NF.2.2.2.2 t ht).2.2.2.2.2.2.2.2.2.2.2.1 k hk).2.2.2) (nb_fd (f := 1426) (g := 1732) (fd := 1664) (m := m) ok (by decide) (by decide) (by decide)) (SgC.le (((NF.2.2.2.2 t ht).2.2.2.2.2.2.2.2.2.2.2.1 k hk).2.2.2) (fun i => (ra1426 ok184 hd0 i).2)) (fun h229 m229 q229 TE => ?_)
                          have f229 : Fr S m [1732, 1733] _ _ := Fr.mk ok184 m229 (fun ζ q => q.elim ((fun ζ e => Or.inl e) ζ) ((fun ζ e => Or.inr ⟨1732, by decide, e ▸ U_refl⟩) ζ)) q229 (by decide)
                          have ok229 := f229.ok
                          have FR229 := Fr.tr (F := [1732, 1733]) FR184 f229 (by decide) (by decide)
                          have NF := DfC.r (f := 1664) f229 hm (by decide) NF
                          rw [((hc t ht).2.2 k).map, ← addBs_app] at TE
                          have TE : TeR S h229 m (addBs 20000 lc (insK (tgI (tD P0.2.2 t)) (k + 1))) := by rw [ii, it]; simpa only [List.append_assoc] using TE
                          refine w_iinc3 d305_232 rfl (by constructor <;> omega) ?_
                          refine w_goto d305_235 ?_
                          rw [show ((k : Nat) : Int) + 1 = ((k + 1 : Nat) : Int) by omega]
                          refine w_less ?_ (IH156 _ (by omega) h229 (k + 1) rfl FR229 (by omega) TE)
                          exact ⟨Or.inr rfl, Or.inr rfl, Or.inl rfl, Or.inr rfl, Or.inl rfl, trivial⟩
                        · have ib : (inB (tgI (tD P0.2.2 t)) k) = true := by
                            cases hz : (inB (tgI (tD P0.2.2 t)) k) with
                            | true => rfl
                            | false => rw [hz] at c197; exact absurd rfl c197
                          have it : inTxt ((tgI (tD P0.2.2 t)).getD k (false, [])) = [58] ++ inN (tgI (tD P0.2.2 t)) k := by unfold inTxt; rw [if_pos (show ((tgI (tD P0.2.2 t)).getD k (false, [])).1 = true from ib)]; rfl
                          refine w_aload_n d305_200 rfl ?_
                          refine w_bipush d305_201 (by decide) ?_
                          refine w_callv2 d305_203 (by omega) rfl (ok184.kd hm) (by simp) (Nat.le_of_ble_eq_true rfl) ?_
                          refine k_M_put (c := 58) ok184 (by omega) hm TE (by omega) (fun h203 m203 q203 TE => ?_)
                          have f203 : Fr S m [1732, 1733] _ _ := Fr.mk ok184 m203 (fun ζ q => q.elim ((fun ζ e => Or.inl e) ζ) ((fun ζ e => Or.inr ⟨1732, by decide, e ▸ U_refl⟩) ζ)) q203 (by decide)
                          have ok203 := f203.ok
                          have FR203 := Fr.tr (F := [1732, 1733]) FR184 f203 (by decide) (by decide)
                          have NF := DfC.r (f := 1664) f203 hm (by decide) NF
                          rw [← addBs_app] at TE
                          refine w_aload_n d305_206 rfl ?_
                          refine w_aload_n d305_207 rfl ?_
                          refine w_dloadS d305_208 (ok203.kd hm) (fr1664 ok203 hm) ?_
                          refine w_dloadS d305_211 (ok203.kd (kT1664 ok203 hm)) (fr1426 ok203 (kT1664 ok203 hm)) ?_
                          refine w_bipush d305_214 (by decide) ?_
                          refine w_iload d305_216 rfl ?_
                          refine w_imul d305_218 (by constructor <;> omega) ?_
                          rw [show (12 : Int) * (((6 * t + k) : Nat) : Int) = ((12 * (6 * t + k) : Nat) : Int) by omega]
                          refine w_aload_n d305_219 rfl ?_
                          refine w_dloadS d305_220 (ok203.kd hm) (fr1664 ok203 hm) ?_
                          refine w_dloadS d305_223 (ok203.kd (kT1664 ok203 hm)) (fr1427 ok203 (kT1664 ok203 hm)) ?_
                          refine w_iload d305_226 rfl ?_
                          refine w_ialoadV (x := ((inN (tgI (tD P0.2.2 t)) k).length : Int)) d305_228 (gi1427 ok203 (kT1664 ok203 hm) (by omega)) (((NF.2.2.2.2 t ht).2.2.2.2.2.2.2.2.2.2.2.1 k hk).2.1) ?_
                          refine w_callv4 d305_229 (by omega) rfl (ok203.kd hm) (by simp) (Nat.le_of_ble_eq_true rfl) ?_
                          refine k_M_sayBytes ok203 (by omega) hm TE rfl (((NF.2.2.2.2 t ht).2.2.2.2.2.2.2.2.2.2.2.1 k hk).2.2.2) (nb_fd (f := 1426) (g := 1732) (fd := 1664) (m := m) ok (by decide) (by decide) (by decide)) (SgC.le (((NF.2.2.2.2 t ht).2.2.2.2.2.2.2.2.2.2.2.1 k hk).2.2.2) (fun i => (ra1426 ok203 hd0 i).2)) (fun h229 m229 q229 TE => ?_)
                          have f229 : Fr S m [1732, 1733] _ _ := Fr.mk ok203 m229 (fun ζ q => q.elim ((fun ζ e => Or.inl e) ζ) ((fun ζ e => Or.inr ⟨1732, by decide, e ▸ U_refl⟩) ζ)) q229 (by decide)
                          have ok229 := f229.ok
                          have FR229 := Fr.tr (F := [1732, 1733]) FR203 f229 (by decide) (by decide)
                          have NF := DfC.r (f := 1664) f229 hm (by decide) NF
                          rw [((hc t ht).2.2 k).map, ← addBs_app] at TE
                          have TE : TeR S h229 m (addBs 20000 lc (insK (tgI (tD P0.2.2 t)) (k + 1))) := by rw [ii, it]; simpa only [List.append_assoc] using TE
                          refine w_iinc3 d305_232 rfl (by constructor <;> omega) ?_
                          refine w_goto d305_235 ?_
                          rw [show ((k : Nat) : Int) + 1 = ((k + 1 : Nat) : Int) by omega]
                          refine w_less ?_ (IH156 _ (by omega) h229 (k + 1) rfl FR229 (by omega) TE)
                          exact ⟨Or.inr rfl, Or.inr rfl, Or.inl rfl, Or.inr rfl, Or.inl rfl, trivial⟩
                  refine w_less ?_ (L156 _ h151 0 rfl FR151 (Nat.zero_le _) TE)
                  exact ⟨Or.inr rfl, Or.inr rfl, Or.inl rfl, Or.inr rfl, Or.inl rfl, trivial⟩
                refine w_ifle d305_115 (fun c115 => ?_) (fun c115 => ?_)
                · have wn : tgW (tD P0.2.2 t) = [] := List.length_eq_zero_iff.mp (by omega)
                  refine w_less ?_ (L124 _ g [] rfl FRg (by rw [List.append_nil]; exact TE) (by rw [if_pos wn]))
                  exact ⟨Or.inr rfl, Or.inr rfl, Or.inl rfl, Or.inl rfl, Or.inl rfl, trivial⟩
                · have wn : tgW (tD P0.2.2 t) ≠ [] := fun z => by rw [z] at c115; exact absurd c115 (by decide)
                  refine w_aload_n d305_118 rfl ?_
                  refine w_bipush d305_119 (by decide) ?_
                  refine w_callv2 d305_121 (by omega) rfl (okg.kd hm) (by simp) (Nat.le_of_ble_eq_true rfl) ?_
                  refine k_M_put (c := 46) okg (by omega) hm TE (by omega) (fun h121 m121 q121 TE => ?_)
                  have f121 : Fr S m [1732, 1733] _ _ := Fr.mk okg m121 (fun ζ q => q.elim ((fun ζ e => Or.inl e) ζ) ((fun ζ e => Or.inr ⟨1732, by decide, e ▸ U_refl⟩) ζ)) q121 (by decide)
                  have ok121 := f121.ok
                  have FR121 := Fr.tr (F := [1732, 1733]) FRg f121 (by decide) (by decide)
                  have NF := DfC.r (f := 1664) f121 hm (by decide) NF
                  rw [← addBs_app] at TE
                  refine w_less ?_ (L124 _ h121 [46] rfl FR121 TE (by rw [if_neg wn]))
                  exact ⟨Or.inr rfl, Or.inr rfl, Or.inl rfl, Or.inl rfl, Or.inl rfl, trivial⟩
              · have hi : i < (knm r).length := by
                  rcases Nat.lt_or_ge i (knm r).length with z | z
                  · exact z
                  · have := (at_ i (by omega)).2 (by omega)
                    omega
                obtain ⟨y1, y2, y3⟩ := (at_ i (by omega)).1 hi
                refine w_aload_n d305_90 rfl ?_
                obtain ⟨g91, v91, s91⟩ := tg.al okg 42 (by decide)
                refine w_getstaticS d305_91 v91 ?_
                refine w_iload_n d305_93 rfl ?_
                refine w_callv2 d305_94 (by omega) rfl (s91 _ okg).1 (by simp) (Nat.le_of_ble_eq_true rfl) ?_
                refine r_charAtN (S := S) (i := nmP.getD r 0 + i) (by omega) (s91 _ okg) (by rw [txt42]; omega) ?_
                rw [y1]
                refine w_callv2 d305_97 (by omega) rfl (okg.kd hm) (by simp) (Nat.le_of_ble_eq_true rfl) ?_
                refine k_M_put (c := (knm r).getD i 0) okg (by omega) hm TE (by omega) (fun h97 m97 q97 TE => ?_)
                have f97 : Fr S m [1732, 1733] _ _ := Fr.mk okg m97 (fun ζ q => q.elim ((fun ζ e => Or.inl e) ζ) ((fun ζ e => Or.inr ⟨1732, by decide, e ▸ U_refl⟩) ζ)) q97 (by decide)
                have ok97 := f97.ok
                have FR97 := Fr.tr (F := [1732, 1733]) FRg f97 (by decide) (by decide)
                have NF := DfC.r (f := 1664) f97 hm (by decide) NF
                refine w_iinc3 d305_100 rfl (by constructor <;> omega) ?_
                refine w_goto d305_103 ?_
                rw [show ((nmP.getD r 0 + i : Nat) : Int) + 1 = ((nmP.getD r 0 + (i + 1) : Nat) : Int) by omega]
                rw [← addBs_app, ← take_succ hi] at TE
                refine w_less ?_ (IH79 _ (by omega) h97 (i + 1) rfl FR97 (by omega) TE)
                exact ⟨Or.inr rfl, Or.inr rfl, Or.inr rfl, Or.inr rfl, Or.inl rfl, trivial⟩
            refine w_less ?_ (L79 _ h40 0 rfl FR40 (Nat.zero_le _) (by rw [List.take_zero]; exact TE))
            exact ⟨Or.inr rfl, Or.inr rfl, Or.inr rfl, Or.inr rfl, Or.inl rfl, trivial⟩
          · obtain ⟨q1, q2, q3, q4⟩ := nmP_go ⟨j, by omega⟩
            change idxF (txt 42) 32 (txt 42).length (nmP.getD j 0) = ((nmP.getD (j + 1) 0 : Nat) : Int) - 1 at q1
            change nmP.getD (j + 1) 0 ≤ 47 at q2
            change nmP.getD j 0 + (knm j).length + 1 = nmP.getD (j + 1) 0 at q3
            obtain ⟨g60, v60, s60⟩ := tg.al ok40 42 (by decide)
            refine w_getstaticS d305_60 v60 ?_
            refine w_bipush d305_62 (by decide) ?_
            refine w_iload_n d305_64 rfl ?_
            refine w_callv3 d305_65 (by omega) rfl (s60 _ ok40).1 (by simp) (Nat.le_of_ble_eq_true rfl) ?_
            refine c_Str_indexOf (c := 32) (f := nmP.getD j 0) (by omega) (by omega) (s60 _ ok40) ?_
            rw [q1]
            refine w_iconst d305_68 (by decide) ?_
            refine w_iadd d305_69 (by constructor <;> omega) ?_
            refine w_istore2 d305_70 rfl ?_
            refine w_iinc3 d305_71 rfl (by constructor <;> omega) ?_
            refine w_goto d305_74 ?_
            rw [show ((j : Nat) : Int) + 1 = ((j + 1 : Nat) : Int) by omega]
            rw [show ((nmP.getD (j + 1) 0 : Nat) : Int) - 1 + 1 = ((nmP.getD (j + 1) 0 : Nat) : Int) by omega]
            refine w_less ?_ (IH47 _ (by omega) (j + 1) rfl (by omega))
            exact ⟨Or.inr rfl, Or.inr rfl, Or.inr rfl, Or.inr rfl, Or.inl rfl, trivial⟩
        refine w_less ?_ (L47 _ 0 rfl (Nat.zero_le _))
        exact ⟨Or.inr rfl, Or.inr rfl, Or.inr rfl, Or.inr rfl, Or.inl rfl, trivial⟩
      · have tt : (tH P0.2.2 t) = false := by
          cases hz : (tH P0.2.2 t) with
          | true => rw [hz] at c22; exact absurd c22 (by decide)
          | false => rfl
        refine w_goto d305_25 ?_
        refine w_iinc1 d305_311 rfl (by constructor <;> omega) ?_
        refine w_goto d305_314 ?_
        rw [show ((t : Nat) : Int) + 1 = ((t + 1 : Nat) : Int) by omega]
        refine w_less ?_ (IH2 _ (by omega) g2 (t + 1) rfl FRg2 (by omega) (by first | exact ft | (rw [tsTxt, if_neg (by rw [tt]; decide), List.append_nil]; exact TE)))
        exact ⟨Or.inr rfl, Or.inr rfl, Or.inl rfl, Or.inl rfl, Or.inl rfl, trivial⟩
  refine w_less ?_ (L2 _ h 0 rfl (Fr.refl ok) (Nat.zero_le _) TE)
  exact ⟨Or.inr rfl, Or.inr rfl, Or.inl rfl, Or.inl rfl, Or.inl rfl, trivial⟩
