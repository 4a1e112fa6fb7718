/-! the reference: sets as bits, what a target needs -/
theorem bv_n {n : Nat} : (i32 (n : Int)).toBitVec = BitVec.ofNat 32 n := by
  show BitVec.ofInt 32 (n : Int) = _
  rw [BitVec.ofInt_natCast]
theorem i32_n {n : Nat} (h : n < 2147483648) : (i32 (n : Int)).toInt = (n : Int) := by
  show BitVec.toInt _ = _
  rw [bv_n, BitVec.toInt_eq_toNat_of_lt (by rw [BitVec.toNat_ofNat]; omega), BitVec.toNat_ofNat, Nat.mod_eq_of_lt (by omega)]
theorem sh32 : ∀ u : Fin 32, (i32 (u.val : Int) &&& 31).toBitVec.smod 32#32 = BitVec.ofNat 32 u.val := by decide
theorem shr_n {n u : Nat} (h : n < 2147483648) (hu : u < 32) : (i32 (n : Int) >>> (i32 (u : Int) &&& 31)).toInt = ((n / 2 ^ u : Nat) : Int) := by
  show ((i32 (n : Int)).toBitVec.sshiftRight' ((i32 (u : Int) &&& 31).toBitVec.smod 32#32)).toInt = _
  rw [sh32 ⟨u, hu⟩]
  show ((i32 (n : Int)).toBitVec.sshiftRight (BitVec.ofNat 32 u).toNat).toInt = _
  rw [BitVec.toInt_sshiftRight, show (i32 (n : Int)).toBitVec.toInt = (n : Int) from i32_n h, BitVec.toNat_ofNat, Nat.mod_eq_of_lt (by omega), Int.shiftRight_eq_div_pow]
  norm_cast
theorem shl_1 : ∀ u : Fin 31, (i32 1 <<< (i32 (u.val : Int) &&& 31)).toInt = ((2 ^ u.val : Nat) : Int) := by decide
theorem or_n {a b : Nat} (ha : a < 2147483648) (hb : b < 2147483648) : (i32 (a : Int) ||| i32 (b : Int)).toInt = ((a ||| b : Nat) : Int) := by
  have lt : a ||| b < 2 ^ 31 := Nat.or_lt_two_pow ha hb
  show BitVec.toInt ((i32 (a : Int)).toBitVec ||| (i32 (b : Int)).toBitVec) = _
  rw [bv_n, bv_n]
  have e : (BitVec.ofNat 32 a ||| BitVec.ofNat 32 b).toNat = a ||| b := by
    rw [BitVec.toNat_or, BitVec.toNat_ofNat, BitVec.toNat_ofNat, Nat.mod_eq_of_lt (by omega), Nat.mod_eq_of_lt (by omega)]
  rw [BitVec.toInt_eq_toNat_of_lt (by rw [e]; omega), e]
theorem and_1 {a : Nat} (ha : a < 2147483648) : (i32 (a : Int) &&& i32 1).toInt = ((a % 2 : Nat) : Int) := by
  show BitVec.toInt ((i32 (a : Int)).toBitVec &&& 1#32) = _
  rw [bv_n]
  have e : (BitVec.ofNat 32 a &&& 1#32).toNat = a % 2 := by
    rw [BitVec.toNat_and, BitVec.toNat_ofNat, Nat.mod_eq_of_lt (by omega)]
    exact Nat.and_two_pow_sub_one_eq_mod a 1
  rw [BitVec.toInt_eq_toNat_of_lt (by rw [e]; omega), e]
/-- the bit u of n -/
def bt (n u : Nat) : Prop := n / 2 ^ u % 2 = 1
theorem bt_iff {n u : Nat} : bt n u ↔ n.testBit u = true := by
  unfold bt
  rw [Nat.testBit_eq_decide_div_mod_eq]
  simp
theorem bt_or {n u v : Nat} : bt (n ||| 2 ^ v) u ↔ bt n u ∨ u = v := by
  rw [bt_iff, bt_iff, Nat.testBit_or, Nat.testBit_two_pow]
  simp only [Bool.or_eq_true, decide_eq_true_eq]
  exact ⟨fun h => h.elim Or.inl (fun z => Or.inr z.symm), fun h => h.elim Or.inl (fun z => Or.inr z.symm)⟩
theorem bt_pow {u v : Nat} : bt (2 ^ v) u ↔ u = v := by
  have := bt_or (n := 0) (u := u) (v := v)
  rw [Nat.zero_or] at this
  rw [this]
  exact ⟨fun h => h.elim (fun z => by unfold bt at z; rw [Nat.zero_div] at z; omega) id, Or.inr⟩
theorem bt_0 {u : Nat} : ¬ bt 0 u := fun z => by unfold bt at z; rw [Nat.zero_div] at z; omega
theorem bt_lt {n u : Nat} (hn : n < 16384) (h : bt n u) : u < 14 := by
  rcases Nat.lt_or_ge u 14 with z | z
  · exact z
  · exfalso
    have : n < 2 ^ u := Nat.lt_of_lt_of_le hn (Nat.pow_le_pow_right (by decide) z : 2 ^ 14 ≤ 2 ^ u)
    unfold bt at h
    rw [Nat.div_eq_of_lt this] at h
    omega
theorem or_lt {n v : Nat} (hn : n < 16384) (hv : v < 14) : n ||| 2 ^ v < 16384 := Nat.or_lt_two_pow (n := 14) hn (Nat.pow_lt_pow_right (by decide) hv)
theorem pow14 {v : Nat} (hv : v < 14) : 2 ^ v < 16384 := Nat.pow_lt_pow_right (n := 14) (by decide) hv
theorem bt_v (n u : Nat) : (n / 2 ^ u % 2 : Nat) = 0 ∨ (n / 2 ^ u % 2 : Nat) = 1 := by omega
theorem div_lt {n u : Nat} (hn : n < 16384) : n / 2 ^ u < 2147483648 := Nat.lt_of_le_of_lt (Nat.div_le_self _ _) (by omega)
theorem bt_ext {n k : Nat} (hn : n < 16384) (hk : k < 16384) (h : ∀ u, bt n u ↔ bt k u) : n = k := Nat.eq_of_testBit_eq (fun u => by
  have := h u
  rw [bt_iff, bt_iff] at this
  rcases Bool.eq_false_or_eq_true (n.testBit u) with z | z <;> rcases Bool.eq_false_or_eq_true (k.testBit u) with y | y <;> rw [z, y] <;> rw [z, y] at this <;> simp at this)
theorem edge_H {ts : List (Bool × TgV)} {u v : Nat} (e : edge ts u v) : tH ts v = true := by
  obtain ⟨i, hi⟩ := e
  unfold inT at hi
  split at hi
  · have := tat_H (ts := ts) (n := inN (tgI (tD ts u)) i) (by omega)
    rw [hi] at this
    exact this
  · omega
theorem Rc_H {ts : List (Bool × TgV)} {t u : Nat} (h : tH ts t = true) (r : Rc ts t u) : tH ts u = true := r.ind h (fun _ _ _ _ e => edge_H e)
theorem Rc_lt {ts : List (Bool × TgV)} {t u : Nat} (h : t < ts.length) (r : Rc ts t u) : u < ts.length := r.ind (P := fun u => u < ts.length) h (fun _ _ _ _ e => (edge_lt e).2)
/-- the shifted set and its last bit -/
theorem d230_0 : dc 230 0 = some (.iconst 1, 1) := by decide +kernel
theorem d230_1 : dc 230 1 = some (.iload_n 1, 2) := by decide +kernel
theorem d230_2 : dc 230 2 = some (.ishl, 3) := by decide +kernel
theorem d230_3 : dc 230 3 = some (.istore_n 2, 4) := by decide +kernel
theorem d230_4 : dc 230 4 = some (.iconst 0, 5) := by decide +kernel
theorem d230_5 : dc 230 5 = some (.istore_n 3, 6) := by decide +kernel
theorem d230_6 : dc 230 6 = some (.iload_n 2, 7) := by decide +kernel
theorem d230_7 : dc 230 7 = some (.iload_n 3, 8) := by decide +kernel
theorem d230_8 : dc 230 8 = some (.if_icmp .eq ((91 : Nat) : Int), 11) := by decide +kernel
theorem d230_11 : dc 230 11 = some (.iload_n 2, 12) := by decide +kernel
theorem d230_12 : dc 230 12 = some (.istore_n 3, 13) := by decide +kernel
theorem d230_13 : dc 230 13 = some (.iconst 0, 14) := by decide +kernel
theorem d230_14 : dc 230 14 = some (.istore 4, 16) := by decide +kernel
theorem d230_16 : dc 230 16 = some (.iload 4, 18) := by decide +kernel
theorem d230_18 : dc 230 18 = some (.aload_n 0, 19) := by decide +kernel
theorem d230_19 : dc 230 19 = some (.getfield 1417, 22) := by decide +kernel
theorem d230_22 : dc 230 22 = some (.if_icmp .ge ((88 : Nat) : Int), 25) := by decide +kernel
theorem d230_25 : dc 230 25 = some (.iload_n 2, 26) := by decide +kernel
theorem d230_26 : dc 230 26 = some (.iload 4, 28) := by decide +kernel
theorem d230_28 : dc 230 28 = some (.ishr, 29) := by decide +kernel
theorem d230_29 : dc 230 29 = some (.iconst 1, 30) := by decide +kernel
theorem d230_30 : dc 230 30 = some (.iand, 31) := by decide +kernel
theorem d230_31 : dc 230 31 = some (.ifCond .ne ((37 : Nat) : Int), 34) := by decide +kernel
theorem d230_34 : dc 230 34 = some (.goto ((82 : Nat) : Int), 37) := by decide +kernel
theorem d230_37 : dc 230 37 = some (.iconst 0, 38) := by decide +kernel
theorem d230_38 : dc 230 38 = some (.istore 5, 40) := by decide +kernel
theorem d230_40 : dc 230 40 = some (.iload 5, 42) := by decide +kernel
theorem d230_42 : dc 230 42 = some (.aload_n 0, 43) := by decide +kernel
theorem d230_43 : dc 230 43 = some (.dload 1424, 46) := by decide +kernel
theorem d230_46 : dc 230 46 = some (.iload 4, 48) := by decide +kernel
theorem d230_48 : dc 230 48 = some (.iaload, 49) := by decide +kernel
theorem d230_49 : dc 230 49 = some (.if_icmp .ge ((82 : Nat) : Int), 52) := by decide +kernel
theorem d230_52 : dc 230 52 = some (.aload_n 0, 53) := by decide +kernel
theorem d230_53 : dc 230 53 = some (.iload 4, 55) := by decide +kernel
theorem d230_55 : dc 230 55 = some (.iload 5, 57) := by decide +kernel
theorem d230_57 : dc 230 57 = some (.invokevirtual 231, 60) := by decide +kernel
theorem d230_60 : dc 230 60 = some (.ifCond .lt ((76 : Nat) : Int), 63) := by decide +kernel
theorem d230_63 : dc 230 63 = some (.iload_n 2, 64) := by decide +kernel
theorem d230_64 : dc 230 64 = some (.iconst 1, 65) := by decide +kernel
theorem d230_65 : dc 230 65 = some (.aload_n 0, 66) := by decide +kernel
theorem d230_66 : dc 230 66 = some (.iload 4, 68) := by decide +kernel
theorem d230_68 : dc 230 68 = some (.iload 5, 70) := by decide +kernel
theorem d230_70 : dc 230 70 = some (.invokevirtual 231, 73) := by decide +kernel
theorem d230_73 : dc 230 73 = some (.ishl, 74) := by decide +kernel
theorem d230_74 : dc 230 74 = some (.ior, 75) := by decide +kernel
theorem d230_75 : dc 230 75 = some (.istore_n 2, 76) := by decide +kernel
theorem d230_76 : dc 230 76 = some (.iinc 5 1, 79) := by decide +kernel
theorem d230_79 : dc 230 79 = some (.goto ((40 : Nat) : Int), 82) := by decide +kernel
theorem d230_82 : dc 230 82 = some (.iinc 4 1, 85) := by decide +kernel
theorem d230_85 : dc 230 85 = some (.goto ((16 : Nat) : Int), 88) := by decide +kernel
theorem d230_88 : dc 230 88 = some (.goto ((6 : Nat) : Int), 91) := by decide +kernel
theorem d230_91 : dc 230 91 = some (.iload_n 2, 92) := by decide +kernel
theorem d230_92 : dc 230 92 = some (.ireturn, 93) := by decide +kernel
theorem k_D_needs {S : Shp} {G : Nat → Option Nat} {d : Nat} {h : Hp} {Q : Option MV → Hp → Prop} {d0 : Nat} {t : Nat} {ts : List (Bool × TgV)} (ok : Ok S h) (h1 : 3 ≤ d) (hd0 : sK S d0 = 12) (DT : DTs S h d0 ts) (ht : t < ts.length) (hH : tH ts t = true)
    (kk : ∀ n : Nat, n < 16384 → (∀ z, bt n z ↔ Rc ts t z) → Q (some (vI (n : Nat))) h) : Cl G d 230 [vR (some d0), vI (t : Nat)] h Q := by
  show Wp G d 230 0 [some (vR (some d0)), some (vI (t : Nat)), none, none, none, none] [] h Q
  obtain ⟨d1, d2, d3⟩ := id DT
  have t14 : t < 14 := by omega
  have p14 := pow14 t14
  refine w_iconst d230_0 (by decide) ?_
  refine w_iload_n d230_1 rfl ?_
  refine w_ishl d230_2 ?_
  rw [shl_1 ⟨t, by omega⟩]
  refine w_istore2 d230_3 rfl ?_
  refine w_iconst d230_4 (by decide) ?_
  refine w_istore3 d230_5 rfl ?_
  have L6 : ∀ (m6 : Nat) (n b : Nat), 2 * (16384 - n) + (if n = b then 0 else 1) = m6 → (n < 16384) → (bt n t) → (∀ z, bt n z → Rc ts t z) → (∀ u v, bt b u → edge ts u v → bt n v) → Wp G d 230 6 [some (vR (some d0)), some (vI (t : Nat)), some (vI (n : Nat)), some (vI (b : Nat)), none, none] [] h Q := by
    intro m6
    induction m6 using Nat.strongRecOn with | ind m6 IH6 => ?_
    intro n b hm6 nl tn rc cl
    refine w_iload_n d230_6 rfl ?_
    refine w_iload_n d230_7 rfl ?_
    refine w_icmpeq d230_8 (fun c8 => ?_) (fun c8 => ?_)
    · have nb : n = b := by omega
      refine w_iload_n d230_91 rfl ?_
      refine w_ireturn d230_92 ?_
      exact kk n nl (fun z => ⟨rc z, fun r => r.ind tn (fun u v _ hu e => cl u v (nb ▸ hu) e)⟩)
    · have nb : n ≠ b := by omega
      refine w_iload_n d230_11 rfl ?_
      refine w_istore3 d230_12 rfl ?_
      refine w_iconst d230_13 (by decide) ?_
      refine w_istore4 d230_14 rfl ?_
      have L16 : ∀ (m16 : Nat) (u k : Nat), ts.length - u = m16 → (k < 16384 ∧ n ≤ k) → (u ≤ ts.length) → (∀ z, bt n z → bt k z) → (∀ z, bt k z → Rc ts t z) → (∀ w v, w < u → bt n w → edge ts w v → bt k v) → Wp G d 230 16 [some (vR (some d0)), some (vI (t : Nat)), some (vI (k : Nat)), some (vI (n : Nat)), some (vI (u : Nat)), none] [] h Q := by
        intro m16
        induction m16 using Nat.strongRecOn with | ind m16 IH16 => ?_
        intro u k hm16 kl2 ul ks rc2 c2
        have kl := kl2.1
        refine w_iload d230_16 rfl ?_
        refine w_aload_n d230_18 rfl ?_
        refine w_getI (x := ((ts.length : Nat) : Int)) d230_19 (ok.kd hd0) d1 ?_
        refine w_icmpge d230_22 (fun c22 => ?_) (fun c22 => ?_)
        · refine w_goto d230_88 ?_
          refine w_less ?_ (IH6 _ (by rw [if_neg nb] at hm6; split <;> omega) k n rfl kl (ks t tn) rc2 (fun u v hu e => c2 u v (by have := bt_lt nl hu; rcases Nat.lt_or_ge u ts.length with z | z; omega; exact absurd (edge_lt e).1 (by omega)) hu e))
          exact ⟨Or.inr rfl, Or.inr rfl, Or.inr rfl, Or.inr rfl, Or.inl rfl, Or.inl rfl, trivial⟩
        · have hu : u < ts.length := by omega
          obtain ⟨a1, a2, a3, a4, a5, a6, a7, a8, a9, a10, a11, a12, a13, a14, a15, a16, a17⟩ := d3 u hu
          refine w_iload_n d230_25 rfl ?_
          refine w_iload d230_26 rfl ?_
          refine w_ishr d230_28 ?_
          rw [shr_n (n := k) (u := u) (by omega) (by omega)]
          refine w_iconst d230_29 (by decide) ?_
          refine w_iand d230_30 ?_
          rw [and_1 (a := k / 2 ^ u) (div_lt (by omega))]
          refine w_ifne d230_31 (fun c31 => ?_) (fun c31 => ?_)
          · have ub : bt k u := by unfold bt; have := bt_v k u; omega
            have uH := Rc_H hH (rc2 u ub)
            refine w_iconst d230_37 (by decide) ?_
            refine w_istore5 d230_38 rfl ?_
            have L40 : ∀ (m40 : Nat) (i l : Nat), (tgI (tD ts u)).length - i = m40 → (l < 16384 ∧ k ≤ l) → (∀ z, bt k z → bt l z) → (∀ z, bt l z → Rc ts t z) → (∀ j v, j < i → inT ts u j = ((v : Nat) : Int) → bt l v) → Wp G d 230 40 [some (vR (some d0)), some (vI (t : Nat)), some (vI (l : Nat)), some (vI (n : Nat)), some (vI (u : Nat)), some (vI (i : Nat))] [] h Q := by
              intro m40
              induction m40 using Nat.strongRecOn with | ind m40 IH40 => ?_
              intro i l hm40 ll ls rc3 c3
              refine w_iload d230_40 rfl ?_
              refine w_aload_n d230_42 rfl ?_
              refine w_dloadS d230_43 (ok.kd hd0) (fr1424 ok hd0) ?_
              refine w_iload d230_46 rfl ?_
              refine w_ialoadV (x := ((tgI (tD ts u)).length : Int)) d230_48 (gi1424 ok hd0 (by omega)) a10 ?_
              refine w_icmpge d230_49 (fun c49 => ?_) (fun c49 => ?_)
              · have iend : (tgI (tD ts u)).length ≤ i := by omega
                refine w_iinc4 d230_82 rfl (by constructor <;> omega) ?_
                refine w_goto d230_85 ?_
                rw [show ((u : Nat) : Int) + 1 = ((u + 1 : Nat) : Int) by omega]
                refine w_less ?_ (IH16 _ (by omega) (u + 1) l rfl ⟨ll.1, by omega⟩ (by omega) (fun z hz => ls z (ks z hz)) rc3 (fun w v hw hb e => by rcases Nat.lt_or_ge w u with z | z; exact ls v (c2 w v z hb e); rw [show w = u by omega] at e; obtain ⟨j, hj⟩ := e; rcases Nat.lt_or_ge j i with y | y; exact c3 j v y hj; rw [inT_end (by omega)] at hj; omega))
                exact ⟨Or.inr rfl, Or.inr rfl, Or.inr rfl, Or.inr rfl, Or.inr rfl, Or.inl rfl, trivial⟩
              · have hi : i < (tgI (tD ts u)).length := by omega
                have te := taT_in uH hu hi
                have tr := inT_rg ts u i
                refine w_aload_n d230_52 rfl ?_
                refine w_iload d230_53 rfl ?_
                refine w_iload d230_55 rfl ?_
                refine w_callv3 d230_57 (by omega) rfl (ok.kd hd0) (by simp) (Nat.le_of_ble_eq_true rfl) ?_
                refine k_D_targetAt ok (by omega) hd0 DT hu hi ?_
                refine w_iflt d230_60 (fun c60 => ?_) (fun c60 => ?_)
                · refine w_iinc5 d230_76 rfl (by constructor <;> omega) ?_
                  refine w_goto d230_79 ?_
                  rw [show ((i : Nat) : Int) + 1 = ((i + 1 : Nat) : Int) by omega]
                  refine w_less ?_ (IH40 _ (by omega) (i + 1) l rfl ll ls rc3 (fun j v hj e => by rcases Nat.lt_or_ge j i with y | y; exact c3 j v y e; rw [show j = i by omega] at e; omega))
                  exact ⟨Or.inr rfl, Or.inr rfl, Or.inr rfl, Or.inr rfl, Or.inr rfl, Or.inr rfl, trivial⟩
                · obtain ⟨v, hv⟩ : ∃ v : Nat, inT ts u i = (v : Int) := ⟨(inT ts u i).toNat, by omega⟩
                  have v14 : v < 14 := by omega
                  have pv := pow14 v14
                  refine w_iload_n d230_63 rfl ?_
                  refine w_iconst d230_64 (by decide) ?_
                  refine w_aload_n d230_65 rfl ?_
                  refine w_iload d230_66 rfl ?_
                  refine w_iload d230_68 rfl ?_
                  refine w_callv3 d230_70 (by omega) rfl (ok.kd hd0) (by simp) (Nat.le_of_ble_eq_true rfl) ?_
                  refine k_D_targetAt ok (by omega) hd0 DT hu hi ?_
                  rw [te, hv]
                  refine w_ishl d230_73 ?_
                  rw [shl_1 ⟨v, by omega⟩]
                  refine w_ior d230_74 ?_
                  rw [or_n (a := l) (b := 2 ^ v) (by omega) (by omega)]
                  refine w_istore2 d230_75 rfl ?_
                  refine w_iinc5 d230_76 rfl (by constructor <;> omega) ?_
                  refine w_goto d230_79 ?_
                  rw [show ((i : Nat) : Int) + 1 = ((i + 1 : Nat) : Int) by omega]
                  refine w_less ?_ (IH40 _ (by omega) (i + 1) ((l ||| 2 ^ v)) rfl ⟨or_lt ll.1 v14, Nat.le_trans ll.2 Nat.left_le_or⟩ (fun z hz => bt_or.mpr (Or.inl (ls z hz))) (fun z hz => by rcases bt_or.mp hz with y | y; exact rc3 z y; rw [y]; exact (rc2 u ub).step ⟨i, hv⟩) (fun j w hj e => by rcases Nat.lt_or_ge j i with y | y; exact bt_or.mpr (Or.inl (c3 j w y e)); rw [show j = i by omega] at e; exact bt_or.mpr (Or.inr (by omega))))
                  exact ⟨Or.inr rfl, Or.inr rfl, Or.inr rfl, Or.inr rfl, Or.inr rfl, Or.inr rfl, trivial⟩
            refine w_less ?_ (L40 _ 0 k rfl ⟨kl, Nat.le_refl _⟩ (fun z hz => hz) rc2 (fun j v hj => absurd hj (Nat.not_lt_zero _)))
            exact ⟨Or.inr rfl, Or.inr rfl, Or.inr rfl, Or.inr rfl, Or.inr rfl, Or.inr rfl, trivial⟩
          · have ub : ¬ bt k u := by unfold bt; omega
            refine w_goto d230_34 ?_
            refine w_iinc4 d230_82 rfl (by constructor <;> omega) ?_
            refine w_goto d230_85 ?_
            rw [show ((u : Nat) : Int) + 1 = ((u + 1 : Nat) : Int) by omega]
            refine w_less ?_ (IH16 _ (by omega) (u + 1) k rfl kl2 (by omega) ks rc2 (fun w v hw hb e => by rcases Nat.lt_or_ge w u with z | z; exact c2 w v z hb e; rw [show w = u by omega] at hb; exact absurd (ks u hb) ub))
            exact ⟨Or.inr rfl, Or.inr rfl, Or.inr rfl, Or.inr rfl, Or.inr rfl, Or.inl rfl, trivial⟩
      refine w_less ?_ (L16 _ 0 n rfl ⟨nl, Nat.le_refl _⟩ (Nat.zero_le _) (fun z hz => hz) rc (fun w v hw => absurd hw (Nat.not_lt_zero _)))
      exact ⟨Or.inr rfl, Or.inr rfl, Or.inr rfl, Or.inr rfl, Or.inr rfl, Or.inl rfl, trivial⟩
  refine w_less ?_ (L6 _ (2 ^ t) 0 rfl p14 (bt_pow.mpr rfl) (fun z hz => by rw [bt_pow.mp hz]; exact Rc.refl ts t) (fun u v hu => absurd hu bt_0))
  exact ⟨Or.inr rfl, Or.inr rfl, Or.inr rfl, Or.inr rfl, Or.inl rfl, Or.inl rfl, trivial⟩
