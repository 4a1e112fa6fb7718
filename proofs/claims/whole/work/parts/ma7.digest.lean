/-! the reference: digests -/
theorem byJ_ok {x : Int64} {s q : Nat} (M : Int64) (hM : M.toUInt64.toNat = 2 ^ q - 1) (hq : q < 9) (hs : s < 64) : ((x.toUInt64 >>> ((i32 (s : Int)).toInt64.toUInt64 &&& Int64.toUInt64 63)).toInt64 &&& M).toInt32.toInt = (pcJ x s q : Int) := by
  have hb : 2 ^ q ≤ 256 := Nat.pow_le_pow_right (by decide) (show q ≤ 8 by omega)
  have hp : 0 < 2 ^ q := Nat.pow_pos (by decide)
  have e1 : ((x.toUInt64 >>> ((i32 (s : Int)).toInt64.toUInt64 &&& Int64.toUInt64 63)).toInt64 &&& M).toUInt64.toNat = pcJ x s q := by
    show ((x.toUInt64 >>> ((i32 (s : Int)).toInt64.toUInt64 &&& Int64.toUInt64 63)).toNat &&& M.toUInt64.toNat) = _
    rw [hM, Nat.and_two_pow_sub_one_eq_mod, UInt64.toNat_shiftRight, sh63 ⟨s, hs⟩, Nat.shiftRight_eq_div_pow]
    rfl
  have lt : pcJ x s q < 256 := Nat.lt_of_lt_of_le (pcJ_lt x s q) hb
  generalize ((x.toUInt64 >>> ((i32 (s : Int)).toInt64.toUInt64 &&& Int64.toUInt64 63)).toInt64 &&& M) = W at e1
  have hw : W.toInt32.toBitVec.toNat = W.toUInt64.toNat % 4294967296 := by
    show (W.toBitVec.signExtend 32).toNat = _
    rw [BitVec.signExtend_eq_setWidth_of_le _ (by decide), BitVec.toNat_setWidth]
    rfl
  show BitVec.toInt W.toInt32.toBitVec = _
  rw [BitVec.toInt_eq_toNat_of_lt (by rw [hw, e1]; omega), hw, e1, Nat.mod_eq_of_lt (by omega)]
theorem i32_tn (v : Int32) : (v.toInt % 4294967296).toNat = v.toBitVec.toNat := by
  have h : v.toBitVec.toNat < 2 ^ 32 := v.toBitVec.isLt
  show (BitVec.toInt v.toBitVec % 4294967296).toNat = _
  rw [BitVec.toInt_eq_toNat_cond]
  split <;> omega
theorem lo_nat (W : Int64) : W.toInt32.toBitVec.toNat = W.toUInt64.toNat % 4294967296 := by
  show (W.toBitVec.signExtend 32).toNat = _
  rw [BitVec.signExtend_eq_setWidth_of_le _ (by decide), BitVec.toNat_setWidth]
  rfl
theorem by_lo {x : Int64} {j : Nat} (hj : j < 4) : byI (loI x) (24 - 8 * j) = pcJ x (24 - 8 * j) 8 := by
  unfold byI loI pcJ
  rw [i32_tn, lo_nat]
  generalize x.toUInt64.toNat = n
  rcases j with _ | _ | _ | _ | j
  · show n % 4294967296 / 2 ^ 24 % 256 = n / 2 ^ 24 % 256; omega
  · show n % 4294967296 / 2 ^ 16 % 256 = n / 2 ^ 16 % 256; omega
  · show n % 4294967296 / 2 ^ 8 % 256 = n / 2 ^ 8 % 256; omega
  · show n % 4294967296 / 2 ^ 0 % 256 = n / 2 ^ 0 % 256; omega
  · omega
theorem by_hi {x : Int64} {j : Nat} (hj : j < 4) : byI (hiI x) (24 - 8 * j) = pcJ x (56 - 8 * j) 8 := by
  unfold byI hiI pcJ
  rw [i32_tn, lo_nat]
  have e : (x.toUInt64 >>> ((i32 32).toInt64.toUInt64 &&& Int64.toUInt64 63)).toInt64.toUInt64.toNat = x.toUInt64.toNat / 2 ^ 32 := by
    show (x.toUInt64 >>> ((i32 32).toInt64.toUInt64 &&& Int64.toUInt64 63)).toNat = _
    rw [UInt64.toNat_shiftRight, show ((i32 32).toInt64.toUInt64 &&& Int64.toUInt64 63).toNat % 64 = 32 from sh63 ⟨32, by decide⟩, Nat.shiftRight_eq_div_pow]
  rw [e]
  have hx : x.toUInt64.toNat < 2 ^ 64 := UInt64.toNat_lt _
  generalize x.toUInt64.toNat = n at hx
  rcases j with _ | _ | _ | _ | j
  · show n / 2 ^ 32 % 4294967296 / 2 ^ 24 % 256 = n / 2 ^ 56 % 256; omega
  · show n / 2 ^ 32 % 4294967296 / 2 ^ 16 % 256 = n / 2 ^ 48 % 256; omega
  · show n / 2 ^ 32 % 4294967296 / 2 ^ 8 % 256 = n / 2 ^ 40 % 256; omega
  · show n / 2 ^ 32 % 4294967296 / 2 ^ 0 % 256 = n / 2 ^ 32 % 256; omega
  · omega
/-- the bytes of a long, the highest first -/
def by8 (x : Int64) (j : Nat) : List Nat := (List.range j).map fun i => pcJ x (56 - 8 * i) 8
theorem by8_snoc (x : Int64) (j : Nat) : by8 x (j + 1) = by8 x j ++ [pcJ x (56 - 8 * j) 8] := by unfold by8; rw [List.range_succ, List.map_append]; rfl
theorem by8_eq (x : Int64) : by8 x 8 = by4 (hiI x) ++ by4 (loI x) := by
  have h := fun j hj => by_hi (x := x) (j := j) hj
  have l := fun j hj => by_lo (x := x) (j := j) hj
  have h0 := h 0 (by decide)
  have h1 := h 1 (by decide)
  have h2 := h 2 (by decide)
  have h3 := h 3 (by decide)
  have l0 := l 0 (by decide)
  have l1 := l 1 (by decide)
  have l2 := l 2 (by decide)
  have l3 := l 3 (by decide)
  simp only [by8, by4, List.range_succ, List.range_zero, List.nil_append, List.map_append, List.map_cons, List.map_nil, List.cons_append, List.append_nil] at *
  rw [h0, h1, h2, h3, l0, l1, l2, l3]
theorem kyB_8 (ps : List Int64) (i : Nat) : kyB ps (i + 1) = kyB ps i ++ by8 (ps.getD i 0) 8 := by rw [kyB, by8_eq]
theorem dig_app (l : List Nat) (c : Nat) : dig (l ++ [c]) = dstep (dig l) c := by unfold dig; rw [List.foldl_append]; rfl
/-- the digest so far is of these numbers -/
def DgC (h : Hp) (m : Nat) (l : List Nat) : Prop := FL h 1677 m = dig l
theorem DgC.f {F : List Nat} {h h' : Hp} {m : Nat} {l : List Nat} (k : FK F m h h') (hF : 1677 ∉ F := by decide) (D : DgC h m l) : DgC h' m l := (k.l _ hF).trans D
/-- where the rules' names stand -/
def nmP : List Nat := [0, 5, 10, 15, 21, 26, 32, 39, 47]
theorem nmP_go : ∀ k : Fin 8, idxF (txt 42) 32 (txt 42).length (nmP.getD k.val 0) = ((nmP.getD (k.val + 1) 0 : Nat) : Int) - 1 ∧ nmP.getD (k.val + 1) 0 ≤ 47 ∧ nmP.getD k.val 0 + (knm k.val).length + 1 = nmP.getD (k.val + 1) 0 ∧ (knm k.val).length ≤ 8 := by decide +kernel
theorem nmP_at : ∀ k : Fin 8, ∀ i : Fin 9, (i.val < (knm k.val).length → (txt 42).getD (nmP.getD k.val 0 + i.val) 0 = (knm k.val).getD i.val 0 ∧ (knm k.val).getD i.val 0 ≠ 32 ∧ (knm k.val).getD i.val 0 < 128) ∧ (i.val = (knm k.val).length → (txt 42).getD (nmP.getD k.val 0 + i.val) 0 = 32) := by decide +kernel
theorem txt42 : (txt 42).length = 47 := by decide +kernel
theorem rixK_nm {n : List Nat} : ∀ {k r : Nat}, rixK n k = (r : Int) → knm r = n ∧ r < k
  | 0, r, h => by rw [rixK] at h; omega
  | k + 1, r, h => by
    rw [rixK] at h
    split at h
    · rename_i q
      have : r = k := by omega
      rw [this]
      exact ⟨q, by omega⟩
    · have := rixK_nm h
      exact ⟨this.1, by omega⟩
theorem d257_0 : dc 257 0 = some (.aload_n 0, 1) := by decide +kernel
theorem d257_1 : dc 257 1 = some (.ldc2_w 4, 4) := by decide +kernel
theorem d257_4 : dc 257 4 = some (.fstore 1677, 7) := by decide +kernel
theorem d257_7 : dc 257 7 = some (.return_, 8) := by decide +kernel
theorem k_M_beginDigest {S : Shp} {G : Nat → Option Nat} {d : Nat} {h : Hp} {Q : Option MV → Hp → Prop} {m : Nat}  (ok : Ok S h) (h1 : 0 ≤ d) (hm : sK S m = 14) 
    (kk : ∀ h', Mo S (fun z => z = m) h h' → FK [1677] m h h' → DgC h' m [] → Q none h') : Cl G d 257 [vR (some m)] h Q := by
  show Wp G d 257 0 [some (vR (some m))] [] h Q
  refine w_aload_n d257_0 rfl ?_
  refine w_ldc2_w d257_1 ?_
  refine wf1677 d257_4 ok hm (fun h4 e4 m4 => ?_)
  have ok4 := m4.ok
  have M4 := Mo.tr ok (Mo.refl (A := (fun ζ => ζ = m)) ok) m4 (fun ζ e => e)
  have K4 := FK.tr (F := [1677]) FK.refl (FK.pL e4) (by decide)
  refine w_return d257_7 ?_
  exact kk h4 M4 K4 (by rw [e4]; show up2 (FL h) 1677 m _ 1677 m = _; unfold up2; rw [if_pos ⟨rfl, rfl⟩]; rfl)
theorem d259_0 : dc 259 0 = some (.aload_n 0, 1) := by decide +kernel
theorem d259_1 : dc 259 1 = some (.aload_n 0, 2) := by decide +kernel
theorem d259_2 : dc 259 2 = some (.fload 1677, 5) := by decide +kernel
theorem d259_5 : dc 259 5 = some (.iload_n 1, 6) := by decide +kernel
theorem d259_6 : dc 259 6 = some (.i2l, 7) := by decide +kernel
theorem d259_7 : dc 259 7 = some (.lxor, 8) := by decide +kernel
theorem d259_8 : dc 259 8 = some (.ldc2_w 5, 11) := by decide +kernel
theorem d259_11 : dc 259 11 = some (.lmul, 12) := by decide +kernel
theorem d259_12 : dc 259 12 = some (.fstore 1677, 15) := by decide +kernel
theorem d259_15 : dc 259 15 = some (.return_, 16) := by decide +kernel
theorem k_M_digestByte {S : Shp} {G : Nat → Option Nat} {d : Nat} {h : Hp} {Q : Option MV → Hp → Prop} {m : Nat} {c : Nat} {l : List Nat} (ok : Ok S h) (h1 : 0 ≤ d) (hm : sK S m = 14) (DG : DgC h m l)
    (kk : ∀ h', Mo S (fun z => z = m) h h' → FK [1677] m h h' → DgC h' m (l ++ [c]) → Q none h') : Cl G d 259 [vR (some m), vI (c : Nat)] h Q := by
  show Wp G d 259 0 [some (vR (some m)), some (vI (c : Nat))] [] h Q
  refine w_aload_n d259_0 rfl ?_
  refine w_aload_n d259_1 rfl ?_
  refine w_floadV (x := (dig l)) d259_2 (ok.kd hm) DG ?_
  refine w_iload_n d259_5 rfl ?_
  refine w_i2l d259_6 ?_
  refine w_lxor d259_7 ?_
  refine w_ldc2_w d259_8 ?_
  refine w_lmul d259_11 ?_
  refine wf1677 d259_12 ok hm (fun h12 e12 m12 => ?_)
  have ok12 := m12.ok
  have M12 := Mo.tr ok (Mo.refl (A := (fun ζ => ζ = m)) ok) m12 (fun ζ e => e)
  have K12 := FK.tr (F := [1677]) FK.refl (FK.pL e12) (by decide)
  refine w_return d259_15 ?_
  exact kk h12 M12 K12 (by rw [e12]; show up2 (FL h) 1677 m _ 1677 m = _; unfold up2; rw [if_pos ⟨rfl, rfl⟩, dig_app]; rfl)
theorem d260_0 : dc 260 0 = some (.iconst 0, 1) := by decide +kernel
theorem d260_1 : dc 260 1 = some (.istore 4, 3) := by decide +kernel
theorem d260_3 : dc 260 3 = some (.iload 4, 5) := by decide +kernel
theorem d260_5 : dc 260 5 = some (.iload_n 3, 6) := by decide +kernel
theorem d260_6 : dc 260 6 = some (.if_icmp .ge ((25 : Nat) : Int), 9) := by decide +kernel
theorem d260_9 : dc 260 9 = some (.aload_n 0, 10) := by decide +kernel
theorem d260_10 : dc 260 10 = some (.aload_n 1, 11) := by decide +kernel
theorem d260_11 : dc 260 11 = some (.iload_n 2, 12) := by decide +kernel
theorem d260_12 : dc 260 12 = some (.iload 4, 14) := by decide +kernel
theorem d260_14 : dc 260 14 = some (.iadd, 15) := by decide +kernel
theorem d260_15 : dc 260 15 = some (.iaload, 16) := by decide +kernel
theorem d260_16 : dc 260 16 = some (.invokevirtual 259, 19) := by decide +kernel
theorem d260_19 : dc 260 19 = some (.iinc 4 1, 22) := by decide +kernel
theorem d260_22 : dc 260 22 = some (.goto ((3 : Nat) : Int), 25) := by decide +kernel
theorem d260_25 : dc 260 25 = some (.return_, 26) := by decide +kernel
theorem k_M_digestRow {S : Shp} {G : Nat → Option Nat} {d : Nat} {h : Hp} {Q : Option MV → Hp → Prop} {m : Nat} {b : Nat} {f : Nat} {n : Nat} {k l : List Nat} (ok : Ok S h) (h1 : 1 ≤ d) (hm : sK S m = 14) (DG : DgC h m k) (hn : n = l.length) (sg : SgC S h b f l) (nb : b ≠ m)
    (kk : ∀ h', Mo S (fun z => z = m) h h' → FK [1677] m h h' → DgC h' m (k ++ l) → Q none h') : Cl G d 260 [vR (some m), vR (some b), vI (f : Nat), vI (n : Nat)] h Q := by
  show Wp G d 260 0 [some (vR (some m)), some (vR (some b)), some (vI (f : Nat)), some (vI (n : Nat)), none] [] h Q
  subst hn
  have fl : f + l.length ≤ 100000 := Nat.le_trans sg.2.1 sg.2.2.1
  refine w_iconst d260_0 (by decide) ?_
  refine w_istore4 d260_1 rfl ?_
  have L3 : ∀ (m3 : Nat) (g2 : Hp) (i : Nat), l.length - i = m3 → Mo S (fun ζ => ζ = m) h g2 → FK [1677] m h g2 → (DgC g2 m (k ++ l.take i)) → Wp G d 260 3 [some (vR (some m)), some (vR (some b)), some (vI (f : Nat)), some (vI (l.length : Nat)), some (vI (i : Nat))] [] g2 Q := by
    intro m3
    induction m3 using Nat.strongRecOn with | ind m3 IH3 => ?_
    intro g2 i hm3 Mg2 Kg2 DG
    have okg2 := Mg2.ok
    refine w_iload d260_3 rfl ?_
    refine w_iload_n d260_5 rfl ?_
    refine w_icmpge d260_6 (fun c6 => ?_) (fun c6 => ?_)
    · rw [List.take_of_length_le (by omega)] at DG
      refine w_return d260_25 ?_
      exact kk g2 Mg2 Kg2 DG
    · have hi : i < l.length := by omega
      have sg2 := sg.mo ok Mg2 nb
      refine w_aload_n d260_9 rfl ?_
      refine w_aload_n d260_10 rfl ?_
      refine w_iload_n d260_11 rfl ?_
      refine w_iload d260_12 rfl ?_
      refine w_iadd d260_14 (by constructor <;> omega) ?_
      refine w_ialoadV (x := ((l.getD i 0 : Nat) : Int)) d260_15 (sg2.g okg2 hi) (sg2.at hi) ?_
      refine w_callv2 d260_16 (by omega) rfl (okg2.kd hm) (by simp) (Nat.le_of_ble_eq_true rfl) ?_
      refine k_M_digestByte (c := l.getD i 0) okg2 (by omega) hm DG (fun h16 m16 q16 DG => ?_)
      have ok16 := m16.ok
      have M16 := Mo.tr ok Mg2 m16 (fun ζ e => e)
      have K16 := FK.tr (F := [1677]) Kg2 q16 (by decide)
      refine w_iinc4 d260_19 rfl (by constructor <;> omega) ?_
      refine w_goto d260_22 ?_
      rw [show ((i : Nat) : Int) + 1 = ((i + 1 : Nat) : Int) by omega]
      rw [List.append_assoc, ← take_succ hi] at DG
      refine w_less ?_ (IH3 _ (by omega) h16 (i + 1) rfl M16 K16 DG)
      exact ⟨Or.inr rfl, Or.inr rfl, Or.inr rfl, Or.inr rfl, Or.inr rfl, trivial⟩
  have M0_ := Mo.refl (A := (fun ζ => ζ = m)) ok
  have K0_ := FK.refl (F := [1677]) (m := m) (h := h)
  refine w_less ?_ (L3 _ h 0 rfl M0_ K0_ (by rw [List.take_zero, List.append_nil]; exact DG))
  exact ⟨Or.inr rfl, Or.inr rfl, Or.inr rfl, Or.inr rfl, Or.inr rfl, trivial⟩
theorem d258_0 : dc 258 0 = some (.iconst 0, 1) := by decide +kernel
theorem d258_1 : dc 258 1 = some (.istore_n 2, 2) := by decide +kernel
theorem d258_2 : dc 258 2 = some (.iconst 0, 3) := by decide +kernel
theorem d258_3 : dc 258 3 = some (.istore_n 3, 4) := by decide +kernel
theorem d258_4 : dc 258 4 = some (.iload_n 3, 5) := by decide +kernel
theorem d258_5 : dc 258 5 = some (.iload_n 1, 6) := by decide +kernel
theorem d258_6 : dc 258 6 = some (.if_icmp .ge ((26 : Nat) : Int), 9) := by decide +kernel
theorem d258_9 : dc 258 9 = some (.getstatic 92, 11) := by decide +kernel
theorem d258_11 : dc 258 11 = some (.bipush 32, 13) := by decide +kernel
theorem d258_13 : dc 258 13 = some (.iload_n 2, 14) := by decide +kernel
theorem d258_14 : dc 258 14 = some (.invokevirtual 199, 17) := by decide +kernel
theorem d258_17 : dc 258 17 = some (.iconst 1, 18) := by decide +kernel
theorem d258_18 : dc 258 18 = some (.iadd, 19) := by decide +kernel
theorem d258_19 : dc 258 19 = some (.istore_n 2, 20) := by decide +kernel
theorem d258_20 : dc 258 20 = some (.iinc 3 1, 23) := by decide +kernel
theorem d258_23 : dc 258 23 = some (.goto ((4 : Nat) : Int), 26) := by decide +kernel
theorem d258_26 : dc 258 26 = some (.iload_n 2, 27) := by decide +kernel
theorem d258_27 : dc 258 27 = some (.istore_n 3, 28) := by decide +kernel
theorem d258_28 : dc 258 28 = some (.getstatic 92, 30) := by decide +kernel
theorem d258_30 : dc 258 30 = some (.iload_n 3, 31) := by decide +kernel
theorem d258_31 : dc 258 31 = some (.invokevirtual 24, 34) := by decide +kernel
theorem d258_34 : dc 258 34 = some (.bipush 32, 36) := by decide +kernel
theorem d258_36 : dc 258 36 = some (.if_icmp .eq ((55 : Nat) : Int), 39) := by decide +kernel
theorem d258_39 : dc 258 39 = some (.aload_n 0, 40) := by decide +kernel
theorem d258_40 : dc 258 40 = some (.getstatic 92, 42) := by decide +kernel
theorem d258_42 : dc 258 42 = some (.iload_n 3, 43) := by decide +kernel
theorem d258_43 : dc 258 43 = some (.invokevirtual 24, 46) := by decide +kernel
theorem d258_46 : dc 258 46 = some (.invokevirtual 259, 49) := by decide +kernel
theorem d258_49 : dc 258 49 = some (.iinc 3 1, 52) := by decide +kernel
theorem d258_52 : dc 258 52 = some (.goto ((28 : Nat) : Int), 55) := by decide +kernel
theorem d258_55 : dc 258 55 = some (.return_, 56) := by decide +kernel
theorem k_M_digestRuleName {S : Shp} {G : Nat → Option Nat} {d : Nat} {h : Hp} {Q : Option MV → Hp → Prop} {m : Nat} {r : Nat} {k : List Nat} (ok : Ok S h) (h1 : 4 ≤ d) (hm : sK S m = 14) (tg : Tg S G) (DG : DgC h m k) (hr : r < 8)
    (kk : ∀ h', Mo S (fun z => z = m) h h' → FK [1677] m h h' → DgC h' m (k ++ knm r) → Q none h') : Cl G d 258 [vR (some m), vI (r : Nat)] h Q := by
  show Wp G d 258 0 [some (vR (some m)), some (vI (r : Nat)), none, none] [] h Q
  obtain ⟨p1, p2, p3, p4⟩ := nmP_go ⟨r, hr⟩
  have at_ := fun i hi => nmP_at ⟨r, hr⟩ ⟨i, hi⟩
  change nmP.getD (r + 1) 0 ≤ 47 at p2
  change nmP.getD r 0 + (knm r).length + 1 = nmP.getD (r + 1) 0 at p3
  change (knm r).length ≤ 8 at p4
  change ∀ i, i < 9 → (i < (knm r).length → (txt 42).getD (nmP.getD r 0 + i) 0 = (knm r).getD i 0 ∧ (knm r).getD i 0 ≠ 32 ∧ (knm r).getD i 0 < 128) ∧ (i = (knm r).length → (txt 42).getD (nmP.getD r 0 + i) 0 = 32) at at_
  refine w_iconst d258_0 (by decide) ?_
  refine w_istore2 d258_1 rfl ?_
  refine w_iconst d258_2 (by decide) ?_
  refine w_istore3 d258_3 rfl ?_
  have L4 : ∀ (m4 : Nat) (j : Nat), r - j = m4 → (j ≤ r) → Wp G d 258 4 [some (vR (some m)), some (vI (r : Nat)), some (vI (nmP.getD j 0 : Nat)), some (vI (j : Nat))] [] h Q := by
    intro m4
    induction m4 using Nat.strongRecOn with | ind m4 IH4 => ?_
    intro j hm4 jr
    refine w_iload_n d258_4 rfl ?_
    refine w_iload_n d258_5 rfl ?_
    refine w_icmpge d258_6 (fun c6 => ?_) (fun c6 => ?_)
    · have e : j = r := by omega
      rw [e]
      refine w_iload_n d258_26 rfl ?_
      refine w_istore3 d258_27 rfl ?_
      have L28 : ∀ (m28 : Nat) (g : Hp) (i : Nat), (knm r).length - i = m28 → Mo S (fun ζ => ζ = m) h g → FK [1677] m h g → (i ≤ (knm r).length) → (DgC g m (k ++ (knm r).take i)) → Wp G d 258 28 [some (vR (some m)), some (vI (r : Nat)), some (vI (nmP.getD r 0 : Nat)), some (vI (nmP.getD r 0 + i : Nat))] [] g Q := by
        intro m28
        induction m28 using Nat.strongRecOn with | ind m28 IH28 => ?_
        intro g i hm28 Mg Kg il DG
        have okg := Mg.ok
        obtain ⟨g28, v28, s28⟩ := tg.al okg 42 (by decide)
        refine w_getstaticS d258_28 v28 ?_
        refine w_iload_n d258_30 rfl ?_
        refine w_callv2 d258_31 (by omega) rfl (s28 _ okg).1 (by simp) (Nat.le_of_ble_eq_true rfl) ?_
        refine r_charAtN (S := S) (i := nmP.getD r 0 + i) (by omega) (s28 _ okg) (by rw [txt42]; omega) ?_
        refine w_bipush d258_34 (by decide) ?_
        refine w_icmpeq d258_36 (fun c36 => ?_) (fun c36 => ?_)
        · have e : i = (knm r).length := by
            rcases Nat.lt_or_ge i (knm r).length with z | z
            · have := (at_ i (by omega)).1 z
              omega
            · omega
          rw [List.take_of_length_le (by omega)] at DG
          refine w_return d258_55 ?_
          exact kk g Mg Kg DG
        · have hi : i < (knm r).length := by
            rcases Nat.lt_or_ge i (knm r).length with z | z
            · exact z
            · have := (at_ i (by omega)).2 (by omega)
              omega
          obtain ⟨y1, y2, y3⟩ := (at_ i (by omega)).1 hi
          refine w_aload_n d258_39 rfl ?_
          obtain ⟨g40, v40, s40⟩ := tg.al okg 42 (by decide)
          refine w_getstaticS d258_40 v40 ?_
          refine w_iload_n d258_42 rfl ?_
          refine w_callv2 d258_43 (by omega) rfl (s40 _ okg).1 (by simp) (Nat.le_of_ble_eq_true rfl) ?_
          refine r_charAtN (S := S) (i := nmP.getD r 0 + i) (by omega) (s40 _ okg) (by rw [txt42]; omega) ?_
          rw [y1]
          refine w_callv2 d258_46 (by omega) rfl (okg.kd hm) (by simp) (Nat.le_of_ble_eq_true rfl) ?_
          refine k_M_digestByte (c := (knm r).getD i 0) okg (by omega) hm DG (fun h46 m46 q46 DG => ?_)
          have ok46 := m46.ok
          have M46 := Mo.tr ok Mg m46 (fun ζ e => e)
          have K46 := FK.tr (F := [1677]) Kg q46 (by decide)
          refine w_iinc3 d258_49 rfl (by constructor <;> omega) ?_
          refine w_goto d258_52 ?_
          rw [show ((nmP.getD r 0 + i : Nat) : Int) + 1 = ((nmP.getD r 0 + (i + 1) : Nat) : Int) by omega]
          rw [List.append_assoc, ← take_succ hi] at DG
          refine w_less ?_ (IH28 _ (by omega) h46 (i + 1) rfl M46 K46 (by omega) DG)
          exact ⟨Or.inr rfl, Or.inr rfl, Or.inr rfl, Or.inr rfl, trivial⟩
      have M0_ := Mo.refl (A := (fun ζ => ζ = m)) ok
      have K0_ := FK.refl (F := [1677]) (m := m) (h := h)
      refine w_less ?_ (L28 _ h 0 rfl M0_ K0_ (Nat.zero_le _) (by rw [List.take_zero, List.append_nil]; exact DG))
      exact ⟨Or.inr rfl, Or.inr rfl, Or.inr rfl, Or.inr rfl, trivial⟩
    · obtain ⟨q1, q2, q3, q4⟩ := nmP_go ⟨j, by omega⟩
      change idxF (txt 42) 32 (txt 42).length (nmP.getD j 0) = ((nmP.getD (j + 1) 0 : Nat) : Int) - 1 at q1
      change nmP.getD (j + 1) 0 ≤ 47 at q2
      change nmP.getD j 0 + (knm j).length + 1 = nmP.getD (j + 1) 0 at q3
      obtain ⟨g9, v9, s9⟩ := tg.al ok 42 (by decide)
      refine w_getstaticS d258_9 v9 ?_
      refine w_bipush d258_11 (by decide) ?_
      refine w_iload_n d258_13 rfl ?_
      refine w_callv3 d258_14 (by omega) rfl (s9 _ ok).1 (by simp) (Nat.le_of_ble_eq_true rfl) ?_
      refine c_Str_indexOf (c := 32) (f := nmP.getD j 0) (by omega) (by omega) (s9 _ ok) ?_
      rw [q1]
      refine w_iconst d258_17 (by decide) ?_
      refine w_iadd d258_18 (by constructor <;> omega) ?_
      refine w_istore2 d258_19 rfl ?_
      refine w_iinc3 d258_20 rfl (by constructor <;> omega) ?_
      refine w_goto d258_23 ?_
      rw [show ((j : Nat) : Int) + 1 = ((j + 1 : Nat) : Int) by omega]
      rw [show ((nmP.getD (j + 1) 0 : Nat) : Int) - 1 + 1 = ((nmP.getD (j + 1) 0 : Nat) : Int) by omega]
      refine w_less ?_ (IH4 _ (by omega) (j + 1) rfl (by omega))
      exact ⟨Or.inr rfl, Or.inr rfl, Or.inr rfl, Or.inr rfl, trivial⟩
  refine w_less ?_ (L4 _ 0 rfl (Nat.zero_le _))
  exact ⟨Or.inr rfl, Or.inr rfl, Or.inr rfl, Or.inr rfl, trivial⟩
