/-! texts -/
/-- g is a String with these bytes -/
def St (h : Hp) (g : Nat) (bs : List Nat) : Prop := KD h g = 30 ∧ FI h 2049 g = 0 ∧ ∃ v, FR h 2048 g = some v ∧ KD h v = 81 ∧ LN h v = bs.length ∧ (∀ j, j < bs.length → AI h v j = (bs.getD j 0 : Nat)) ∧ (∀ j, j < bs.length → bs.getD j 0 < 128) ∧ bs.length ≤ 300
theorem St.rst {h h' : Hp} {g : Nat} {bs : List Nat} (hR : RowsOk h) (hr : Rst h h') (x : St h g bs) : St h' g bs := by
  obtain ⟨x1, x2, v, x3, x4, x5, x6, x7, x8⟩ := x
  obtain ⟨a1, a2, a3, a4, a5, a6, a7, a8, a9, a10⟩ := hr
  have k1 := a3 g (by omega)
  have k2 := a3 v (by omega)
  refine ⟨by omega, by rw [a8 2049 (by decide)]; exact x2, v, by rw [a9 2048 (by decide)]; exact x3, by omega, by omega, fun j hj => ?_, x7, x8⟩
  rw [a10 v (by omega) (fun a ha q => by have := (hR.1 a ha).2.1; rw [q, x4] at this; cases this)]
  exact x6 j hj
theorem shr0 {x : Int} (h : InR x) : (i32 x >>> (i32 0 &&& 31)).toInt = x := by
  have : (i32 0 &&& 31) = 0 := by decide
  rw [this, show i32 x >>> (0 : Int32) = i32 x from by simp, i32_ok h]
theorem i2c_id {x : Int} (h : 0 ≤ x ∧ x < 65536) : ((i32 x).toUInt32 % 65536).toInt32.toInt = x := by
  have hn : (i32 x).toBitVec.toNat = x.toNat := by
    show (BitVec.ofInt 32 x).toNat = _
    rw [BitVec.toNat_ofInt]
    omega
  have e : ((i32 x).toUInt32 % 65536).toInt32 = i32 x := by
    apply Int32.toBitVec_inj.mp
    apply BitVec.eq_of_toNat_eq
    show ((i32 x).toBitVec % 65536#32).toNat = (i32 x).toBitVec.toNat
    rw [BitVec.toNat_umod, hn]
    show x.toNat % 65536 = x.toNat
    omega
  rw [e, i32_ok (by constructor <;> omega)]
theorem u8_id {x : Int} (h : 0 ≤ x ∧ x < 128) : (i32 x &&& i32 255).toInt = x := by
  rw [u8_and (by omega)]
  unfold u8
  omega
theorem d22_0 : dc 22 0 = some (.iconst 1, 3) := by decide +kernel
theorem d22_3 : dc 22 3 = some (.ifCond .eq ((13 : Nat) : Int), 6) := by decide +kernel
theorem d22_6 : dc 22 6 = some (.aload_n 0, 7) := by decide +kernel
theorem d22_7 : dc 22 7 = some (.getfield 2049, 10) := by decide +kernel
theorem d22_10 : dc 22 10 = some (.goto ((14 : Nat) : Int), 13) := by decide +kernel
theorem d22_14 : dc 22 14 = some (.ret 0, 15) := by decide +kernel
theorem c_Str_coder {G : Nat → Option Nat} {d : Nat} {h : Hp} {Q : Option MV → Hp → Prop} {g : Nat} {bs : List Nat} (hS : St h g bs) (kk : Q (some (vI 0)) h) : Cl G d 22 [vR (some g)] h Q := by
  show Wp G d 22 0 [some (vR (some g))] [] h Q
  refine w_iconst d22_0 (by decide) ?_
  refine w_ifeq d22_3 (fun c3 => ?_) (fun c3 => ?_)
  · exact absurd c3 (by decide)
  · refine w_aload_n d22_6 rfl ?_
    refine w_getI d22_7 hS.1 hS.2.1 ?_
    refine w_goto d22_10 ?_
    refine w_breturn d22_14 (by decide) ?_
    exact kk
theorem d25_0 : dc 25 0 = some (.iconst 1, 3) := by decide +kernel
theorem d25_3 : dc 25 3 = some (.ifCond .eq ((17 : Nat) : Int), 6) := by decide +kernel
theorem d25_6 : dc 25 6 = some (.aload_n 0, 7) := by decide +kernel
theorem d25_7 : dc 25 7 = some (.getfield 2049, 10) := by decide +kernel
theorem d25_10 : dc 25 10 = some (.ifCond .ne ((17 : Nat) : Int), 13) := by decide +kernel
theorem d25_13 : dc 25 13 = some (.iconst 1, 14) := by decide +kernel
theorem d25_14 : dc 25 14 = some (.goto ((18 : Nat) : Int), 17) := by decide +kernel
theorem d25_18 : dc 25 18 = some (.freturn, 19) := by decide +kernel
theorem c_Str_isLatin1 {G : Nat → Option Nat} {d : Nat} {h : Hp} {Q : Option MV → Hp → Prop} {g : Nat} {bs : List Nat} (hS : St h g bs) (kk : Q (some (vI 1)) h) : Cl G d 25 [vR (some g)] h Q := by
  show Wp G d 25 0 [some (vR (some g))] [] h Q
  refine w_iconst d25_0 (by decide) ?_
  refine w_ifeq d25_3 (fun c3 => ?_) (fun c3 => ?_)
  · exact absurd c3 (by decide)
  · refine w_aload_n d25_6 rfl ?_
    refine w_getI d25_7 hS.1 hS.2.1 ?_
    refine w_ifne d25_10 (fun c10 => ?_) (fun c10 => ?_)
    · exact absurd rfl c10
    · refine w_iconst d25_13 (by decide) ?_
      refine w_goto d25_14 ?_
      refine w_zreturn d25_18 (by decide) ?_
      exact kk
theorem d21_0 : dc 21 0 = some (.aload_n 0, 1) := by decide +kernel
theorem d21_1 : dc 21 1 = some (.dload 2048, 4) := by decide +kernel
theorem d21_4 : dc 21 4 = some (.arraylength, 5) := by decide +kernel
theorem d21_5 : dc 21 5 = some (.aload_n 0, 6) := by decide +kernel
theorem d21_6 : dc 21 6 = some (.invokevirtual 22, 9) := by decide +kernel
theorem d21_9 : dc 21 9 = some (.ishr, 10) := by decide +kernel
theorem d21_10 : dc 21 10 = some (.ireturn, 11) := by decide +kernel
theorem c_Str_length {G : Nat → Option Nat} {d : Nat} {h : Hp} {Q : Option MV → Hp → Prop} {g : Nat} {bs : List Nat} (h1 : 1 ≤ d) (hS : St h g bs) (kk : Q (some (vI (bs.length : Int))) h) : Cl G d 21 [vR (some g)] h Q := by
  show Wp G d 21 0 [some (vR (some g))] [] h Q
  obtain ⟨v, x3, x4, x5, x6, x7, x8⟩ := hS.2.2
  refine w_aload_n d21_0 rfl ?_
  refine w_dloadS d21_1 hS.1 x3 ?_
  refine w_arraylength d21_4 (by rw [x4]; rfl) ?_
  refine w_aload_n d21_5 rfl ?_
  refine w_callv1 d21_6 (by omega) rfl hS.1 (by simp) (Nat.le_of_ble_eq_true rfl) ?_
  refine c_Str_coder hS ?_
  refine w_ishr d21_9 ?_
  refine w_ireturn d21_10 ?_
  exact qI (by rw [shr0 (by constructor <;> omega), x5]) kk
theorem d82_0 : dc 82 0 = some (.aload_n 0, 1) := by decide +kernel
theorem d82_1 : dc 82 1 = some (.dload 2048, 4) := by decide +kernel
theorem d82_4 : dc 82 4 = some (.arraylength, 5) := by decide +kernel
theorem d82_5 : dc 82 5 = some (.ifCond .ne ((12 : Nat) : Int), 8) := by decide +kernel
theorem d82_8 : dc 82 8 = some (.iconst 1, 9) := by decide +kernel
theorem d82_9 : dc 82 9 = some (.goto ((13 : Nat) : Int), 12) := by decide +kernel
theorem d82_12 : dc 82 12 = some (.iconst 0, 13) := by decide +kernel
theorem d82_13 : dc 82 13 = some (.freturn, 14) := by decide +kernel
theorem c_Str_isEmpty {G : Nat → Option Nat} {d : Nat} {h : Hp} {Q : Option MV → Hp → Prop} {g : Nat} {bs : List Nat} (hS : St h g bs) (kk : Q (some (vI (if bs.length = 0 then 1 else 0))) h) : Cl G d 82 [vR (some g)] h Q := by
  show Wp G d 82 0 [some (vR (some g))] [] h Q
  obtain ⟨v, x3, x4, x5, x6, x7, x8⟩ := hS.2.2
  refine w_aload_n d82_0 rfl ?_
  refine w_dloadS d82_1 hS.1 x3 ?_
  refine w_arraylength d82_4 (by rw [x4]; rfl) ?_
  refine w_ifne d82_5 (fun c5 => ?_) (fun c5 => ?_)
  · refine w_iconst d82_12 (by decide) ?_
    refine w_zreturn d82_13 (by decide) ?_
    exact qI (by rw [if_neg (by omega)]) kk
  · refine w_iconst d82_8 (by decide) ?_
    refine w_goto d82_9 ?_
    refine w_zreturn d82_13 (by decide) ?_
    exact qI (by rw [if_pos (by omega)]) kk
theorem d28_0 : dc 28 0 = some (.iload_n 0, 1) := by decide +kernel
theorem d28_1 : dc 28 1 = some (.ifCond .lt ((9 : Nat) : Int), 4) := by decide +kernel
theorem d28_4 : dc 28 4 = some (.iload_n 0, 5) := by decide +kernel
theorem d28_5 : dc 28 5 = some (.iload_n 1, 6) := by decide +kernel
theorem d28_6 : dc 28 6 = some (.if_icmp .lt ((16 : Nat) : Int), 9) := by decide +kernel
theorem d28_16 : dc 28 16 = some (.iload_n 0, 17) := by decide +kernel
theorem d28_17 : dc 28 17 = some (.ireturn, 18) := by decide +kernel
theorem c_Pre_check {G : Nat → Option Nat} {d : Nat} {h : Hp} {Q : Option MV → Hp → Prop} {i n : Int} {o : Option Nat} (hi : 0 ≤ i ∧ i < n) (kk : Q (some (vI i)) h) : Cl G d 28 [vI i, vI n, vR o] h Q := by
  show Wp G d 28 0 [some (vI i), some (vI n), some (vR o)] [] h Q
  refine w_iload_n d28_0 rfl ?_
  refine w_iflt d28_1 (fun c1 => ?_) (fun c1 => ?_)
  · omega
  · refine w_iload_n d28_4 rfl ?_
    refine w_iload_n d28_5 rfl ?_
    refine w_icmplt d28_6 (fun c6 => ?_) (fun c6 => ?_)
    · refine w_iload_n d28_16 rfl ?_
      refine w_ireturn d28_17 ?_
      exact kk
    · omega
theorem d27_0 : dc 27 0 = some (.iload_n 0, 1) := by decide +kernel
theorem d27_1 : dc 27 1 = some (.iload_n 1, 2) := by decide +kernel
theorem d27_2 : dc 27 2 = some (.getstatic 42, 5) := by decide +kernel
theorem d27_5 : dc 27 5 = some (.invokevirtual 28, 8) := by decide +kernel
theorem d27_8 : dc 27 8 = some (.pop, 9) := by decide +kernel
theorem d27_9 : dc 27 9 = some (.return_, 10) := by decide +kernel
theorem c_Str_check {G : Nat → Option Nat} {d : Nat} {h : Hp} {Q : Option MV → Hp → Prop} {i n : Int} (h1 : 1 ≤ d) (hi : 0 ≤ i ∧ i < n) (kk : Q none h) : Cl G d 27 [vI i, vI n] h Q := by
  show Wp G d 27 0 [some (vI i), some (vI n)] [] h Q
  refine w_iload_n d27_0 rfl ?_
  refine w_iload_n d27_1 rfl ?_
  refine w_getstatic d27_2 ?_
  refine w_calls3 d27_5 (by omega) rfl rfl (by simp) (Nat.le_of_ble_eq_true rfl) ?_
  refine c_Pre_check hi ?_
  refine w_popI d27_8 ?_
  refine w_return d27_9 ?_
  exact kk
theorem d26_0 : dc 26 0 = some (.iload_n 1, 1) := by decide +kernel
theorem d26_1 : dc 26 1 = some (.aload_n 0, 2) := by decide +kernel
theorem d26_2 : dc 26 2 = some (.arraylength, 3) := by decide +kernel
theorem d26_3 : dc 26 3 = some (.invokevirtual 27, 6) := by decide +kernel
theorem d26_6 : dc 26 6 = some (.aload_n 0, 7) := by decide +kernel
theorem d26_7 : dc 26 7 = some (.iload_n 1, 8) := by decide +kernel
theorem d26_8 : dc 26 8 = some (.baload, 9) := by decide +kernel
theorem d26_9 : dc 26 9 = some (.sipush 255, 12) := by decide +kernel
theorem d26_12 : dc 26 12 = some (.iand, 13) := by decide +kernel
theorem d26_13 : dc 26 13 = some (.i2c, 14) := by decide +kernel
theorem d26_14 : dc 26 14 = some (.ret 1, 15) := by decide +kernel
theorem c_Lat_charAt {G : Nat → Option Nat} {d : Nat} {h : Hp} {Q : Option MV → Hp → Prop} {v : Nat} {i : Int} (h1 : 2 ≤ d) (hv : KD h v = 81) (hi : bnd i (LN h v)) (hb : 0 ≤ AI h v i.toNat ∧ AI h v i.toNat < 128) (kk : Q (some (vI (AI h v i.toNat))) h) : Cl G d 26 [vR (some v), vI i] h Q := by
  show Wp G d 26 0 [some (vR (some v)), some (vI i)] [] h Q
  refine w_iload_n d26_0 rfl ?_
  refine w_aload_n d26_1 rfl ?_
  refine w_arraylength d26_2 (by rw [hv]; rfl) ?_
  refine w_calls2 d26_3 (by omega) rfl rfl (by simp) (Nat.le_of_ble_eq_true rfl) ?_
  refine c_Str_check (by omega) hi ?_
  refine w_aload_n d26_6 rfl ?_
  refine w_iload_n d26_7 rfl ?_
  refine w_baload d26_8 ⟨by rw [hv]; rfl, hi⟩ ?_
  refine w_sipush d26_9 (by decide) ?_
  refine w_iand d26_12 ?_
  refine w_i2c d26_13 ?_
  refine w_creturn d26_14 (by rw [i2c_id (by rw [u8_id hb]; omega), u8_id hb]; omega) ?_
  exact qI (by rw [i2c_id (by rw [u8_id hb]; omega), u8_id hb]) kk
theorem d24_0 : dc 24 0 = some (.aload_n 0, 1) := by decide +kernel
theorem d24_1 : dc 24 1 = some (.invokevirtual 25, 4) := by decide +kernel
theorem d24_4 : dc 24 4 = some (.ifCond .eq ((16 : Nat) : Int), 7) := by decide +kernel
theorem d24_7 : dc 24 7 = some (.aload_n 0, 8) := by decide +kernel
theorem d24_8 : dc 24 8 = some (.dload 2048, 11) := by decide +kernel
theorem d24_11 : dc 24 11 = some (.iload_n 1, 12) := by decide +kernel
theorem d24_12 : dc 24 12 = some (.invokevirtual 26, 15) := by decide +kernel
theorem d24_15 : dc 24 15 = some (.ret 1, 16) := by decide +kernel
theorem c_Str_charAt {G : Nat → Option Nat} {d : Nat} {h : Hp} {Q : Option MV → Hp → Prop} {g : Nat} {bs : List Nat} {i : Int} (h1 : 3 ≤ d) (hS : St h g bs) (hi : 0 ≤ i ∧ i < (bs.length : Int)) (kk : Q (some (vI ((bs.getD i.toNat 0 : Nat) : Int))) h) : Cl G d 24 [vR (some g), vI i] h Q := by
  show Wp G d 24 0 [some (vR (some g)), some (vI i)] [] h Q
  obtain ⟨v, x3, x4, x5, x6, x7, x8⟩ := hS.2.2
  refine w_aload_n d24_0 rfl ?_
  refine w_callv1 d24_1 (by omega) rfl hS.1 (by simp) (Nat.le_of_ble_eq_true rfl) ?_
  refine c_Str_isLatin1 hS ?_
  refine w_ifeq d24_4 (fun c4 => ?_) (fun c4 => ?_)
  · exact absurd c4 (by decide)
  · refine w_aload_n d24_7 rfl ?_
    refine w_dloadS d24_8 hS.1 x3 ?_
    refine w_iload_n d24_11 rfl ?_
    refine w_calls2 d24_12 (by omega) rfl rfl (by simp) (Nat.le_of_ble_eq_true rfl) ?_
    refine c_Lat_charAt (by omega) x4 ⟨by omega, by omega⟩ (by rw [x6 _ (by omega)]; have := x7 i.toNat (by omega); omega) ?_
    refine w_creturn d24_15 (by rw [x6 _ (by omega)]; have := x7 i.toNat (by omega); omega) ?_
    exact qI (x6 _ (by omega)) kk
