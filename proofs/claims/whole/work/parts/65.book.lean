/-! the book -/
def BkC (S : Shp) (h : Hp) (b : Nat) (B : Nat → Nat) : Prop := ∀ j, j < 2048 → u8 (AI h (sT S 0 b) j) = B j
theorem BkC.mo {S : Shp} {h h' : Hp} {A : Nat → Prop} {b : Nat} {B : Nat → Nat} (ok : Ok S h) (m : Mo S A h h') (hb : sK S b = 1) (hA : ¬ A (sT S 0 b)) (D : BkC S h b B) : BkC S h' b B := fun j hj => by
  have k := kT0 ok hb
  rw [m.ai ok (by omega) hA]
  exact D j hj
def bAt (B : Nat → Nat) (i : Int) : Int := if 0 ≤ i ∧ i < 2048 then (B i.toNat : Nat) else -1
/-- the sum over the first n signs -/
def smF (l : List Nat) : Nat → Nat
  | 0 => 0
  | i + 1 => (smF l i + (i + 1) * l.getD i 0) % 251
theorem smF_lt (l : List Nat) : ∀ i, smF l i < 251
  | 0 => by unfold smF; omega
  | i + 1 => by unfold smF; exact Nat.mod_lt _ (by decide)
/-- the book with a record at u -/
def wrB (B : Nat → Nat) (u : Nat) (l : List Nat) (j : Nat) : Nat := if j = u then l.length else if u + 1 ≤ j ∧ j < u + 1 + l.length then l.getD (j - (u + 1)) 0 else if j = u + 1 + l.length then smF l l.length + 1 else B j
def clB (B : Nat → Nat) (f e : Nat) (j : Nat) : Nat := if f ≤ j ∧ j < e then 0 else B j
theorem atvN {l : List Nat} {i : Nat} (h : i < l.length) : atv l (i : Nat) = (l.getD i 0 : Nat) := by
  unfold atv
  rw [if_pos ⟨by omega, by omega⟩]
  rfl
theorem d67_0 : dc 67 0 = some (.iload_n 1, 1) := by decide +kernel
theorem d67_1 : dc 67 1 = some (.iload_n 2, 2) := by decide +kernel
theorem d67_2 : dc 67 2 = some (.if_icmp .le ((46 : Nat) : Int), 5) := by decide +kernel
theorem d67_46 : dc 67 46 = some (.iload_n 1, 47) := by decide +kernel
theorem d67_47 : dc 67 47 = some (.ifCond .ge ((59 : Nat) : Int), 50) := by decide +kernel
theorem d67_59 : dc 67 59 = some (.iload_n 2, 60) := by decide +kernel
theorem d67_60 : dc 67 60 = some (.iload_n 0, 61) := by decide +kernel
theorem d67_61 : dc 67 61 = some (.if_icmp .le ((73 : Nat) : Int), 64) := by decide +kernel
theorem d67_73 : dc 67 73 = some (.return_, 74) := by decide +kernel
theorem k_rangeCheck {S : Shp} {G : Nat → Option Nat} {d : Nat} {h : Hp} {Q : Option MV → Hp → Prop} {n : Nat} {f : Nat} {e : Nat}  (ok : Ok S h) (h1 : 0 ≤ d)  (hf : f ≤ e ∧ e ≤ n)
    (kk : Q none h) : Cl G d 67 [vI (n : Nat), vI (f : Nat), vI (e : Nat)] h Q := by
  show Wp G d 67 0 [some (vI (n : Nat)), some (vI (f : Nat)), some (vI (e : Nat))] [] h Q
  refine w_iload_n d67_0 rfl ?_
  refine w_iload_n d67_1 rfl ?_
  refine w_icmple d67_2 (fun c2 => ?_) (fun c2 => ?_)
  · refine w_iload_n d67_46 rfl ?_
    refine w_ifge d67_47 (fun c47 => ?_) (fun c47 => ?_)
    · refine w_iload_n d67_59 rfl ?_
      refine w_iload_n d67_60 rfl ?_
      refine w_icmple d67_61 (fun c61 => ?_) (fun c61 => ?_)
      · refine w_return d67_73 ?_
        exact kk
      · omega
    · omega
  · omega
theorem d66_0 : dc 66 0 = some (.aload_n 0, 1) := by decide +kernel
theorem d66_1 : dc 66 1 = some (.arraylength, 2) := by decide +kernel
theorem d66_2 : dc 66 2 = some (.iload_n 1, 3) := by decide +kernel
theorem d66_3 : dc 66 3 = some (.iload_n 2, 4) := by decide +kernel
theorem d66_4 : dc 66 4 = some (.invokevirtual 67, 7) := by decide +kernel
theorem d66_7 : dc 66 7 = some (.iload_n 1, 8) := by decide +kernel
theorem d66_8 : dc 66 8 = some (.istore 4, 10) := by decide +kernel
theorem d66_10 : dc 66 10 = some (.iload 4, 12) := by decide +kernel
theorem d66_12 : dc 66 12 = some (.iload_n 2, 13) := by decide +kernel
theorem d66_13 : dc 66 13 = some (.if_icmp .ge ((27 : Nat) : Int), 16) := by decide +kernel
theorem d66_16 : dc 66 16 = some (.aload_n 0, 17) := by decide +kernel
theorem d66_17 : dc 66 17 = some (.iload 4, 19) := by decide +kernel
theorem d66_19 : dc 66 19 = some (.iload_n 3, 20) := by decide +kernel
theorem d66_20 : dc 66 20 = some (.bastore, 21) := by decide +kernel
theorem d66_21 : dc 66 21 = some (.iinc 4 1, 24) := by decide +kernel
theorem d66_24 : dc 66 24 = some (.goto ((10 : Nat) : Int), 27) := by decide +kernel
theorem d66_27 : dc 66 27 = some (.return_, 28) := by decide +kernel
theorem k_Arrays_fillB {S : Shp} {G : Nat → Option Nat} {d : Nat} {h : Hp} {Q : Option MV → Hp → Prop} {f : Nat} {e : Nat} {z : Int} {b : Nat} {B : Nat → Nat} (ok : Ok S h) (h1 : 1 ≤ d)  (hb : sK S b = 1) (hz : z = 0) (hf : f ≤ e ∧ e ≤ 2048) (bc : BkC S h b B)
    (kk : ∀ h', Mo S (fun y => y = sT S 0 b) h h' → BkC S h' b (clB B f e) → Q none h') : Cl G d 66 [vR (some (sT S 0 b)), vI (f : Nat), vI (e : Nat), vI z] h Q := by
  show Wp G d 66 0 [some (vR (some (sT S 0 b))), some (vI (f : Nat)), some (vI (e : Nat)), some (vI z), none] [] h Q
  refine w_aload_n d66_0 rfl ?_
  refine p_len (f := 0) d66_1 ok hb rfl rfl (by decide) ?_
  refine w_iload_n d66_2 rfl ?_
  refine w_iload_n d66_3 rfl ?_
  refine w_calls3 d66_4 (by omega) rfl rfl (by simp) (Nat.le_of_ble_eq_true rfl) ?_
  refine k_rangeCheck ok (by omega) hf ?_
  refine w_iload_n d66_7 rfl ?_
  refine w_istore4 d66_8 rfl ?_
  have L10 : ∀ (m10 : Nat) (g : Hp) (i : Nat), e - i = m10 → Mo S (fun x => x = (sT S 0 b)) h g → (f ≤ i) → (i ≤ e) → (∀ j, j < 2048 → u8 (AI g (sT S 0 b) j) = if f ≤ j ∧ j < i then 0 else B j) → Wp G d 66 10 [some (vR (some (sT S 0 b))), some (vI (f : Nat)), some (vI (e : Nat)), some (vI z), some (vI (i : Nat))] [] g Q := by
    intro m10
    induction m10 using Nat.strongRecOn with | ind m10 IH10 => ?_
    intro g i hm10 Mg i1 i2 i3
    have okg := Mg.ok
    refine w_iload d66_10 rfl ?_
    refine w_iload_n d66_12 rfl ?_
    refine w_icmpge d66_13 (fun c13 => ?_) (fun c13 => ?_)
    · refine w_return d66_27 ?_
      exact kk g Mg (fun j hj => by rw [i3 j hj, show i = e by omega]; rfl)
    · refine w_aload_n d66_16 rfl ?_
      refine w_iload d66_17 rfl ?_
      refine w_iload_n d66_19 rfl ?_
      refine p_AB d66_20 okg hb (by omega) (by omega) (fun h20 e20 m20 => ?_)
      have e20 : h20 = sAI g (sT S 0 b) i z := e20
      have ok20 := m20.ok
      have M20 := Mo.tr ok Mg m20 (fun x e => e)
      refine w_iinc4 d66_21 rfl (by constructor <;> omega) ?_
      refine w_goto d66_24 ?_
      refine w_less ?_ (IH10 _ (by omega) h20 (i + 1) rfl M20 (by omega) (by omega) (fun j hj => by
        rw [e20, sArr]
        by_cases q : j = i
        · rw [if_pos q, if_pos ⟨by omega, by omega⟩, hz]; rfl
        · rw [if_neg q, i3 j hj]
          have : (f ≤ j ∧ j < i + 1) ↔ (f ≤ j ∧ j < i) := by omega
          simp only [this]))
      exact ⟨Or.inr rfl, Or.inr rfl, Or.inr rfl, Or.inr rfl, Or.inr rfl, trivial⟩
  have M0_ := Mo.refl (A := (fun x => x = (sT S 0 b))) ok
  refine w_less ?_ (L10 _ h f rfl M0_ (Nat.le_refl _) hf.1 (fun j hj => by rw [if_neg (by omega)]; exact bc j hj))
  exact ⟨Or.inr rfl, Or.inr rfl, Or.inr rfl, Or.inr rfl, Or.inr rfl, trivial⟩
theorem d61_0 : dc 61 0 = some (.iload_n 1, 1) := by decide +kernel
theorem d61_1 : dc 61 1 = some (.ifCond .lt ((24 : Nat) : Int), 4) := by decide +kernel
theorem d61_4 : dc 61 4 = some (.iload_n 1, 5) := by decide +kernel
theorem d61_5 : dc 61 5 = some (.sipush 2048, 8) := by decide +kernel
theorem d61_8 : dc 61 8 = some (.if_icmp .ge ((24 : Nat) : Int), 11) := by decide +kernel
theorem d61_11 : dc 61 11 = some (.aload_n 0, 12) := by decide +kernel
theorem d61_12 : dc 61 12 = some (.dload 0, 15) := by decide +kernel
theorem d61_15 : dc 61 15 = some (.iload_n 1, 16) := by decide +kernel
theorem d61_16 : dc 61 16 = some (.baload, 17) := by decide +kernel
theorem d61_17 : dc 61 17 = some (.sipush 255, 20) := by decide +kernel
theorem d61_20 : dc 61 20 = some (.iand, 21) := by decide +kernel
theorem d61_21 : dc 61 21 = some (.goto ((25 : Nat) : Int), 24) := by decide +kernel
theorem d61_24 : dc 61 24 = some (.iconst (-1), 25) := by decide +kernel
theorem d61_25 : dc 61 25 = some (.ireturn, 26) := by decide +kernel
theorem k_Book_at {S : Shp} {G : Nat → Option Nat} {d : Nat} {h : Hp} {Q : Option MV → Hp → Prop} {b : Nat} {i : Int}  (ok : Ok S h) (h1 : 0 ≤ d) (hb : sK S b = 1) {B : Nat → Nat} (bc : BkC S h b B)
    (kk : Q (some (vI (bAt B i))) h) : Cl G d 61 [vR (some b), vI i] h Q := by
  show Wp G d 61 0 [some (vR (some b)), some (vI i)] [] h Q
  refine w_iload_n d61_0 rfl ?_
  refine w_iflt d61_1 (fun c1 => ?_) (fun c1 => ?_)
  · refine w_iconst d61_24 (by decide) ?_
    refine w_ireturn d61_25 ?_
    by_cases q : 0 ≤ i ∧ i < 2048
    · refine qI ?_ kk; first | (exfalso; omega) | (unfold bAt; rw [if_pos q, u8_and (ok.ro.2.2.2.1 _ _ (ok.kd (kT0 ok hb))), bc i.toNat (by omega)])
    · refine qI ?_ kk; first | (exfalso; omega) | (unfold bAt; rw [if_neg q])
  · refine w_iload_n d61_4 rfl ?_
    refine w_sipush d61_5 (by decide) ?_
    refine w_icmpge d61_8 (fun c8 => ?_) (fun c8 => ?_)
    · refine w_iconst d61_24 (by decide) ?_
      refine w_ireturn d61_25 ?_
      by_cases q : 0 ≤ i ∧ i < 2048
      · refine qI ?_ kk; first | (exfalso; omega) | (unfold bAt; rw [if_pos q, u8_and (ok.ro.2.2.2.1 _ _ (ok.kd (kT0 ok hb))), bc i.toNat (by omega)])
      · refine qI ?_ kk; first | (exfalso; omega) | (unfold bAt; rw [if_neg q])
    · refine w_aload_n d61_11 rfl ?_
      refine w_dloadS d61_12 (ok.kd hb) (fr0 ok hb) ?_
      refine w_iload_n d61_15 rfl ?_
      refine w_baload d61_16 (gi0 ok hb (by omega)) ?_
      refine w_sipush d61_17 (by decide) ?_
      refine w_iand d61_20 ?_
      refine w_goto d61_21 ?_
      refine w_ireturn d61_25 ?_
      by_cases q : 0 ≤ i ∧ i < 2048
      · refine qI ?_ kk; first | (exfalso; omega) | (unfold bAt; rw [if_pos q, u8_and (ok.ro.2.2.2.1 _ _ (ok.kd (kT0 ok hb))), bc i.toNat (by omega)])
      · refine qI ?_ kk; first | (exfalso; omega) | (unfold bAt; rw [if_neg q])
theorem d65_0 : dc 65 0 = some (.aload_n 0, 1) := by decide +kernel
theorem d65_1 : dc 65 1 = some (.iload_n 1, 2) := by decide +kernel
theorem d65_2 : dc 65 2 = some (.iconst 0, 3) := by decide +kernel
theorem d65_3 : dc 65 3 = some (.invokestatic 3, 6) := by decide +kernel
theorem d65_6 : dc 65 6 = some (.sipush 2048, 9) := by decide +kernel
theorem d65_9 : dc 65 9 = some (.invokestatic 4, 12) := by decide +kernel
theorem d65_12 : dc 65 12 = some (.putfield 1, 15) := by decide +kernel
theorem d65_15 : dc 65 15 = some (.aload_n 0, 16) := by decide +kernel
theorem d65_16 : dc 65 16 = some (.dload 0, 19) := by decide +kernel
theorem d65_19 : dc 65 19 = some (.aload_n 0, 20) := by decide +kernel
theorem d65_20 : dc 65 20 = some (.getfield 1, 23) := by decide +kernel
theorem d65_23 : dc 65 23 = some (.sipush 2048, 26) := by decide +kernel
theorem d65_26 : dc 65 26 = some (.iconst 0, 27) := by decide +kernel
theorem d65_27 : dc 65 27 = some (.invokevirtual 66, 30) := by decide +kernel
theorem d65_30 : dc 65 30 = some (.aload_n 0, 31) := by decide +kernel
theorem d65_31 : dc 65 31 = some (.iconst (-1), 32) := by decide +kernel
theorem d65_32 : dc 65 32 = some (.putfield 2, 35) := by decide +kernel
theorem d65_35 : dc 65 35 = some (.aload_n 0, 36) := by decide +kernel
theorem d65_36 : dc 65 36 = some (.iconst 0, 37) := by decide +kernel
theorem d65_37 : dc 65 37 = some (.putstatic 3, 40) := by decide +kernel
theorem d65_40 : dc 65 40 = some (.return_, 41) := by decide +kernel
theorem k_Book_open {S : Shp} {G : Nat → Option Nat} {d : Nat} {h : Hp} {Q : Option MV → Hp → Prop} {b : Nat} {e : Nat}  (ok : Ok S h) (h1 : 3 ≤ d) (hb : sK S b = 1) {B : Nat → Nat} (bc : BkC S h b B) (he : e ≤ 2048)
    (kk : ∀ h', Mo S (U S b) h h' → BkC S h' b (clB B e 2048) → FI h' 1 b = (e : Nat) → FI h' 2 b = -1 → FI h' 3 b = 0 → Q none h') : Cl G d 65 [vR (some b), vI (e : Nat)] h Q := by
  show Wp G d 65 0 [some (vR (some b)), some (vI (e : Nat))] [] h Q
  have mx : (if ((e : Nat) : Int) < 0 then 0 else ((e : Nat) : Int)) = (e : Nat) := if_neg (by omega)
  have mn : (if 2048 < ((e : Nat) : Int) then 2048 else ((e : Nat) : Int)) = (e : Nat) := if_neg (by omega)
  refine w_aload_n d65_0 rfl ?_
  refine w_iload_n d65_1 rfl ?_
  refine w_iconst d65_2 (by decide) ?_
  refine w_max d65_3 (by refine ⟨by simp, ?_⟩; omega) ?_
  rw [mx]
  refine w_sipush d65_6 (by decide) ?_
  refine w_min d65_9 (by refine ⟨by simp, ?_⟩; omega) ?_
  rw [mn]
  refine wf1 d65_12 ok hb (by omega) (fun h12 e12 m12 => ?_)
  have ok12 := m12.ok
  have M12 := Mo.tr ok (Mo.refl (A := (fun x => U S b x)) ok) m12 (fun x e => (e ▸ U_refl))
  refine w_aload_n d65_15 rfl ?_
  refine w_dloadS d65_16 (ok12.kd hb) (fr0 ok12 hb) ?_
  refine w_aload_n d65_19 rfl ?_
  refine w_getI (x := ((e : Nat) : Int)) d65_20 (ok12.kd hb) (by rw [e12, FI_sFI, if_pos ⟨rfl, rfl⟩]) ?_
  refine w_sipush d65_23 (by decide) ?_
  refine w_iconst d65_26 (by decide) ?_
  refine w_calls4 d65_27 (by omega) rfl rfl (by simp) (Nat.le_of_ble_eq_true rfl) ?_
  refine k_Arrays_fillB (e := 2048) ok12 (by omega) hb rfl ⟨he, Nat.le_refl _⟩ (bc.mo ok m12 hb (ok.so.pT (by decide))) (fun h27 m27 e27_1 => ?_)
  have ok27 := m27.ok
  have M27 := Mo.tr ok M12 m27 (fun x e => (e ▸ (ok.so.uT (by decide) U_refl)))
  refine w_aload_n d65_30 rfl ?_
  refine w_iconst d65_31 (by decide) ?_
  refine wf2 d65_32 ok27 hb (by omega) (fun h32 e32 m32 => ?_)
  have ok32 := m32.ok
  have M32 := Mo.tr ok M27 m32 (fun x e => (e ▸ U_refl))
  refine w_aload_n d65_35 rfl ?_
  refine w_iconst d65_36 (by decide) ?_
  refine wf3 d65_37 ok32 hb (by omega) (fun h37 e37 m37 => ?_)
  have ok37 := m37.ok
  have M37 := Mo.tr ok M32 m37 (fun x e => (e ▸ U_refl))
  refine w_return d65_40 ?_
  have nb : b ≠ sT S 0 b := fun q => ok.so.pT (by decide) q.symm
  refine kk _ M37 (by rw [e37, e32]; exact e27_1) ?_ ?_ ?_
  · rw [e37, e32, FI_sFI, if_neg (by simp), FI_sFI, if_neg (by simp), m27.fi ok12 (by omega) nb 1, e12, FI_sFI, if_pos ⟨rfl, rfl⟩]
  · rw [e37, e32, FI_sFI, if_neg (by simp), FI_sFI, if_pos ⟨rfl, rfl⟩]
  · rw [e37, FI_sFI, if_pos ⟨rfl, rfl⟩]
theorem d64_0 : dc 64 0 = some (.aload_n 0, 1) := by decide +kernel
theorem d64_1 : dc 64 1 = some (.iconst 0, 2) := by decide +kernel
theorem d64_2 : dc 64 2 = some (.invokevirtual 65, 5) := by decide +kernel
theorem d64_5 : dc 64 5 = some (.return_, 6) := by decide +kernel
theorem k_Book_begin {S : Shp} {G : Nat → Option Nat} {d : Nat} {h : Hp} {Q : Option MV → Hp → Prop} {b : Nat}  (ok : Ok S h) (h1 : 4 ≤ d) (hb : sK S b = 1) {B : Nat → Nat} (bc : BkC S h b B)
    (kk : ∀ h', Mo S (U S b) h h' → BkC S h' b (fun _ => 0) → FI h' 1 b = 0 → FI h' 2 b = -1 → FI h' 3 b = 0 → Q none h') : Cl G d 64 [vR (some b)] h Q := by
  show Wp G d 64 0 [some (vR (some b))] [] h Q
  refine w_aload_n d64_0 rfl ?_
  refine w_iconst d64_1 (by decide) ?_
  refine w_callv2 d64_2 (by omega) rfl (ok.kd hb) (by simp) (Nat.le_of_ble_eq_true rfl) ?_
  refine k_Book_open (e := 0) ok (by omega) hb bc (by omega) (fun h2 m2 e2_1 e2_2 e2_3 e2_4 => ?_)
  have ok2 := m2.ok
  have M2 := Mo.tr ok (Mo.refl (A := (fun x => U S b x)) ok) m2 (fun x u => (U_trans U_refl u))
  refine w_return d64_5 ?_
  exact kk _ m2 (fun j hj => by rw [e2_1 j hj]; unfold clB; rw [if_pos ⟨Nat.zero_le _, hj⟩]) e2_2 e2_3 e2_4
theorem d83_0 : dc 83 0 = some (.iload_n 1, 1) := by decide +kernel
theorem d83_1 : dc 83 1 = some (.ifCond .le ((29 : Nat) : Int), 4) := by decide +kernel
theorem d83_4 : dc 83 4 = some (.iload_n 1, 5) := by decide +kernel
theorem d83_5 : dc 83 5 = some (.sipush 200, 8) := by decide +kernel
theorem d83_8 : dc 83 8 = some (.if_icmp .gt ((29 : Nat) : Int), 11) := by decide +kernel
theorem d83_11 : dc 83 11 = some (.aload_n 0, 12) := by decide +kernel
theorem d83_12 : dc 83 12 = some (.getfield 1, 15) := by decide +kernel
theorem d83_15 : dc 83 15 = some (.iload_n 1, 16) := by decide +kernel
theorem d83_16 : dc 83 16 = some (.iadd, 17) := by decide +kernel
theorem d83_17 : dc 83 17 = some (.iconst 2, 18) := by decide +kernel
theorem d83_18 : dc 83 18 = some (.iadd, 19) := by decide +kernel
theorem d83_19 : dc 83 19 = some (.sipush 2048, 22) := by decide +kernel
theorem d83_22 : dc 83 22 = some (.if_icmp .gt ((29 : Nat) : Int), 25) := by decide +kernel
theorem d83_25 : dc 83 25 = some (.iconst 1, 26) := by decide +kernel
theorem d83_26 : dc 83 26 = some (.goto ((30 : Nat) : Int), 29) := by decide +kernel
theorem d83_29 : dc 83 29 = some (.iconst 0, 30) := by decide +kernel
theorem d83_30 : dc 83 30 = some (.freturn, 31) := by decide +kernel
theorem k_Book_fits {S : Shp} {G : Nat → Option Nat} {d : Nat} {h : Hp} {Q : Option MV → Hp → Prop} {b : Nat} {n : Nat}  (ok : Ok S h) (h1 : 0 ≤ d) (hb : sK S b = 1) {u : Nat} (hu : FI h 1 b = (u : Nat)) (hn : n ≤ 100000)
    (kk : Q (some (vI (if 0 < n ∧ n ≤ 200 ∧ u + n + 2 ≤ 2048 then 1 else 0))) h) : Cl G d 83 [vR (some b), vI (n : Nat)] h Q := by
  show Wp G d 83 0 [some (vR (some b)), some (vI (n : Nat))] [] h Q
  have ru := rg1 ok hb
  rw [hu] at ru
  refine w_iload_n d83_0 rfl ?_
  refine w_ifle d83_1 (fun c1 => ?_) (fun c1 => ?_)
  · refine w_iconst d83_29 (by decide) ?_
    refine w_zreturn d83_30 (by decide) ?_
    refine qI ?_ kk
    first | (rw [if_pos (by omega)]) | (rw [if_neg (by omega)])
  · refine w_iload_n d83_4 rfl ?_
    refine w_sipush d83_5 (by decide) ?_
    refine w_icmpgt d83_8 (fun c8 => ?_) (fun c8 => ?_)
    · refine w_iconst d83_29 (by decide) ?_
      refine w_zreturn d83_30 (by decide) ?_
      refine qI ?_ kk
      first | (rw [if_pos (by omega)]) | (rw [if_neg (by omega)])
    · refine w_aload_n d83_11 rfl ?_
      refine w_getI (x := ((u : Nat) : Int)) d83_12 (ok.kd hb) hu ?_
      refine w_iload_n d83_15 rfl ?_
      refine w_iadd d83_16 (by constructor <;> omega) ?_
      refine w_iconst d83_17 (by decide) ?_
      refine w_iadd d83_18 (by constructor <;> omega) ?_
      refine w_sipush d83_19 (by decide) ?_
      refine w_icmpgt d83_22 (fun c22 => ?_) (fun c22 => ?_)
      · refine w_iconst d83_29 (by decide) ?_
        refine w_zreturn d83_30 (by decide) ?_
        refine qI ?_ kk
        first | (rw [if_pos (by omega)]) | (rw [if_neg (by omega)])
      · refine w_iconst d83_25 (by decide) ?_
        refine w_goto d83_26 ?_
        refine w_zreturn d83_30 (by decide) ?_
        refine qI ?_ kk
        first | (rw [if_pos (by omega)]) | (rw [if_neg (by omega)])
theorem d62_0 : dc 62 0 = some (.iconst 0, 1) := by decide +kernel
theorem d62_1 : dc 62 1 = some (.istore_n 2, 2) := by decide +kernel
theorem d62_2 : dc 62 2 = some (.iconst 0, 3) := by decide +kernel
theorem d62_3 : dc 62 3 = some (.istore_n 3, 4) := by decide +kernel
theorem d62_4 : dc 62 4 = some (.iload_n 3, 5) := by decide +kernel
theorem d62_5 : dc 62 5 = some (.aload_n 1, 6) := by decide +kernel
theorem d62_6 : dc 62 6 = some (.invokevirtual 13, 9) := by decide +kernel
theorem d62_9 : dc 62 9 = some (.if_icmp .ge ((34 : Nat) : Int), 12) := by decide +kernel
theorem d62_12 : dc 62 12 = some (.iload_n 2, 13) := by decide +kernel
theorem d62_13 : dc 62 13 = some (.iload_n 3, 14) := by decide +kernel
theorem d62_14 : dc 62 14 = some (.iconst 1, 15) := by decide +kernel
theorem d62_15 : dc 62 15 = some (.iadd, 16) := by decide +kernel
theorem d62_16 : dc 62 16 = some (.aload_n 1, 17) := by decide +kernel
theorem d62_17 : dc 62 17 = some (.iload_n 3, 18) := by decide +kernel
theorem d62_18 : dc 62 18 = some (.invokevirtual 23, 21) := by decide +kernel
theorem d62_21 : dc 62 21 = some (.imul, 22) := by decide +kernel
theorem d62_22 : dc 62 22 = some (.iadd, 23) := by decide +kernel
theorem d62_23 : dc 62 23 = some (.sipush 251, 26) := by decide +kernel
theorem d62_26 : dc 62 26 = some (.irem, 27) := by decide +kernel
theorem d62_27 : dc 62 27 = some (.istore_n 2, 28) := by decide +kernel
theorem d62_28 : dc 62 28 = some (.iinc 3 1, 31) := by decide +kernel
theorem d62_31 : dc 62 31 = some (.goto ((4 : Nat) : Int), 34) := by decide +kernel
theorem d62_34 : dc 62 34 = some (.iload_n 2, 35) := by decide +kernel
theorem d62_35 : dc 62 35 = some (.iconst 1, 36) := by decide +kernel
theorem d62_36 : dc 62 36 = some (.iadd, 37) := by decide +kernel
theorem d62_37 : dc 62 37 = some (.ireturn, 38) := by decide +kernel
theorem k_Book_sum {S : Shp} {G : Nat → Option Nat} {d : Nat} {h : Hp} {Q : Option MV → Hp → Prop} {b : Nat} {r : Nat}  (ok : Ok S h) (h1 : 1 ≤ d) (hb : sK S b = 1) (hr : sK S r = 6) (hl : (rl h r).length ≤ 5000)
    (kk : Q (some (vI ((smF (rl h r) (rl h r).length + 1 : Nat) : Int))) h) : Cl G d 62 [vR (some b), vR (some r)] h Q := by
  show Wp G d 62 0 [some (vR (some b)), some (vR (some r)), none, none] [] h Q
  refine w_iconst d62_0 (by decide) ?_
  refine w_istore2 d62_1 rfl ?_
  refine w_iconst d62_2 (by decide) ?_
  refine w_istore3 d62_3 rfl ?_
  have L4 : ∀ (m4 : Nat) (i : Nat), (rl h r).length - i = m4 → (i ≤ (rl h r).length) → Wp G d 62 4 [some (vR (some b)), some (vR (some r)), some (vI (smF (rl h r) i : Nat)), some (vI (i : Nat))] [] h Q := by
    intro m4
    induction m4 using Nat.strongRecOn with | ind m4 IH4 => ?_
    intro i hm4 i1
    have sl1 := smF_lt (rl h r) i
    refine w_iload_n d62_4 rfl ?_
    refine w_aload_n d62_5 rfl ?_
    refine w_callv1 d62_6 (by omega) rfl (ok.kd hr) (by simp) (Nat.le_of_ble_eq_true rfl) ?_
    refine r_Row_size ok hr ?_
    refine w_icmpge d62_9 (fun c9 => ?_) (fun c9 => ?_)
    · refine w_iload_n d62_34 rfl ?_
      refine w_iconst d62_35 (by decide) ?_
      refine w_iadd d62_36 (by constructor <;> omega) ?_
      refine w_ireturn d62_37 ?_
      rw [show (rl h r).length = i by omega] at kk
      exact kk
    · have hi : i < (rl h r).length := by omega
      have hc := rl_lt ok.ro (ok.kd hr) i
      refine w_iload_n d62_12 rfl ?_
      refine w_iload_n d62_13 rfl ?_
      refine w_iconst d62_14 (by decide) ?_
      refine w_iadd d62_15 (by constructor <;> omega) ?_
      refine w_aload_n d62_16 rfl ?_
      refine w_iload_n d62_17 rfl ?_
      refine w_callv2 d62_18 (by omega) rfl (ok.kd hr) (by simp) (Nat.le_of_ble_eq_true rfl) ?_
      refine r_Row_at ok hr ?_
      rw [atvN hi]
      have e21 : (((i : Nat) : Int) + 1) * (((rl h r).getD i 0 : Nat) : Int) = (((i + 1) * (rl h r).getD i 0 : Nat) : Int) := by push_cast; rfl
      have q21 : (i + 1) * (rl h r).getD i 0 ≤ 5000 * 256 := Nat.mul_le_mul (by omega) (by omega)
      refine w_imul d62_21 (by rw [e21]; constructor <;> omega) ?_
      rw [e21]
      generalize hP : (i + 1) * (rl h r).getD i 0 = P at *
      refine w_iadd d62_22 (by constructor <;> omega) ?_
      refine w_sipush d62_23 (by decide) ?_
      refine w_irem d62_26 (by decide) ?_
      rw [show (((smF (rl h r) i : Nat) : Int) + ((P : Nat) : Int)).tmod 251 = ((smF (rl h r) (i + 1) : Nat) : Int) by rw [Int.tmod_eq_emod_of_nonneg (by omega), smF, hP]; omega]
      refine w_istore2 d62_27 rfl ?_
      refine w_iinc3 d62_28 rfl (by constructor <;> omega) ?_
      refine w_goto d62_31 ?_
      refine w_less ?_ (IH4 _ (by omega) (i + 1) rfl (by omega))
      exact ⟨Or.inr rfl, Or.inr rfl, Or.inr rfl, Or.inr rfl, trivial⟩
  refine w_less ?_ (L4 _ 0 rfl (by omega))
  exact ⟨Or.inr rfl, Or.inr rfl, Or.inr rfl, Or.inr rfl, trivial⟩
theorem d85_0 : dc 85 0 = some (.aload_n 1, 1) := by decide +kernel
theorem d85_1 : dc 85 1 = some (.invokevirtual 13, 4) := by decide +kernel
theorem d85_4 : dc 85 4 = some (.istore_n 2, 5) := by decide +kernel
theorem d85_5 : dc 85 5 = some (.aload_n 0, 6) := by decide +kernel
theorem d85_6 : dc 85 6 = some (.iload_n 2, 7) := by decide +kernel
theorem d85_7 : dc 85 7 = some (.invokevirtual 83, 10) := by decide +kernel
theorem d85_10 : dc 85 10 = some (.ifCond .ne ((14 : Nat) : Int), 13) := by decide +kernel
theorem d85_14 : dc 85 14 = some (.aload_n 0, 15) := by decide +kernel
theorem d85_15 : dc 85 15 = some (.aload_n 0, 16) := by decide +kernel
theorem d85_16 : dc 85 16 = some (.getfield 1, 19) := by decide +kernel
theorem d85_19 : dc 85 19 = some (.putfield 2, 22) := by decide +kernel
theorem d85_22 : dc 85 22 = some (.aload_n 0, 23) := by decide +kernel
theorem d85_23 : dc 85 23 = some (.dload 0, 26) := by decide +kernel
theorem d85_26 : dc 85 26 = some (.aload_n 0, 27) := by decide +kernel
theorem d85_27 : dc 85 27 = some (.getfield 1, 30) := by decide +kernel
theorem d85_30 : dc 85 30 = some (.iload_n 2, 31) := by decide +kernel
theorem d85_31 : dc 85 31 = some (.i2b, 32) := by decide +kernel
theorem d85_32 : dc 85 32 = some (.bastore, 33) := by decide +kernel
theorem d85_33 : dc 85 33 = some (.iconst 0, 34) := by decide +kernel
theorem d85_34 : dc 85 34 = some (.istore_n 3, 35) := by decide +kernel
theorem d85_35 : dc 85 35 = some (.iload_n 3, 36) := by decide +kernel
theorem d85_36 : dc 85 36 = some (.iload_n 2, 37) := by decide +kernel
theorem d85_37 : dc 85 37 = some (.if_icmp .ge ((65 : Nat) : Int), 40) := by decide +kernel
theorem d85_40 : dc 85 40 = some (.aload_n 0, 41) := by decide +kernel
theorem d85_41 : dc 85 41 = some (.dload 0, 44) := by decide +kernel
theorem d85_44 : dc 85 44 = some (.aload_n 0, 45) := by decide +kernel
theorem d85_45 : dc 85 45 = some (.getfield 1, 48) := by decide +kernel
theorem d85_48 : dc 85 48 = some (.iconst 1, 49) := by decide +kernel
theorem d85_49 : dc 85 49 = some (.iadd, 50) := by decide +kernel
theorem d85_50 : dc 85 50 = some (.iload_n 3, 51) := by decide +kernel
theorem d85_51 : dc 85 51 = some (.iadd, 52) := by decide +kernel
theorem d85_52 : dc 85 52 = some (.aload_n 1, 53) := by decide +kernel
theorem d85_53 : dc 85 53 = some (.iload_n 3, 54) := by decide +kernel
theorem d85_54 : dc 85 54 = some (.invokevirtual 23, 57) := by decide +kernel
theorem d85_57 : dc 85 57 = some (.i2b, 58) := by decide +kernel
theorem d85_58 : dc 85 58 = some (.bastore, 59) := by decide +kernel
theorem d85_59 : dc 85 59 = some (.iinc 3 1, 62) := by decide +kernel
theorem d85_62 : dc 85 62 = some (.goto ((35 : Nat) : Int), 65) := by decide +kernel
theorem d85_65 : dc 85 65 = some (.aload_n 0, 66) := by decide +kernel
theorem d85_66 : dc 85 66 = some (.dload 0, 69) := by decide +kernel
theorem d85_69 : dc 85 69 = some (.aload_n 0, 70) := by decide +kernel
theorem d85_70 : dc 85 70 = some (.getfield 1, 73) := by decide +kernel
theorem d85_73 : dc 85 73 = some (.iconst 1, 74) := by decide +kernel
theorem d85_74 : dc 85 74 = some (.iadd, 75) := by decide +kernel
theorem d85_75 : dc 85 75 = some (.iload_n 2, 76) := by decide +kernel
theorem d85_76 : dc 85 76 = some (.iadd, 77) := by decide +kernel
theorem d85_77 : dc 85 77 = some (.aload_n 0, 78) := by decide +kernel
theorem d85_78 : dc 85 78 = some (.aload_n 1, 79) := by decide +kernel
theorem d85_79 : dc 85 79 = some (.invokevirtual 62, 82) := by decide +kernel
theorem d85_82 : dc 85 82 = some (.i2b, 83) := by decide +kernel
theorem d85_83 : dc 85 83 = some (.bastore, 84) := by decide +kernel
theorem d85_84 : dc 85 84 = some (.aload_n 0, 85) := by decide +kernel
theorem d85_85 : dc 85 85 = some (.dup, 86) := by decide +kernel
theorem d85_86 : dc 85 86 = some (.getfield 1, 89) := by decide +kernel
theorem d85_89 : dc 85 89 = some (.iload_n 2, 90) := by decide +kernel
theorem d85_90 : dc 85 90 = some (.iconst 2, 91) := by decide +kernel
theorem d85_91 : dc 85 91 = some (.iadd, 92) := by decide +kernel
theorem d85_92 : dc 85 92 = some (.iadd, 93) := by decide +kernel
theorem d85_93 : dc 85 93 = some (.putfield 1, 96) := by decide +kernel
theorem d85_96 : dc 85 96 = some (.return_, 97) := by decide +kernel
theorem k_Book_write {S : Shp} {G : Nat → Option Nat} {d : Nat} {h : Hp} {Q : Option MV → Hp → Prop} {b : Nat} {r : Nat}  (ok : Ok S h) (h1 : 2 ≤ d) (hb : sK S b = 1) (hr : sK S r = 6) {B : Nat → Nat} {u : Nat} (bc : BkC S h b B) (hu : FI h 1 b = (u : Nat)) (hl : 0 < (rl h r).length ∧ (rl h r).length ≤ 200 ∧ u + (rl h r).length + 2 ≤ 2048) (hbr : ¬ U S b r)
    (kk : ∀ h', Mo S (U S b) h h' → BkC S h' b (wrB B u (rl h r)) → FI h' 1 b = (u + (rl h r).length + 2 : Nat) → FI h' 2 b = (u : Nat) → FI h' 3 b = FI h 3 b → Q none h') : Cl G d 85 [vR (some b), vR (some r)] h Q := by
  show Wp G d 85 0 [some (vR (some b)), some (vR (some r)), none, none] [] h Q
  have nb : b ≠ sT S 0 b := fun q => ok.so.pT (by decide) q.symm
  have kT := kT0 ok hb
  have nr : ∀ f, f < 4096 → r ≠ sT S f b := fun f hf q => hbr (q ▸ ok.so.uT hf U_refl)
  have nrb : r ≠ b := fun q => hbr (q ▸ U_refl)
  generalize hL : rl h r = l at *
  have lt : ∀ j, l.getD j 0 < 256 := fun j => hL ▸ rl_lt ok.ro (ok.kd hr) j
  refine w_aload_n d85_0 rfl ?_
  refine w_callv1 d85_1 (by omega) rfl (ok.kd hr) (by simp) (Nat.le_of_ble_eq_true rfl) ?_
  refine r_Row_size ok hr ?_
  rw [hL]
  refine w_istore2 d85_4 rfl ?_
  refine w_aload_n d85_5 rfl ?_
  refine w_iload_n d85_6 rfl ?_
  refine w_callv2 d85_7 (by omega) rfl (ok.kd hb) (by simp) (Nat.le_of_ble_eq_true rfl) ?_
  refine k_Book_fits ok (by omega) hb hu (by omega) ?_
  rw [if_pos hl]
  refine w_ifne d85_10 (fun c10 => ?_) (fun c10 => ?_)
  · refine w_aload_n d85_14 rfl ?_
    refine w_aload_n d85_15 rfl ?_
    refine w_getI (x := ((u : Nat) : Int)) d85_16 (ok.kd hb) hu ?_
    refine wf2 d85_19 ok hb (by omega) (fun h19 e19 m19 => ?_)
    have ok19 := m19.ok
    have M19 := Mo.tr ok (Mo.refl (A := (fun x => U S b x)) ok) m19 (fun x e => (e ▸ U_refl))
    refine w_aload_n d85_22 rfl ?_
    refine w_dloadS d85_23 (ok19.kd hb) (fr0 ok19 hb) ?_
    refine w_aload_n d85_26 rfl ?_
    refine w_getI (x := ((u : Nat) : Int)) d85_27 (ok19.kd hb) (by rw [e19, FI_sFI, if_neg (by simp)]; exact hu) ?_
    refine w_iload_n d85_30 rfl ?_
    refine w_i2b d85_31 ?_
    refine p_AB d85_32 ok19 hb (by omega) (i8_rng _) (fun h32 e32 m32 => ?_)
    have ok32 := m32.ok
    have M32 := Mo.tr ok M19 m32 (fun x e => (e ▸ (ok.so.uT (by decide) U_refl)))
    refine w_iconst d85_33 (by decide) ?_
    refine w_istore3 d85_34 rfl ?_
    have L35 : ∀ (m35 : Nat) (g : Hp) (i : Nat), l.length - i = m35 → Mo S (fun x => U S b x) h g → (i ≤ l.length) → (FI g 1 b = (u : Nat)) → (FI g 2 b = (u : Nat)) → (FI g 3 b = FI h 3 b) → (rl g r = l) → (∀ j, j < 2048 → u8 (AI g (sT S 0 b) j) = if j = u then l.length else if u + 1 ≤ j ∧ j < u + 1 + i then l.getD (j - (u + 1)) 0 else B j) → Wp G d 85 35 [some (vR (some b)), some (vR (some r)), some (vI (l.length : Nat)), some (vI (i : Nat))] [] g Q := by
      intro m35
      induction m35 using Nat.strongRecOn with | ind m35 IH35 => ?_
      intro g i hm35 Mg i1 i2 i3 i4 i5 i6
      have okg := Mg.ok
      refine w_iload_n d85_35 rfl ?_
      refine w_iload_n d85_36 rfl ?_
      refine w_icmpge d85_37 (fun c37 => ?_) (fun c37 => ?_)
      · have il : i = l.length := by omega
        refine w_aload_n d85_65 rfl ?_
        refine w_dloadS d85_66 (okg.kd hb) (fr0 okg hb) ?_
        refine w_aload_n d85_69 rfl ?_
        refine w_getI (x := ((u : Nat) : Int)) d85_70 (okg.kd hb) i2 ?_
        refine w_iconst d85_73 (by decide) ?_
        refine w_iadd d85_74 (by constructor <;> omega) ?_
        refine w_iload_n d85_75 rfl ?_
        refine w_iadd d85_76 (by constructor <;> omega) ?_
        rw [show (((u : Nat) : Int) + 1 + ((l.length : Nat) : Int)) = ((u + 1 + l.length : Nat) : Int) by omega]
        refine w_aload_n d85_77 rfl ?_
        refine w_aload_n d85_78 rfl ?_
        refine w_callv2 d85_79 (by omega) rfl (okg.kd hb) (by simp) (Nat.le_of_ble_eq_true rfl) ?_
        refine k_Book_sum okg (by omega) hb hr (by rw [i5]; omega) ?_
        rw [i5]
        refine w_i2b d85_82 ?_
        refine p_AB (i := ((u + 1 + l.length : Nat) : Int)) d85_83 okg hb (by omega) (i8_rng _) (fun h83 e83 m83 => ?_)
        have ok83 := m83.ok
        have M83 := Mo.tr ok Mg m83 (fun x e => (e ▸ (ok.so.uT (by decide) U_refl)))
        refine w_aload_n d85_84 rfl ?_
        refine w_dupR d85_85 ?_
        refine w_getI (x := ((u : Nat) : Int)) d85_86 (ok83.kd hb) (by rw [e83]; exact i2) ?_
        refine w_iload_n d85_89 rfl ?_
        refine w_iconst d85_90 (by decide) ?_
        refine w_iadd d85_91 (by constructor <;> omega) ?_
        refine w_iadd d85_92 (by constructor <;> omega) ?_
        refine wf1 d85_93 ok83 hb (by omega) (fun h93 e93 m93 => ?_)
        have ok93 := m93.ok
        have M93 := Mo.tr ok M83 m93 (fun x e => (e ▸ U_refl))
        refine w_return d85_96 ?_
        have sl1 := smF_lt l l.length
        refine kk _ M93 (fun j hj => ?_) (by rw [e93, FI_sFI, if_pos ⟨rfl, rfl⟩]; push_cast; omega) (by rw [e93, FI_sFI, if_neg (by simp), e83]; exact i3) (by rw [e93, FI_sFI, if_neg (by simp), e83]; exact i4)
        show u8 (AI h93 (sT S 0 b) j) = _
        rw [e93]
        show u8 (AI h83 (sT S 0 b) j) = _
        rw [e83, show (((u + 1 + l.length : Nat) : Int)).toNat = u + 1 + l.length from rfl, sArr]
        unfold wrB
        by_cases q : j = u + 1 + l.length
        · subst q
          rw [if_pos rfl, u8_s, if_neg (by omega), if_neg (by omega), if_pos rfl]
          omega
        · rw [if_neg q, i6 j hj, il, if_neg q]
      · have hi : i < l.length := by omega
        refine w_aload_n d85_40 rfl ?_
        refine w_dloadS d85_41 (okg.kd hb) (fr0 okg hb) ?_
        refine w_aload_n d85_44 rfl ?_
        refine w_getI (x := ((u : Nat) : Int)) d85_45 (okg.kd hb) i2 ?_
        refine w_iconst d85_48 (by decide) ?_
        refine w_iadd d85_49 (by constructor <;> omega) ?_
        refine w_iload_n d85_50 rfl ?_
        refine w_iadd d85_51 (by constructor <;> omega) ?_
        rw [show (((u : Nat) : Int) + 1 + ((i : Nat) : Int)) = ((u + 1 + i : Nat) : Int) by omega]
        refine w_aload_n d85_52 rfl ?_
        refine w_iload_n d85_53 rfl ?_
        refine w_callv2 d85_54 (by omega) rfl (okg.kd hr) (by simp) (Nat.le_of_ble_eq_true rfl) ?_
        refine r_Row_at okg hr ?_
        rw [i5, atvN hi]
        refine w_i2b d85_57 ?_
        refine p_AB (i := ((u + 1 + i : Nat) : Int)) d85_58 okg hb (by omega) (i8_rng _) (fun h58 e58 m58 => ?_)
        have ok58 := m58.ok
        have M58 := Mo.tr ok Mg m58 (fun x e => (e ▸ (ok.so.uT (by decide) U_refl)))
        refine w_iinc3 d85_59 rfl (by constructor <;> omega) ?_
        refine w_goto d85_62 ?_
        refine w_less ?_ (IH35 _ (by omega) h58 (i + 1) rfl M58 (by omega) (by rw [e58]; exact i2) (by rw [e58]; exact i3) (by rw [e58]; exact i4) (by rw [m58.rb okg hr (nr 0 (by decide))]; exact i5) (fun j hj => by
          rw [e58, show (((u + 1 + i : Nat) : Int)).toNat = u + 1 + i from rfl, sArr]
          by_cases q : j = u + 1 + i
          · subst q
            have := lt i
            rw [if_pos rfl, u8_s, if_neg (by omega), if_pos ⟨by omega, by omega⟩, show u + 1 + i - (u + 1) = i by omega]
            omega
          · rw [if_neg q, i6 j hj]
            have : (u + 1 ≤ j ∧ j < u + 1 + (i + 1)) ↔ (u + 1 ≤ j ∧ j < u + 1 + i) := by omega
            simp only [this]))
        exact ⟨Or.inr rfl, Or.inr rfl, Or.inr rfl, Or.inr rfl, trivial⟩
    refine w_less ?_ (L35 _ h32 0 rfl M32 (by omega) (by rw [e32]; show FI h19 1 b = _; rw [e19, FI_sFI, if_neg (by simp)]; exact hu) (by rw [e32]; show FI h19 2 b = _; rw [e19, FI_sFI, if_pos ⟨rfl, rfl⟩]) (by rw [e32]; show FI h19 3 b = _; rw [e19, FI_sFI, if_neg (by simp)]) (by rw [m32.rb ok19 hr (nr 0 (by decide)), m19.rb ok hr nrb]; exact hL) (fun j hj => by
      rw [e32, show (((u : Nat) : Int)).toNat = u from rfl, sArr]
      by_cases q : j = u
      · rw [if_pos q, if_pos q, u8_s]; omega
      · rw [if_neg q, if_neg q, if_neg (by omega), e19]; exact bc j hj))
    exact ⟨Or.inr rfl, Or.inr rfl, Or.inr rfl, Or.inr rfl, trivial⟩
  · exact absurd c10 (by decide)
/-- the record at a: its bytes, where it is right -/
def recL (B : Nat → Nat) (a : Nat) : List Nat := (List.range (B a)).map fun i => B (a + 1 + i)
def recOk (B : Nat → Nat) (a : Nat) : Prop := a < 2048 ∧ 1 ≤ B a ∧ B a ≤ 200 ∧ a + B a + 2 ≤ 2048 ∧ B (a + 1 + B a) = smF (recL B a) (recL B a).length + 1
theorem recL_len (B : Nat → Nat) (a : Nat) : (recL B a).length = B a := by simp [recL]
theorem d60_0 : dc 60 0 = some (.aload_n 0, 1) := by decide +kernel
theorem d60_1 : dc 60 1 = some (.iload_n 1, 2) := by decide +kernel
theorem d60_2 : dc 60 2 = some (.invokevirtual 61, 5) := by decide +kernel
theorem d60_5 : dc 60 5 = some (.istore_n 3, 6) := by decide +kernel
theorem d60_6 : dc 60 6 = some (.iload_n 3, 7) := by decide +kernel
theorem d60_7 : dc 60 7 = some (.iconst 1, 8) := by decide +kernel
theorem d60_8 : dc 60 8 = some (.if_icmp .lt ((29 : Nat) : Int), 11) := by decide +kernel
theorem d60_11 : dc 60 11 = some (.iload_n 3, 12) := by decide +kernel
theorem d60_12 : dc 60 12 = some (.sipush 200, 15) := by decide +kernel
theorem d60_15 : dc 60 15 = some (.if_icmp .gt ((29 : Nat) : Int), 18) := by decide +kernel
theorem d60_18 : dc 60 18 = some (.iload_n 1, 19) := by decide +kernel
theorem d60_19 : dc 60 19 = some (.iload_n 3, 20) := by decide +kernel
theorem d60_20 : dc 60 20 = some (.iadd, 21) := by decide +kernel
theorem d60_21 : dc 60 21 = some (.iconst 2, 22) := by decide +kernel
theorem d60_22 : dc 60 22 = some (.iadd, 23) := by decide +kernel
theorem d60_23 : dc 60 23 = some (.sipush 2048, 26) := by decide +kernel
theorem d60_26 : dc 60 26 = some (.if_icmp .le ((31 : Nat) : Int), 29) := by decide +kernel
theorem d60_29 : dc 60 29 = some (.iconst 0, 30) := by decide +kernel
theorem d60_30 : dc 60 30 = some (.freturn, 31) := by decide +kernel
theorem d60_31 : dc 60 31 = some (.aload_n 2, 32) := by decide +kernel
theorem d60_32 : dc 60 32 = some (.invokevirtual 18, 35) := by decide +kernel
theorem d60_35 : dc 60 35 = some (.iconst 0, 36) := by decide +kernel
theorem d60_36 : dc 60 36 = some (.istore 4, 38) := by decide +kernel
theorem d60_38 : dc 60 38 = some (.iload 4, 40) := by decide +kernel
theorem d60_40 : dc 60 40 = some (.iload_n 3, 41) := by decide +kernel
theorem d60_41 : dc 60 41 = some (.if_icmp .ge ((64 : Nat) : Int), 44) := by decide +kernel
theorem d60_44 : dc 60 44 = some (.aload_n 2, 45) := by decide +kernel
theorem d60_45 : dc 60 45 = some (.aload_n 0, 46) := by decide +kernel
theorem d60_46 : dc 60 46 = some (.iload_n 1, 47) := by decide +kernel
theorem d60_47 : dc 60 47 = some (.iconst 1, 48) := by decide +kernel
theorem d60_48 : dc 60 48 = some (.iadd, 49) := by decide +kernel
theorem d60_49 : dc 60 49 = some (.iload 4, 51) := by decide +kernel
theorem d60_51 : dc 60 51 = some (.iadd, 52) := by decide +kernel
theorem d60_52 : dc 60 52 = some (.invokevirtual 61, 55) := by decide +kernel
theorem d60_55 : dc 60 55 = some (.invokevirtual 15, 58) := by decide +kernel
theorem d60_58 : dc 60 58 = some (.iinc 4 1, 61) := by decide +kernel
theorem d60_61 : dc 60 61 = some (.goto ((38 : Nat) : Int), 64) := by decide +kernel
theorem d60_64 : dc 60 64 = some (.aload_n 0, 65) := by decide +kernel
theorem d60_65 : dc 60 65 = some (.iload_n 1, 66) := by decide +kernel
theorem d60_66 : dc 60 66 = some (.iconst 1, 67) := by decide +kernel
theorem d60_67 : dc 60 67 = some (.iadd, 68) := by decide +kernel
theorem d60_68 : dc 60 68 = some (.iload_n 3, 69) := by decide +kernel
theorem d60_69 : dc 60 69 = some (.iadd, 70) := by decide +kernel
theorem d60_70 : dc 60 70 = some (.invokevirtual 61, 73) := by decide +kernel
theorem d60_73 : dc 60 73 = some (.aload_n 0, 74) := by decide +kernel
theorem d60_74 : dc 60 74 = some (.aload_n 2, 75) := by decide +kernel
theorem d60_75 : dc 60 75 = some (.invokevirtual 62, 78) := by decide +kernel
theorem d60_78 : dc 60 78 = some (.if_icmp .ne ((85 : Nat) : Int), 81) := by decide +kernel
theorem d60_81 : dc 60 81 = some (.iconst 1, 82) := by decide +kernel
theorem d60_82 : dc 60 82 = some (.goto ((86 : Nat) : Int), 85) := by decide +kernel
theorem d60_85 : dc 60 85 = some (.iconst 0, 86) := by decide +kernel
theorem d60_86 : dc 60 86 = some (.freturn, 87) := by decide +kernel
theorem k_Book_readRecord {S : Shp} {G : Nat → Option Nat} {d : Nat} {h : Hp} {Q : Option MV → Hp → Prop} {b : Nat} {a : Nat} {r : Nat}  (ok : Ok S h) (h1 : 2 ≤ d) (hb : sK S b = 1) (hr : sK S r = 6) {B : Nat → Nat} (bc : BkC S h b B) (ha : a ≤ 100000) (hbr : ¬ U S b r) (hc : 200 ≤ sC S r)
    (kk : ∀ h' v, Mo S (fun y => y = r) h h' → (v = true ↔ recOk B a) → (v = true → rl h' r = recL B a) → Q (some (vI (b2i v))) h') : Cl G d 60 [vR (some b), vI (a : Nat), vR (some r)] h Q := by
  show Wp G d 60 0 [some (vR (some b)), some (vI (a : Nat)), some (vR (some r)), none, none] [] h Q
  have cr := ok.cm hr
  have nT : sT S 0 b ≠ r := fun q => hbr (q ▸ ok.so.uT (by decide) U_refl)
  have b8 : ∀ j, j < 2048 → B j < 256 := fun j hj => by rw [← bc j hj]; exact u8_lt _
  refine w_aload_n d60_0 rfl ?_
  refine w_iload_n d60_1 rfl ?_
  refine w_callv2 d60_2 (by omega) rfl (ok.kd hb) (by simp) (Nat.le_of_ble_eq_true rfl) ?_
  refine k_Book_at ok (by omega) hb bc ?_
  by_cases ha2 : a < 2048
  rotate_left
  · have e0 : bAt B ((a : Nat) : Int) = -1 := by unfold bAt; rw [if_neg (by omega)]
    rw [e0]
    refine w_istore3 d60_5 rfl ?_
    refine w_iload_n d60_6 rfl ?_
    refine w_iconst d60_7 (by decide) ?_
    refine w_icmplt d60_8 (fun c8 => ?_) (fun c8 => ?_)
    · refine w_iconst d60_29 (by decide) ?_
      refine w_zreturn d60_30 (by decide) ?_
      exact kk h false (Mo.refl ok) ⟨(fun q => by cases q), (fun q => absurd q.1 ha2)⟩ (fun q => by cases q)
    · exact absurd c8 (by decide)
  have e0 : bAt B ((a : Nat) : Int) = (B a : Nat) := by unfold bAt; rw [if_pos ⟨by omega, by omega⟩]; rfl
  rw [e0]
  have b80 := b8 a ha2
  have nope : ¬ (1 ≤ B a ∧ B a ≤ 200 ∧ a + B a + 2 ≤ 2048) → Q (some (vI 0)) h := fun q => kk h false (Mo.refl ok) ⟨(fun z => by cases z), (fun z => absurd ⟨z.2.1, z.2.2.1, z.2.2.2.1⟩ q)⟩ (fun z => by cases z)
  refine w_istore3 d60_5 rfl ?_
  refine w_iload_n d60_6 rfl ?_
  refine w_iconst d60_7 (by decide) ?_
  refine w_icmplt d60_8 (fun c8 => ?_) (fun c8 => ?_)
  · refine w_iconst d60_29 (by decide) ?_
    refine w_zreturn d60_30 (by decide) ?_
    exact nope (by omega)
  · refine w_iload_n d60_11 rfl ?_
    refine w_sipush d60_12 (by decide) ?_
    refine w_icmpgt d60_15 (fun c15 => ?_) (fun c15 => ?_)
    · refine w_iconst d60_29 (by decide) ?_
      refine w_zreturn d60_30 (by decide) ?_
      exact nope (by omega)
    · refine w_iload_n d60_18 rfl ?_
      refine w_iload_n d60_19 rfl ?_
      refine w_iadd d60_20 (by constructor <;> omega) ?_
      refine w_iconst d60_21 (by decide) ?_
      refine w_iadd d60_22 (by constructor <;> omega) ?_
      refine w_sipush d60_23 (by decide) ?_
      refine w_icmple d60_26 (fun c26 => ?_) (fun c26 => ?_)
      · refine w_aload_n d60_31 rfl ?_
        refine w_callv1 d60_32 (by omega) rfl (ok.kd hr) (by simp) (Nat.le_of_ble_eq_true rfl) ?_
        refine r_Row_clear ok hr (fun h32 m32 e32_1 e32_2 => ?_)
        have ok32 := m32.ok
        have M32 := Mo.tr ok (Mo.refl (A := (fun x => x = r)) ok) m32 (fun x e => e)
        have hle : 1 ≤ B a ∧ B a ≤ 200 ∧ a + B a + 2 ≤ 2048 := ⟨by omega, by omega, by omega⟩
        refine w_iconst d60_35 (by decide) ?_
        refine w_istore4 d60_36 rfl ?_
        have L38 : ∀ (m38 : Nat) (g : Hp) (i : Nat), B a - i = m38 → Mo S (fun x => x = r) h g → (i ≤ B a) → (rl g r = (recL B a).take i) → Wp G d 60 38 [some (vR (some b)), some (vI (a : Nat)), some (vR (some r)), some (vI (B a : Nat)), some (vI (i : Nat))] [] g Q := by
          intro m38
          induction m38 using Nat.strongRecOn with | ind m38 IH38 => ?_
          intro g i hm38 Mg i1 i2
          have okg := Mg.ok
          have bcg := bc.mo ok Mg hb nT
          have lr := recL_len B a
          have lg : (rl g r).length = i := by rw [i2, List.length_take]; omega
          refine w_iload d60_38 rfl ?_
          refine w_iload_n d60_40 rfl ?_
          refine w_icmpge d60_41 (fun c41 => ?_) (fun c41 => ?_)
          · have il : i = B a := by omega
            have er : rl g r = recL B a := by rw [i2, List.take_of_length_le (by omega)]
            refine w_aload_n d60_64 rfl ?_
            refine w_iload_n d60_65 rfl ?_
            refine w_iconst d60_66 (by decide) ?_
            refine w_iadd d60_67 (by constructor <;> omega) ?_
            refine w_iload_n d60_68 rfl ?_
            refine w_iadd d60_69 (by constructor <;> omega) ?_
            refine w_callv2 d60_70 (by omega) rfl (okg.kd hb) (by simp) (Nat.le_of_ble_eq_true rfl) ?_
            refine k_Book_at okg (by omega) hb bcg ?_
            rw [show bAt B (((a : Nat) : Int) + 1 + ((B a : Nat) : Int)) = (B (a + 1 + B a) : Nat) by unfold bAt; rw [if_pos ⟨by omega, by omega⟩, show (((a : Nat) : Int) + 1 + ((B a : Nat) : Int)).toNat = a + 1 + B a by omega]]
            refine w_aload_n d60_73 rfl ?_
            refine w_aload_n d60_74 rfl ?_
            refine w_callv2 d60_75 (by omega) rfl (okg.kd hb) (by simp) (Nat.le_of_ble_eq_true rfl) ?_
            refine k_Book_sum okg (by omega) hb hr (by omega) ?_
            rw [er]
            refine w_icmpne d60_78 (fun c78 => ?_) (fun c78 => ?_)
            · refine w_iconst d60_85 (by decide) ?_
              refine w_zreturn d60_86 (by decide) ?_
              exact kk g false Mg ⟨(fun q => by cases q), (fun q => absurd q.2.2.2.2 (by omega))⟩ (fun q => by cases q)
            · refine w_iconst d60_81 (by decide) ?_
              refine w_goto d60_82 ?_
              refine w_zreturn d60_86 (by decide) ?_
              exact kk g true Mg ⟨fun _ => ⟨ha2, hle.1, hle.2.1, hle.2.2, by omega⟩, fun _ => rfl⟩ (fun _ => er)
          · have hi : i < B a := by omega
            refine w_aload_n d60_44 rfl ?_
            refine w_aload_n d60_45 rfl ?_
            refine w_iload_n d60_46 rfl ?_
            refine w_iconst d60_47 (by decide) ?_
            refine w_iadd d60_48 (by constructor <;> omega) ?_
            refine w_iload d60_49 rfl ?_
            refine w_iadd d60_51 (by constructor <;> omega) ?_
            refine w_callv2 d60_52 (by omega) rfl (okg.kd hb) (by simp) (Nat.le_of_ble_eq_true rfl) ?_
            refine k_Book_at okg (by omega) hb bcg ?_
            rw [show bAt B (((a : Nat) : Int) + 1 + ((i : Nat) : Int)) = (B (a + 1 + i) : Nat) by unfold bAt; rw [if_pos ⟨by omega, by omega⟩, show (((a : Nat) : Int) + 1 + ((i : Nat) : Int)).toNat = a + 1 + i by omega]]
            refine w_callv2 d60_55 (by omega) rfl (okg.kd hr) (by simp) (Nat.le_of_ble_eq_true rfl) ?_
            refine r_Row_add okg hr (fun h55 m55 e55_1 e55_2 => ?_)
            have ok55 := m55.ok
            have M55 := Mo.tr ok Mg m55 (fun x e => e)
            refine w_iinc4 d60_58 rfl (by constructor <;> omega) ?_
            refine w_goto d60_61 ?_
            refine w_less ?_ (IH38 _ (by omega) h55 (i + 1) rfl M55 (by omega) (by
              have cg := (Mg.cp ok hr).1
              have b9 := b8 (a + 1 + i) (by omega)
              rw [e55_1, addBs_one, addB_fit (by omega), i2, show (((B (a + 1 + i) : Nat) : Int) % 256).toNat = B (a + 1 + i) by omega, List.take_add_one, show (recL B a)[i]? = some (B (a + 1 + i)) by unfold recL; rw [List.getElem?_map, List.getElem?_range (by omega)]; rfl]
              rfl))
            exact ⟨Or.inr rfl, Or.inr rfl, Or.inr rfl, Or.inr rfl, Or.inr rfl, trivial⟩
        refine w_less ?_ (L38 _ h32 0 rfl M32 (by omega) (by rw [e32_1]; rfl))
        exact ⟨Or.inr rfl, Or.inr rfl, Or.inr rfl, Or.inr rfl, Or.inr rfl, trivial⟩
      · refine w_iconst d60_29 (by decide) ?_
        refine w_zreturn d60_30 (by decide) ?_
        exact nope (by omega)
theorem d178_0 : dc 178 0 = some (.aload_n 0, 1) := by decide +kernel
theorem d178_1 : dc 178 1 = some (.getfield 2, 4) := by decide +kernel
theorem d178_4 : dc 178 4 = some (.ifCond .lt ((24 : Nat) : Int), 7) := by decide +kernel
theorem d178_7 : dc 178 7 = some (.iload_n 1, 8) := by decide +kernel
theorem d178_8 : dc 178 8 = some (.ifCond .lt ((24 : Nat) : Int), 11) := by decide +kernel
theorem d178_11 : dc 178 11 = some (.iload_n 1, 12) := by decide +kernel
theorem d178_12 : dc 178 12 = some (.aload_n 0, 13) := by decide +kernel
theorem d178_13 : dc 178 13 = some (.getfield 1, 16) := by decide +kernel
theorem d178_16 : dc 178 16 = some (.aload_n 0, 17) := by decide +kernel
theorem d178_17 : dc 178 17 = some (.getfield 2, 20) := by decide +kernel
theorem d178_20 : dc 178 20 = some (.isub, 21) := by decide +kernel
theorem d178_21 : dc 178 21 = some (.if_icmp .le ((26 : Nat) : Int), 24) := by decide +kernel
theorem d178_24 : dc 178 24 = some (.iconst 0, 25) := by decide +kernel
theorem d178_25 : dc 178 25 = some (.freturn, 26) := by decide +kernel
theorem d178_26 : dc 178 26 = some (.aload_n 0, 27) := by decide +kernel
theorem d178_27 : dc 178 27 = some (.dload 0, 30) := by decide +kernel
theorem d178_30 : dc 178 30 = some (.aload_n 0, 31) := by decide +kernel
theorem d178_31 : dc 178 31 = some (.getfield 2, 34) := by decide +kernel
theorem d178_34 : dc 178 34 = some (.iload_n 1, 35) := by decide +kernel
theorem d178_35 : dc 178 35 = some (.iadd, 36) := by decide +kernel
theorem d178_36 : dc 178 36 = some (.aload_n 0, 37) := by decide +kernel
theorem d178_37 : dc 178 37 = some (.getfield 1, 40) := by decide +kernel
theorem d178_40 : dc 178 40 = some (.iconst 0, 41) := by decide +kernel
theorem d178_41 : dc 178 41 = some (.invokevirtual 66, 44) := by decide +kernel
theorem d178_44 : dc 178 44 = some (.aload_n 0, 45) := by decide +kernel
theorem d178_45 : dc 178 45 = some (.iconst 1, 46) := by decide +kernel
theorem d178_46 : dc 178 46 = some (.putstatic 3, 49) := by decide +kernel
theorem d178_49 : dc 178 49 = some (.iconst 1, 50) := by decide +kernel
theorem d178_50 : dc 178 50 = some (.freturn, 51) := by decide +kernel
theorem k_Book_cut {S : Shp} {G : Nat → Option Nat} {d : Nat} {h : Hp} {Q : Option MV → Hp → Prop} {b : Nat} {n : Nat}  (ok : Ok S h) (h1 : 3 ≤ d) (hb : sK S b = 1) {B : Nat → Nat} {u : Nat} {l : Int} (bc : BkC S h b B) (hu : FI h 1 b = (u : Nat)) (hl : FI h 2 b = l) (hn : n ≤ 100000)
    (kk : ∀ h' v, Mo S (U S b) h h' → (v = true ↔ 0 ≤ l ∧ (n : Int) ≤ u - l) → (v = true → BkC S h' b (clB B (l.toNat + n) u)) → (v = false → BkC S h' b B) → FI h' 1 b = (u : Nat) → FI h' 2 b = l → FI h' 3 b = (if v = true then 1 else FI h 3 b) → Q (some (vI (b2i v))) h') : Cl G d 178 [vR (some b), vI (n : Nat)] h Q := by
  show Wp G d 178 0 [some (vR (some b)), some (vI (n : Nat))] [] h Q
  have ru := rg1 ok hb
  have rl2 := rg2 ok hb
  rw [hu] at ru
  rw [hl] at rl2
  have nope : ¬ (0 ≤ l ∧ (n : Int) ≤ u - l) → Q (some (vI 0)) h := fun q => kk h false (Mo.refl ok) ⟨(fun z => by cases z), (fun z => absurd z q)⟩ (fun z => by cases z) (fun _ => bc) hu hl rfl
  refine w_aload_n d178_0 rfl ?_
  refine w_getI (x := l) d178_1 (ok.kd hb) hl ?_
  refine w_iflt d178_4 (fun c4 => ?_) (fun c4 => ?_)
  · refine w_iconst d178_24 (by decide) ?_
    refine w_zreturn d178_25 (by decide) ?_
    exact nope (by omega)
  · refine w_iload_n d178_7 rfl ?_
    refine w_iflt d178_8 (fun c8 => ?_) (fun c8 => ?_)
    · refine w_iconst d178_24 (by decide) ?_
      refine w_zreturn d178_25 (by decide) ?_
      exact nope (by omega)
    · refine w_iload_n d178_11 rfl ?_
      refine w_aload_n d178_12 rfl ?_
      refine w_getI (x := ((u : Nat) : Int)) d178_13 (ok.kd hb) hu ?_
      refine w_aload_n d178_16 rfl ?_
      refine w_getI (x := l) d178_17 (ok.kd hb) hl ?_
      refine w_isub d178_20 (by constructor <;> omega) ?_
      refine w_icmple d178_21 (fun c21 => ?_) (fun c21 => ?_)
      · have yes : 0 ≤ l ∧ (n : Int) ≤ u - l := ⟨by omega, by omega⟩
        refine w_aload_n d178_26 rfl ?_
        refine w_dloadS d178_27 (ok.kd hb) (fr0 ok hb) ?_
        refine w_aload_n d178_30 rfl ?_
        refine w_getI (x := l) d178_31 (ok.kd hb) hl ?_
        refine w_iload_n d178_34 rfl ?_
        refine w_iadd d178_35 (by constructor <;> omega) ?_
        rw [show l + ((n : Nat) : Int) = ((l.toNat + n : Nat) : Int) by omega]
        refine w_aload_n d178_36 rfl ?_
        refine w_getI (x := ((u : Nat) : Int)) d178_37 (ok.kd hb) hu ?_
        refine w_iconst d178_40 (by decide) ?_
        refine w_calls4 d178_41 (by omega) rfl rfl (by simp) (Nat.le_of_ble_eq_true rfl) ?_
        refine k_Arrays_fillB (f := l.toNat + n) (e := u) ok (by omega) hb rfl ⟨by omega, by omega⟩ bc (fun h41 m41 e41_1 => ?_)
        have ok41 := m41.ok
        have M41 := Mo.tr ok (Mo.refl (A := (fun x => U S b x)) ok) m41 (fun x e => (e ▸ (ok.so.uT (by decide) U_refl)))
        refine w_aload_n d178_44 rfl ?_
        refine w_iconst d178_45 (by decide) ?_
        refine wf3 d178_46 ok41 hb (by omega) (fun h46 e46 m46 => ?_)
        have ok46 := m46.ok
        have M46 := Mo.tr ok M41 m46 (fun x e => (e ▸ U_refl))
        refine w_iconst d178_49 (by decide) ?_
        refine w_zreturn d178_50 (by decide) ?_
        have nb : b ≠ sT S 0 b := fun q => ok.so.pT (by decide) q.symm
        exact kk _ true M46 ⟨fun _ => yes, fun _ => rfl⟩ (fun _ => by rw [e46]; exact e41_1) (fun q => by cases q) (by rw [e46, FI_sFI, if_neg (by simp), m41.fi ok (by omega) nb 1]; exact hu) (by rw [e46, FI_sFI, if_neg (by simp), m41.fi ok (by omega) nb 2]; exact hl) (by rw [e46, FI_sFI, if_pos ⟨rfl, rfl⟩]; rfl)
      · refine w_iconst d178_24 (by decide) ?_
        refine w_zreturn d178_25 (by decide) ?_
        exact nope (by omega)
theorem xor_u8 {x m : Int} (hm : 1 ≤ m ∧ m ≤ 255) : u8 (i32 (i32 x ^^^ i32 m).toInt).toInt8.toInt32.toInt = u8 x ^^^ m.toNat := by
  rw [u8_s]
  have k : ∀ v : BitVec 32, (v.toInt % 256).toNat = v.toNat % 256 := fun v => by
    have := v.isLt
    rw [BitVec.toInt_eq_toNat_cond]
    split <;> omega
  have e : ∀ z : Int, (i32 z).toBitVec.toNat % 256 = (z % 256).toNat := fun z => by
    show (BitVec.ofInt 32 z).toNat % 256 = _
    rw [BitVec.toNat_ofInt]
    omega
  show ((i32 x ^^^ i32 m).toBitVec.toInt % 256).toNat = _
  rw [k]
  show ((i32 x).toBitVec ^^^ (i32 m).toBitVec).toNat % 256 = _
  rw [BitVec.toNat_xor, show (256 : Nat) = 2 ^ 8 by decide, Nat.xor_mod_two_pow, show (2 : Nat) ^ 8 = 256 by decide, e, e]
  unfold u8
  rw [show (m % 256).toNat = m.toNat by omega]
def xorB (B : Nat → Nat) (i m : Nat) (j : Nat) : Nat := if j = i then B i ^^^ m else B j
theorem d187_0 : dc 187 0 = some (.iload_n 1, 1) := by decide +kernel
theorem d187_1 : dc 187 1 = some (.ifCond .lt ((23 : Nat) : Int), 4) := by decide +kernel
theorem d187_4 : dc 187 4 = some (.iload_n 1, 5) := by decide +kernel
theorem d187_5 : dc 187 5 = some (.sipush 2048, 8) := by decide +kernel
theorem d187_8 : dc 187 8 = some (.if_icmp .ge ((23 : Nat) : Int), 11) := by decide +kernel
theorem d187_11 : dc 187 11 = some (.iload_n 2, 12) := by decide +kernel
theorem d187_12 : dc 187 12 = some (.iconst 1, 13) := by decide +kernel
theorem d187_13 : dc 187 13 = some (.if_icmp .lt ((23 : Nat) : Int), 16) := by decide +kernel
theorem d187_16 : dc 187 16 = some (.iload_n 2, 17) := by decide +kernel
theorem d187_17 : dc 187 17 = some (.sipush 255, 20) := by decide +kernel
theorem d187_20 : dc 187 20 = some (.if_icmp .le ((25 : Nat) : Int), 23) := by decide +kernel
theorem d187_23 : dc 187 23 = some (.iconst 0, 24) := by decide +kernel
theorem d187_24 : dc 187 24 = some (.freturn, 25) := by decide +kernel
theorem d187_25 : dc 187 25 = some (.aload_n 0, 26) := by decide +kernel
theorem d187_26 : dc 187 26 = some (.dload 0, 29) := by decide +kernel
theorem d187_29 : dc 187 29 = some (.iload_n 1, 30) := by decide +kernel
theorem d187_30 : dc 187 30 = some (.aload_n 0, 31) := by decide +kernel
theorem d187_31 : dc 187 31 = some (.dload 0, 34) := by decide +kernel
theorem d187_34 : dc 187 34 = some (.iload_n 1, 35) := by decide +kernel
theorem d187_35 : dc 187 35 = some (.baload, 36) := by decide +kernel
theorem d187_36 : dc 187 36 = some (.iload_n 2, 37) := by decide +kernel
theorem d187_37 : dc 187 37 = some (.ixor, 38) := by decide +kernel
theorem d187_38 : dc 187 38 = some (.i2b, 39) := by decide +kernel
theorem d187_39 : dc 187 39 = some (.bastore, 40) := by decide +kernel
theorem d187_40 : dc 187 40 = some (.aload_n 0, 41) := by decide +kernel
theorem d187_41 : dc 187 41 = some (.iconst 1, 42) := by decide +kernel
theorem d187_42 : dc 187 42 = some (.putstatic 3, 45) := by decide +kernel
theorem d187_45 : dc 187 45 = some (.iconst 1, 46) := by decide +kernel
theorem d187_46 : dc 187 46 = some (.freturn, 47) := by decide +kernel
theorem k_Book_spoil {S : Shp} {G : Nat → Option Nat} {d : Nat} {h : Hp} {Q : Option MV → Hp → Prop} {b : Nat} {i : Int} {m : Int}  (ok : Ok S h) (h1 : 0 ≤ d) (hb : sK S b = 1) {B : Nat → Nat} (bc : BkC S h b B)
    (kk : ∀ h' v, Mo S (U S b) h h' → (v = true ↔ (0 ≤ i ∧ i < 2048) ∧ 1 ≤ m ∧ m ≤ 255) → (v = true → BkC S h' b (xorB B i.toNat m.toNat)) → (v = false → BkC S h' b B) → FI h' 1 b = FI h 1 b → FI h' 2 b = FI h 2 b → FI h' 3 b = (if v = true then 1 else FI h 3 b) → Q (some (vI (b2i v))) h') : Cl G d 187 [vR (some b), vI i, vI m] h Q := by
  show Wp G d 187 0 [some (vR (some b)), some (vI i), some (vI m)] [] h Q
  have kT := kT0 ok hb
  have nope : ¬ ((0 ≤ i ∧ i < 2048) ∧ 1 ≤ m ∧ m ≤ 255) → Q (some (vI 0)) h := fun q => kk h false (Mo.refl ok) ⟨(fun z => by cases z), (fun z => absurd z q)⟩ (fun z => by cases z) (fun _ => bc) rfl rfl rfl
  refine w_iload_n d187_0 rfl ?_
  refine w_iflt d187_1 (fun c1 => ?_) (fun c1 => ?_)
  · refine w_iconst d187_23 (by decide) ?_
    refine w_zreturn d187_24 (by decide) ?_
    exact nope (by omega)
  · refine w_iload_n d187_4 rfl ?_
    refine w_sipush d187_5 (by decide) ?_
    refine w_icmpge d187_8 (fun c8 => ?_) (fun c8 => ?_)
    · refine w_iconst d187_23 (by decide) ?_
      refine w_zreturn d187_24 (by decide) ?_
      exact nope (by omega)
    · refine w_iload_n d187_11 rfl ?_
      refine w_iconst d187_12 (by decide) ?_
      refine w_icmplt d187_13 (fun c13 => ?_) (fun c13 => ?_)
      · refine w_iconst d187_23 (by decide) ?_
        refine w_zreturn d187_24 (by decide) ?_
        exact nope (by omega)
      · refine w_iload_n d187_16 rfl ?_
        refine w_sipush d187_17 (by decide) ?_
        refine w_icmple d187_20 (fun c20 => ?_) (fun c20 => ?_)
        · have yes : (0 ≤ i ∧ i < 2048) ∧ 1 ≤ m ∧ m ≤ 255 := ⟨⟨by omega, by omega⟩, by omega, by omega⟩
          refine w_aload_n d187_25 rfl ?_
          refine w_dloadS d187_26 (ok.kd hb) (fr0 ok hb) ?_
          refine w_iload_n d187_29 rfl ?_
          refine w_aload_n d187_30 rfl ?_
          refine w_dloadS d187_31 (ok.kd hb) (fr0 ok hb) ?_
          refine w_iload_n d187_34 rfl ?_
          refine w_baload d187_35 (gi0 ok hb (by omega)) ?_
          refine w_iload_n d187_36 rfl ?_
          refine w_ixor d187_37 ?_
          refine w_i2b d187_38 ?_
          refine p_AB d187_39 ok hb (by omega) (i8_rng _) (fun h39 e39 m39 => ?_)
          have ok39 := m39.ok
          have M39 := Mo.tr ok (Mo.refl (A := (fun x => U S b x)) ok) m39 (fun x e => (e ▸ (ok.so.uT (by decide) U_refl)))
          refine w_aload_n d187_40 rfl ?_
          refine w_iconst d187_41 (by decide) ?_
          refine wf3 d187_42 ok39 hb (by omega) (fun h42 e42 m42 => ?_)
          have ok42 := m42.ok
          have M42 := Mo.tr ok M39 m42 (fun x e => (e ▸ U_refl))
          refine w_iconst d187_45 (by decide) ?_
          refine w_zreturn d187_46 (by decide) ?_
          refine kk _ true M42 ⟨fun _ => yes, fun _ => rfl⟩ (fun _ j hj => ?_) (fun q => by cases q) (by rw [e42, FI_sFI, if_neg (by simp), e39]; rfl) (by rw [e42, FI_sFI, if_neg (by simp), e39]; rfl) (by rw [e42, FI_sFI, if_pos ⟨rfl, rfl⟩]; rfl)
          rw [e42]
          show u8 (AI h39 (sT S 0 b) j) = _
          rw [e39, sArr]
          unfold xorB
          by_cases q : j = i.toNat
          · rw [if_pos q, if_pos q, xor_u8 yes.2, bc _ (by omega)]
          · rw [if_neg q, if_neg q]; exact bc j hj
        · refine w_iconst d187_23 (by decide) ?_
          refine w_zreturn d187_24 (by decide) ?_
          exact nope (by omega)
