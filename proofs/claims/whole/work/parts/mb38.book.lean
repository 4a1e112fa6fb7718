/-! the reference: its book -/
def byB (bs : Nat → Int) (i : Int) : Int := if 0 ≤ i ∧ i < 2048 then bs i.toNat else -1
def clF (bs : Nat → Int) (f : Nat) : Nat → Int := fun i => if f ≤ i then 0 else bs i
theorem d340_0 : dc 340 0 = some (.iload_n 1, 1) := by decide +kernel
theorem d340_1 : dc 340 1 = some (.ifCond .lt ((20 : Nat) : Int), 4) := by decide +kernel
theorem d340_4 : dc 340 4 = some (.iload_n 1, 5) := by decide +kernel
theorem d340_5 : dc 340 5 = some (.sipush 2048, 8) := by decide +kernel
theorem d340_8 : dc 340 8 = some (.if_icmp .ge ((20 : Nat) : Int), 11) := by decide +kernel
theorem d340_11 : dc 340 11 = some (.aload_n 0, 12) := by decide +kernel
theorem d340_12 : dc 340 12 = some (.dload 1734, 15) := by decide +kernel
theorem d340_15 : dc 340 15 = some (.iload_n 1, 16) := by decide +kernel
theorem d340_16 : dc 340 16 = some (.iaload, 17) := by decide +kernel
theorem d340_17 : dc 340 17 = some (.goto ((21 : Nat) : Int), 20) := by decide +kernel
theorem d340_20 : dc 340 20 = some (.iconst (-1), 21) := by decide +kernel
theorem d340_21 : dc 340 21 = some (.ireturn, 22) := by decide +kernel
theorem k_M_byteAt {S : Shp} {G : Nat → Option Nat} {d : Nat} {h : Hp} {Q : Option MV → Hp → Prop} {m : Nat} {i : Int} {bs : Nat → Int} (ok : Ok S h) (h1 : 0 ≤ d) (hm : sK S m = 14) (BO : ArI S h m 1734 bs 2048) 
    (kk : Q (some (vI (byB bs i))) h) : Cl G d 340 [vR (some m), vI i] h Q := by
  show Wp G d 340 0 [some (vR (some m)), some (vI i)] [] h Q
  have BO_0 := BO
  refine w_iload_n d340_0 rfl ?_
  refine w_iflt d340_1 (fun c1 => ?_) (fun c1 => ?_)
  · have e : byB bs i = -1 := if_neg (by omega)
    rw [e] at kk
    refine w_iconst d340_20 (by decide) ?_
    refine w_ireturn d340_21 ?_
    exact kk
  · refine w_iload_n d340_4 rfl ?_
    refine w_sipush d340_5 (by decide) ?_
    refine w_icmpge d340_8 (fun c8 => ?_) (fun c8 => ?_)
    · have e : byB bs i = -1 := if_neg (by omega)
      rw [e] at kk
      refine w_iconst d340_20 (by decide) ?_
      refine w_ireturn d340_21 ?_
      exact kk
    · have e : byB bs i = bs i.toNat := if_pos (by omega)
      rw [e] at kk
      have iv := BO i.toNat (by omega)
      refine w_aload_n d340_11 rfl ?_
      refine w_dloadS d340_12 (ok.kd hm) (fr1734 ok hm) ?_
      refine w_iload_n d340_15 rfl ?_
      refine w_ialoadV (x := (bs i.toNat)) d340_16 (gi1734 ok hm (by omega)) iv ?_
      refine w_goto d340_17 ?_
      refine w_ireturn d340_21 ?_
      exact kk
theorem d235_0 : dc 235 0 = some (.iload_n 1, 1) := by decide +kernel
theorem d235_1 : dc 235 1 = some (.istore_n 2, 2) := by decide +kernel
theorem d235_2 : dc 235 2 = some (.iload_n 2, 3) := by decide +kernel
theorem d235_3 : dc 235 3 = some (.sipush 2048, 6) := by decide +kernel
theorem d235_6 : dc 235 6 = some (.if_icmp .ge ((22 : Nat) : Int), 9) := by decide +kernel
theorem d235_9 : dc 235 9 = some (.aload_n 0, 10) := by decide +kernel
theorem d235_10 : dc 235 10 = some (.dload 1734, 13) := by decide +kernel
theorem d235_13 : dc 235 13 = some (.iload_n 2, 14) := by decide +kernel
theorem d235_14 : dc 235 14 = some (.iconst 0, 15) := by decide +kernel
theorem d235_15 : dc 235 15 = some (.iastore, 16) := by decide +kernel
theorem d235_16 : dc 235 16 = some (.iinc 2 1, 19) := by decide +kernel
theorem d235_19 : dc 235 19 = some (.goto ((2 : Nat) : Int), 22) := by decide +kernel
theorem d235_22 : dc 235 22 = some (.return_, 23) := by decide +kernel
theorem k_M_clearFrom {S : Shp} {G : Nat → Option Nat} {d : Nat} {h : Hp} {Q : Option MV → Hp → Prop} {m : Nat} {f : Nat} {bs : Nat → Int} (ok : Ok S h) (h1 : 0 ≤ d) (hm : sK S m = 14) (BO : ArI S h m 1734 bs 2048) (hf : f ≤ 2048)
    (kk : ∀ h', Fr S m [1734] h h' → ArI S h' m 1734 (clF bs f) 2048 → Q none h') : Cl G d 235 [vR (some m), vI (f : Nat)] h Q := by
  show Wp G d 235 0 [some (vR (some m)), some (vI (f : Nat)), none] [] h Q
  have BO_0 := BO
  refine w_iload_n d235_0 rfl ?_
  refine w_istore2 d235_1 rfl ?_
  have L2 : ∀ (m2 : Nat) (g : Hp) (i : Nat), 2048 - i = m2 → Fr S m [1734] h g → (f ≤ i ∧ i ≤ 2048) → (∀ j, j < 2048 → AI g (sT S 1734 m) j = if f ≤ j ∧ j < i then 0 else bs j) → Wp G d 235 2 [some (vR (some m)), some (vI (f : Nat)), some (vI (i : Nat))] [] g Q := by
    intro m2
    induction m2 using Nat.strongRecOn with | ind m2 IH2 => ?_
    intro g i hm2 FRg il hc
    have okg := FRg.ok
    refine w_iload_n d235_2 rfl ?_
    refine w_sipush d235_3 (by decide) ?_
    refine w_icmpge d235_6 (fun c6 => ?_) (fun c6 => ?_)
    · have ei : i = 2048 := by omega
      refine w_return d235_22 ?_
      exact kk g FRg (fun j hj => by rw [hc j hj]; unfold clF; by_cases q : f ≤ j; rw [if_pos q, if_pos (by omega)]; rw [if_neg q, if_neg (by omega)])
    · have hi : i < 2048 := by omega
      refine w_aload_n d235_9 rfl ?_
      refine w_dloadS d235_10 (okg.kd hm) (fr1734 okg hm) ?_
      refine w_iload_n d235_13 rfl ?_
      refine w_iconst d235_14 (by decide) ?_
      refine wa1734 d235_15 okg hm (by omega) (by omega) (fun h15 e15 m15 => ?_)
      have e15 : h15 = sAI g (sT S 1734 m) i 0 := e15
      have f15 : Fr S m [1734] _ _ := Fr.wB okg hm m15 (fun ζ e => ⟨1734, by decide, by decide, e ▸ U_refl⟩)
      have ok15 := f15.ok
      have FR15 := Fr.tr (F := [1734]) FRg f15 (by decide) (by decide)
      refine w_iinc2 d235_16 rfl (by constructor <;> omega) ?_
      refine w_goto d235_19 ?_
      rw [show ((i : Nat) : Int) + 1 = ((i + 1 : Nat) : Int) by omega]
      refine w_less ?_ (IH2 _ (by omega) h15 (i + 1) rfl FR15 ⟨by omega, by omega⟩ (fun j hj => by rw [e15, sArr]; by_cases q : j = i; rw [if_pos q, if_pos (by omega)]; rw [if_neg q, hc j hj]; by_cases q2 : f ≤ j ∧ j < i; rw [if_pos q2, if_pos (by omega)]; rw [if_neg q2, if_neg (by omega)]))
      exact ⟨Or.inr rfl, Or.inr rfl, Or.inr rfl, trivial⟩
  refine w_less ?_ (L2 _ h f rfl (Fr.refl ok) ⟨Nat.le_refl _, hf⟩ (fun j hj => by rw [if_neg (by omega)]; exact BO j hj))
  exact ⟨Or.inr rfl, Or.inr rfl, Or.inr rfl, trivial⟩
theorem d233_0 : dc 233 0 = some (.aload_n 0, 1) := by decide +kernel
theorem d233_1 : dc 233 1 = some (.getfield 1739, 4) := by decide +kernel
theorem d233_4 : dc 233 4 = some (.ifCond .eq ((34 : Nat) : Int), 7) := by decide +kernel
theorem d233_7 : dc 233 7 = some (.aload_n 0, 8) := by decide +kernel
theorem d233_8 : dc 233 8 = some (.getfield 1731, 11) := by decide +kernel
theorem d233_11 : dc 233 11 = some (.sipush 200, 14) := by decide +kernel
theorem d233_14 : dc 233 14 = some (.if_icmp .gt ((38 : Nat) : Int), 17) := by decide +kernel
theorem d233_17 : dc 233 17 = some (.aload_n 0, 18) := by decide +kernel
theorem d233_18 : dc 233 18 = some (.getfield 1735, 21) := by decide +kernel
theorem d233_21 : dc 233 21 = some (.aload_n 0, 22) := by decide +kernel
theorem d233_22 : dc 233 22 = some (.getfield 1731, 25) := by decide +kernel
theorem d233_25 : dc 233 25 = some (.iadd, 26) := by decide +kernel
theorem d233_26 : dc 233 26 = some (.iconst 2, 27) := by decide +kernel
theorem d233_27 : dc 233 27 = some (.iadd, 28) := by decide +kernel
theorem d233_28 : dc 233 28 = some (.sipush 2048, 31) := by decide +kernel
theorem d233_31 : dc 233 31 = some (.if_icmp .gt ((38 : Nat) : Int), 34) := by decide +kernel
theorem d233_34 : dc 233 34 = some (.iconst 1, 35) := by decide +kernel
theorem d233_35 : dc 233 35 = some (.goto ((39 : Nat) : Int), 38) := by decide +kernel
theorem d233_38 : dc 233 38 = some (.iconst 0, 39) := by decide +kernel
theorem d233_39 : dc 233 39 = some (.freturn, 40) := by decide +kernel
theorem k_M_hasRoom {S : Shp} {G : Nat → Option Nat} {d : Nat} {h : Hp} {Q : Option MV → Hp → Prop} {m : Nat} {l : List Nat} {kd : Int} {u : Nat} (ok : Ok S h) (h1 : 0 ≤ d) (hm : sK S m = 14) (RQ : RqR S h m l) (KI : FI h 1739 m = kd) (US : FI h 1735 m = ((u : Nat) : Int)) 
    (kk : Q (some (vI (b2i (decide (kd = 0 ∨ (l.length ≤ 200 ∧ u + l.length + 2 ≤ 2048)))))) h) : Cl G d 233 [vR (some m)] h Q := by
  show Wp G d 233 0 [some (vR (some m))] [] h Q
  have RQ_0 := RQ
  have KI_0 := KI
  have US_0 := US
  have l9 := RQ.2.1
  have ru := rg1735 ok hm
  rw [US] at ru
  refine w_aload_n d233_0 rfl ?_
  refine w_getI (x := kd) d233_1 (ok.kd hm) KI ?_
  refine w_ifeq d233_4 (fun c4 => ?_) (fun c4 => ?_)
  · have e : b2i (decide (kd = 0 ∨ (l.length ≤ 200 ∧ u + l.length + 2 ≤ 2048))) = 1 := b2i_dec (by omega)
    rw [e] at kk
    refine w_iconst d233_34 (by decide) ?_
    refine w_goto d233_35 ?_
    refine w_zreturn d233_39 (by decide) ?_
    exact kk
  · refine w_aload_n d233_7 rfl ?_
    refine w_getI (x := ((l.length : Nat) : Int)) d233_8 (ok.kd hm) RQ.1 ?_
    refine w_sipush d233_11 (by decide) ?_
    refine w_icmpgt d233_14 (fun c14 => ?_) (fun c14 => ?_)
    · have e : b2i (decide (kd = 0 ∨ (l.length ≤ 200 ∧ u + l.length + 2 ≤ 2048))) = 0 := b2i_decN (by omega)
      rw [e] at kk
      refine w_iconst d233_38 (by decide) ?_
      refine w_zreturn d233_39 (by decide) ?_
      exact kk
    · refine w_aload_n d233_17 rfl ?_
      refine w_getI (x := ((u : Nat) : Int)) d233_18 (ok.kd hm) US ?_
      refine w_aload_n d233_21 rfl ?_
      refine w_getI (x := ((l.length : Nat) : Int)) d233_22 (ok.kd hm) RQ.1 ?_
      refine w_iadd d233_25 (by constructor <;> omega) ?_
      refine w_iconst d233_26 (by decide) ?_
      refine w_iadd d233_27 (by constructor <;> omega) ?_
      refine w_sipush d233_28 (by decide) ?_
      refine w_icmpgt d233_31 (fun c31 => ?_) (fun c31 => ?_)
      · have e : b2i (decide (kd = 0 ∨ (l.length ≤ 200 ∧ u + l.length + 2 ≤ 2048))) = 0 := b2i_decN (by omega)
        rw [e] at kk
        refine w_iconst d233_38 (by decide) ?_
        refine w_zreturn d233_39 (by decide) ?_
        exact kk
      · have e : b2i (decide (kd = 0 ∨ (l.length ≤ 200 ∧ u + l.length + 2 ≤ 2048))) = 1 := b2i_dec (by omega)
        rw [e] at kk
        refine w_iconst d233_34 (by decide) ?_
        refine w_goto d233_35 ?_
        refine w_zreturn d233_39 (by decide) ?_
        exact kk
