/-! the reference: reasons, editions, releases -/
/-- reasons of runs -/
def ReR (S : Shp) (h : Hp) (m : Nat) (ra : Nat → Nat) : Prop := ∀ t, t < 14 → ra t ≤ 11 ∧ (ra t ≤ 3 → AI h (sT S 1672 m) t = (ra t : Nat)) ∧ (ra t = 4 → AI h (sT S 1672 m) t = 5) ∧ (5 ≤ ra t → AI h (sT S 1672 m) t = 4 ∧ AI h (sT S 1673 m) t = ((ra t - 5 : Nat) : Int))
/-- editions -/
def EdR (S : Shp) (h : Hp) (m : Nat) (re : Nat → Bool) (ed : Nat → Nat → Nat) : Prop := ∀ t, t < 14 → AI h (sT S 1674 m) t = b2i (re t) ∧ ∀ i, i < 3 → AI h (sT S 1676 m) (3 * t + i) = (ed t i : Nat)
/-- outcomes of an array whose elements stay -/
def OmA (S : Shp) (h : Hp) (m f : Nat) (bu : Nat → OmV) : Prop := ∀ j, j < 14 → OmC S h (sE S (sT S f m) j) (bu j)
def PuR (S : Shp) (h : Hp) (m : Nat) (pb : Nat → Bool) : Prop := ∀ t, t < 14 → AI h (sT S 1666 m) t = b2i (pb t)
section RELF
variable {S : Shp} {m : Nat} {F : List Nat} {h h' : Hp}
theorem ReR.r {ra : Nat → Nat} (D : ReR S h m ra) (fr : Fr S m F h h') (hm : sK S m = 14) (h1 : 1672 ∉ F ∧ 1673 ∉ F ∧ ltF4 F := by decide) : ReR S h' m ra := by
  unfold ReR
  rw [fr.ai (by have := kT1672 fr.1 hm; omega) (by decide) h1.1 h1.2.2, fr.ai (by have := kT1673 fr.1 hm; omega) (by decide) h1.2.1 h1.2.2]
  exact D
theorem EdR.r {re : Nat → Bool} {ed : Nat → Nat → Nat} (D : EdR S h m re ed) (fr : Fr S m F h h') (hm : sK S m = 14) (h1 : 1674 ∉ F ∧ 1676 ∉ F ∧ ltF4 F := by decide) : EdR S h' m re ed := by
  unfold EdR
  rw [fr.ai (by have := kT1674 fr.1 hm; omega) (by decide) h1.1 h1.2.2, fr.ai (by have := kT1676 fr.1 hm; omega) (by decide) h1.2.1 h1.2.2]
  exact D
theorem PuR.r {pb : Nat → Bool} (D : PuR S h m pb) (fr : Fr S m F h h') (hm : sK S m = 14) (h1 : 1666 ∉ F ∧ ltF4 F := by decide) : PuR S h' m pb := by
  unfold PuR
  rw [fr.ai (by have := kT1666 fr.1 hm; omega) (by decide) h1.1 h1.2]
  exact D
theorem otA {f m j : Nat} (ok : Ok S h) (hm : sK S m = 14) (hf : f = 1667 ∨ f = 1675 ∨ f = 1668 ∨ f = 1669) (hj : j < 14) : (isRA (KD h (sT S f m)) = true ∧ bnd ((j : Nat) : Int) (LN h (sT S f m))) ∧ AR h (sT S f m) j = some (sE S (sT S f m) j) ∧ sK S (sE S (sT S f m) j) = 13 ∧ f < 4096 := by
  rcases hf with rfl | rfl | rfl | rfl
  · exact ⟨gi1667 ok hm (by omega), er1667 ok hm hj, kE1667 ok hm hj, by decide⟩
  · exact ⟨gi1675 ok hm (by omega), er1675 ok hm hj, kE1675 ok hm hj, by decide⟩
  · exact ⟨gi1668 ok hm (by omega), er1668 ok hm hj, kE1668 ok hm hj, by decide⟩
  · exact ⟨gi1669 ok hm (by omega), er1669 ok hm hj, kE1669 ok hm hj, by decide⟩
theorem OmA.r {f : Nat} {bu : Nat → OmV} (D : OmA S h m f bu) (fr : Fr S m F h h') (hm : sK S m = 14) (h1 : (f = 1667 ∨ f = 1675 ∨ f = 1668 ∨ f = 1669) ∧ f ∉ F ∧ ltF4 F := by decide) : OmA S h' m f bu := fun j hj => (D j hj).u fr.1 fr.mo (otA fr.1 hm h1.1 hj).2.2.1 (fun y u => fr.no (otA fr.1 hm h1.1 hj).2.2.2 h1.2.1 h1.2.2 (U_trans (fr.1.so.uE (by omega) U_refl) u))
end RELF
theorem lns_mem {l x : List Nat} {i : Nat} (h : i < l.length) : x ∈ lns (l.drop i) ↔ x = sl l i (lineE l i) ∨ x ∈ lns (l.drop (lineE l i + 1)) := by rw [lns_at h, List.mem_cons]
theorem told_id {l : List Nat} (h : cln l) : l.map told = l := h.map
theorem d222_0 : dc 222 0 = some (.aload_n 0, 1) := by decide +kernel
theorem d222_1 : dc 222 1 = some (.dload 1664, 4) := by decide +kernel
theorem d222_4 : dc 222 4 = some (.aload_n 0, 5) := by decide +kernel
theorem d222_5 : dc 222 5 = some (.dload 1730, 8) := by decide +kernel
theorem d222_8 : dc 222 8 = some (.iload_n 1, 9) := by decide +kernel
theorem d222_9 : dc 222 9 = some (.iload_n 2, 10) := by decide +kernel
theorem d222_10 : dc 222 10 = some (.iload_n 1, 11) := by decide +kernel
theorem d222_11 : dc 222 11 = some (.isub, 12) := by decide +kernel
theorem d222_12 : dc 222 12 = some (.invokevirtual 223, 15) := by decide +kernel
theorem d222_15 : dc 222 15 = some (.ireturn, 16) := by decide +kernel
theorem k_M_numberOf {S : Shp} {G : Nat → Option Nat} {d : Nat} {h : Hp} {Q : Option MV → Hp → Prop} {m : Nat} {f : Nat} {e : Nat} {P0 : PlV} {n : List Nat} (ok : Ok S h) (h1 : 2 ≤ d) (hm : sK S m = 14) (NF : DfC S h (sT S 1664 m) P0) (hn : f + n.length = e) (sg : SgC S h (sT S 1730 m) f n)
    (kk : Q (some (vI (tix P0.2.2 n))) h) : Cl G d 222 [vR (some m), vI (f : Nat), vI (e : Nat)] h Q := by
  show Wp G d 222 0 [some (vR (some m)), some (vI (f : Nat)), some (vI (e : Nat))] [] h Q
  have NF_0 := NF
  have := sg.2.1
  have := sg.2.2.1
  refine w_aload_n d222_0 rfl ?_
  refine w_dloadS d222_1 (ok.kd hm) (fr1664 ok hm) ?_
  refine w_aload_n d222_4 rfl ?_
  refine w_dloadS d222_5 (ok.kd hm) (fr1730 ok hm) ?_
  refine w_iload_n d222_8 rfl ?_
  refine w_iload_n d222_9 rfl ?_
  refine w_iload_n d222_10 rfl ?_
  refine w_isub d222_11 (by constructor <;> omega) ?_
  rw [show ((e : Nat) : Int) - ((f : Nat) : Int) = ((e - f : Nat) : Int) by omega]
  refine w_callv4 d222_12 (by omega) rfl (ok.kd (kT1664 ok hm)) (by simp) (Nat.le_of_ble_eq_true rfl) ?_
  refine k_D_number ok (by omega) (kT1664 ok hm) NF.2.2 (show e - f = n.length by omega) sg ?_
  refine w_ireturn d222_15 ?_
  exact kk
theorem d306_0 : dc 306 0 = some (.aload_n 0, 1) := by decide +kernel
theorem d306_1 : dc 306 1 = some (.aload_n 0, 2) := by decide +kernel
theorem d306_2 : dc 306 2 = some (.getfield 1742, 5) := by decide +kernel
theorem d306_5 : dc 306 5 = some (.aload_n 0, 6) := by decide +kernel
theorem d306_6 : dc 306 6 = some (.getfield 1743, 9) := by decide +kernel
theorem d306_9 : dc 306 9 = some (.invokevirtual 222, 12) := by decide +kernel
theorem d306_12 : dc 306 12 = some (.istore_n 1, 13) := by decide +kernel
theorem d306_13 : dc 306 13 = some (.iload_n 1, 14) := by decide +kernel
theorem d306_14 : dc 306 14 = some (.ifCond .ge ((21 : Nat) : Int), 17) := by decide +kernel
theorem d306_17 : dc 306 17 = some (.iconst 0, 18) := by decide +kernel
theorem d306_18 : dc 306 18 = some (.goto ((27 : Nat) : Int), 21) := by decide +kernel
theorem d306_21 : dc 306 21 = some (.aload_n 0, 22) := by decide +kernel
theorem d306_22 : dc 306 22 = some (.dload 1672, 25) := by decide +kernel
theorem d306_25 : dc 306 25 = some (.iload_n 1, 26) := by decide +kernel
theorem d306_26 : dc 306 26 = some (.iaload, 27) := by decide +kernel
theorem d306_27 : dc 306 27 = some (.istore_n 2, 28) := by decide +kernel
theorem d306_28 : dc 306 28 = some (.iload_n 2, 29) := by decide +kernel
theorem d306_29 : dc 306 29 = some (.iconst 4, 30) := by decide +kernel
theorem d306_30 : dc 306 30 = some (.if_icmp .ne ((53 : Nat) : Int), 33) := by decide +kernel
theorem d306_33 : dc 306 33 = some (.aload_n 0, 34) := by decide +kernel
theorem d306_34 : dc 306 34 = some (.getstatic 65, 37) := by decide +kernel
theorem d306_37 : dc 306 37 = some (.invokevirtual 217, 40) := by decide +kernel
theorem d306_40 : dc 306 40 = some (.aload_n 0, 41) := by decide +kernel
theorem d306_41 : dc 306 41 = some (.aload_n 0, 42) := by decide +kernel
theorem d306_42 : dc 306 42 = some (.dload 1673, 45) := by decide +kernel
theorem d306_45 : dc 306 45 = some (.iload_n 1, 46) := by decide +kernel
theorem d306_46 : dc 306 46 = some (.iaload, 47) := by decide +kernel
theorem d306_47 : dc 306 47 = some (.invokevirtual 219, 50) := by decide +kernel
theorem d306_50 : dc 306 50 = some (.goto ((103 : Nat) : Int), 53) := by decide +kernel
theorem d306_53 : dc 306 53 = some (.aload_n 0, 54) := by decide +kernel
theorem d306_54 : dc 306 54 = some (.iload_n 2, 55) := by decide +kernel
theorem d306_55 : dc 306 55 = some (.ifCond .ne ((64 : Nat) : Int), 58) := by decide +kernel
theorem d306_58 : dc 306 58 = some (.getstatic 60, 61) := by decide +kernel
theorem d306_61 : dc 306 61 = some (.goto ((100 : Nat) : Int), 64) := by decide +kernel
theorem d306_64 : dc 306 64 = some (.iload_n 2, 65) := by decide +kernel
theorem d306_65 : dc 306 65 = some (.iconst 1, 66) := by decide +kernel
theorem d306_66 : dc 306 66 = some (.if_icmp .ne ((75 : Nat) : Int), 69) := by decide +kernel
theorem d306_69 : dc 306 69 = some (.getstatic 61, 72) := by decide +kernel
theorem d306_72 : dc 306 72 = some (.goto ((100 : Nat) : Int), 75) := by decide +kernel
theorem d306_75 : dc 306 75 = some (.iload_n 2, 76) := by decide +kernel
theorem d306_76 : dc 306 76 = some (.iconst 2, 77) := by decide +kernel
theorem d306_77 : dc 306 77 = some (.if_icmp .ne ((86 : Nat) : Int), 80) := by decide +kernel
theorem d306_80 : dc 306 80 = some (.getstatic 62, 83) := by decide +kernel
theorem d306_83 : dc 306 83 = some (.goto ((100 : Nat) : Int), 86) := by decide +kernel
theorem d306_86 : dc 306 86 = some (.iload_n 2, 87) := by decide +kernel
theorem d306_87 : dc 306 87 = some (.iconst 3, 88) := by decide +kernel
theorem d306_88 : dc 306 88 = some (.if_icmp .ne ((97 : Nat) : Int), 91) := by decide +kernel
theorem d306_91 : dc 306 91 = some (.getstatic 63, 94) := by decide +kernel
theorem d306_94 : dc 306 94 = some (.goto ((100 : Nat) : Int), 97) := by decide +kernel
theorem d306_97 : dc 306 97 = some (.getstatic 64, 100) := by decide +kernel
theorem d306_100 : dc 306 100 = some (.invokevirtual 217, 103) := by decide +kernel
theorem d306_103 : dc 306 103 = some (.return_, 104) := by decide +kernel
theorem k_M_tellWhy {S : Shp} {G : Nat → Option Nat} {d : Nat} {h : Hp} {Q : Option MV → Hp → Prop} {m : Nat} {P0 : PlV} {la n : List Nat} {f e : Nat} {ra : Nat → Nat} (ok : Ok S h) (h1 : 12 ≤ d) (hm : sK S m = 14) (TE : TeR S h m la) (NF : DfC S h (sT S 1664 m) P0) (NM : NmR h m f e) (RE : ReR S h m ra) (tg : Tg S G) (hn : f + n.length = e) (sg : SgC S h (sT S 1730 m) f n)
    (kk : ∀ h', Fr S m [1732, 1733] h h' → TeR S h' m (addBs 20000 la (reaTxt ra (tix P0.2.2 n))) → Q none h') : Cl G d 306 [vR (some m)] h Q := by
  show Wp G d 306 0 [some (vR (some m)), none, none] [] h Q
  have TE_0 := TE
  have NF_0 := NF
  have NM_0 := NM
  have RE_0 := RE
  have htl := NF.2.2.2.1
  have hd0 := kT1664 ok hm
  have tr := tix_rg P0.2.2 n
  have sg1 := sg.2.1
  have sg2 := sg.2.2.1
  refine w_aload_n d306_0 rfl ?_
  refine w_aload_n d306_1 rfl ?_
  refine w_getI (x := ((f : Nat) : Int)) d306_2 (ok.kd hm) NM.1 ?_
  refine w_aload_n d306_5 rfl ?_
  refine w_getI (x := ((e : Nat) : Int)) d306_6 (ok.kd hm) NM.2 ?_
  refine w_callv3 d306_9 (by omega) rfl (ok.kd hm) (by simp) (Nat.le_of_ble_eq_true rfl) ?_
  refine k_M_numberOf ok (by omega) hm NF hn sg ?_
  refine w_istore1 d306_12 rfl ?_
  refine w_iload_n d306_13 rfl ?_
  refine w_ifge d306_14 (fun c14 => ?_) (fun c14 => ?_)
  · obtain ⟨t, ht⟩ : ∃ t : Nat, (tix P0.2.2 n) = (t : Int) := ⟨((tix P0.2.2 n)).toNat, by omega⟩
    have ht14 : t < 14 := by omega
    have rt : reaTxt ra (tix P0.2.2 n) = if ra t < 5 then txt (10 + ra t) else txt 15 ++ dec (ra t - 5) := by unfold reaTxt; rw [if_pos (by omega), ht, Int.toNat_natCast]
    rw [rt] at kk
    rw [ht]
    obtain ⟨r0, r1, r2, r3⟩ := RE t ht14
    have rr := ra1672 ok hm t
    obtain ⟨q, hq⟩ : ∃ q : Nat, AI h (sT S 1672 m) t = (q : Int) := ⟨(AI h (sT S 1672 m) t).toNat, by omega⟩
    refine w_aload_n d306_21 rfl ?_
    refine w_dloadS d306_22 (ok.kd hm) (fr1672 ok hm) ?_
    refine w_iload_n d306_25 rfl ?_
    refine w_ialoadV (x := ((q : Nat) : Int)) d306_26 (gi1672 ok hm (by omega)) hq ?_
    refine w_istore2 d306_27 rfl ?_
    refine w_iload_n d306_28 rfl ?_
    refine w_iconst d306_29 (by decide) ?_
    refine w_icmpne d306_30 (fun c30 => ?_) (fun c30 => ?_)
    · have q4 : ¬ q = 4 := by omega
      have r5 : ra t < 5 := by
        rcases Nat.lt_or_ge (ra t) 5 with z | z
        · exact z
        · have := (r3 z).1; omega
      have q01 : (ra t = q ∧ q ≤ 3) ∨ (ra t = 4 ∧ q = 5) := by
        rcases Nat.lt_or_ge (ra t) 4 with z | z
        · have := r1 (by omega); omega
        · have := r2 (by omega); omega
      rw [if_pos r5] at kk
      refine w_aload_n d306_53 rfl ?_
      refine w_iload_n d306_54 rfl ?_
      refine w_ifne d306_55 (fun c55 => ?_) (fun c55 => ?_)
      · refine w_iload_n d306_64 rfl ?_
        refine w_iconst d306_65 (by decide) ?_
        refine w_icmpne d306_66 (fun c66 => ?_) (fun c66 => ?_)
        · refine w_iload_n d306_75 rfl ?_
          refine w_iconst d306_76 (by decide) ?_
          refine w_icmpne d306_77 (fun c77 => ?_) (fun c77 => ?_)
          · refine w_iload_n d306_86 rfl ?_
            refine w_iconst d306_87 (by decide) ?_
            refine w_icmpne d306_88 (fun c88 => ?_) (fun c88 => ?_)
            · rw [show ra t = 4 by omega] at kk
              obtain ⟨g97, v97, s97⟩ := tg.al ok 14 (by decide)
              refine w_getstaticS d306_97 v97 ?_
              refine w_callv2 d306_100 (by omega) rfl (ok.kd hm) (by simp) (Nat.le_of_ble_eq_true rfl) ?_
              refine k_M_say ok (by omega) hm TE s97 (fun h100 m100 q100 TE => ?_)
              have f100 : Fr S m [1732, 1733] _ _ := Fr.mk ok m100 (fun ζ q => q.elim ((fun ζ e => Or.inl e) ζ) ((fun ζ e => Or.inr ⟨1732, by decide, e ▸ U_refl⟩) ζ)) q100 (by decide)
              have ok100 := f100.ok
              have FR100 := Fr.le (F := [1732, 1733]) f100 (by decide)
              have NF := DfC.r (f := 1664) f100 hm (by decide) NF
              have NM := NM.r f100 hm
              have RE := RE.r f100 hm
              refine w_return d306_103 ?_
              exact kk h100 FR100 TE
            · rw [show ra t = 3 by omega] at kk
              obtain ⟨g91, v91, s91⟩ := tg.al ok 13 (by decide)
              refine w_getstaticS d306_91 v91 ?_
              refine w_goto d306_94 ?_
              refine w_callv2 d306_100 (by omega) rfl (ok.kd hm) (by simp) (Nat.le_of_ble_eq_true rfl) ?_
              refine k_M_say ok (by omega) hm TE s91 (fun h100 m100 q100 TE => ?_)
              have f100 : Fr S m [1732, 1733] _ _ := Fr.mk ok m100 (fun ζ q => q.elim ((fun ζ e => Or.inl e) ζ) ((fun ζ e => Or.inr ⟨1732, by decide, e ▸ U_refl⟩) ζ)) q100 (by decide)
              have ok100 := f100.ok
              have FR100 := Fr.le (F := [1732, 1733]) f100 (by decide)
              have NF := DfC.r (f := 1664) f100 hm (by decide) NF
              have NM := NM.r f100 hm
              have RE := RE.r f100 hm
              refine w_return d306_103 ?_
              exact kk h100 FR100 TE
          · rw [show ra t = 2 by omega] at kk
            obtain ⟨g80, v80, s80⟩ := tg.al ok 12 (by decide)
            refine w_getstaticS d306_80 v80 ?_
            refine w_goto d306_83 ?_
            refine w_callv2 d306_100 (by omega) rfl (ok.kd hm) (by simp) (Nat.le_of_ble_eq_true rfl) ?_
            refine k_M_say ok (by omega) hm TE s80 (fun h100 m100 q100 TE => ?_)
            have f100 : Fr S m [1732, 1733] _ _ := Fr.mk ok m100 (fun ζ q => q.elim ((fun ζ e => Or.inl e) ζ) ((fun ζ e => Or.inr ⟨1732, by decide, e ▸ U_refl⟩) ζ)) q100 (by decide)
            have ok100 := f100.ok
            have FR100 := Fr.le (F := [1732, 1733]) f100 (by decide)
            have NF := DfC.r (f := 1664) f100 hm (by decide) NF
            have NM := NM.r f100 hm
            have RE := RE.r f100 hm
            refine w_return d306_103 ?_
            exact kk h100 FR100 TE
        · rw [show ra t = 1 by omega] at kk
          obtain ⟨g69, v69, s69⟩ := tg.al ok 11 (by decide)
          refine w_getstaticS d306_69 v69 ?_
          refine w_goto d306_72 ?_
          refine w_callv2 d306_100 (by omega) rfl (ok.kd hm) (by simp) (Nat.le_of_ble_eq_true rfl) ?_
          refine k_M_say ok (by omega) hm TE s69 (fun h100 m100 q100 TE => ?_)
          have f100 : Fr S m [1732, 1733] _ _ := Fr.mk ok m100 (fun ζ q => q.elim ((fun ζ e => Or.inl e) ζ) ((fun ζ e => Or.inr ⟨1732, by decide, e ▸ U_refl⟩) ζ)) q100 (by decide)
          have ok100 := f100.ok
          have FR100 := Fr.le (F := [1732, 1733]) f100 (by decide)
          have NF := DfC.r (f := 1664) f100 hm (by decide) NF
          have NM := NM.r f100 hm
          have RE := RE.r f100 hm
          refine w_return d306_103 ?_
          exact kk h100 FR100 TE
      · rw [show ra t = 0 by omega] at kk
        obtain ⟨g58, v58, s58⟩ := tg.al ok 10 (by decide)
        refine w_getstaticS d306_58 v58 ?_
        refine w_goto d306_61 ?_
        refine w_callv2 d306_100 (by omega) rfl (ok.kd hm) (by simp) (Nat.le_of_ble_eq_true rfl) ?_
        refine k_M_say ok (by omega) hm TE s58 (fun h100 m100 q100 TE => ?_)
        have f100 : Fr S m [1732, 1733] _ _ := Fr.mk ok m100 (fun ζ q => q.elim ((fun ζ e => Or.inl e) ζ) ((fun ζ e => Or.inr ⟨1732, by decide, e ▸ U_refl⟩) ζ)) q100 (by decide)
        have ok100 := f100.ok
        have FR100 := Fr.le (F := [1732, 1733]) f100 (by decide)
        have NF := DfC.r (f := 1664) f100 hm (by decide) NF
        have NM := NM.r f100 hm
        have RE := RE.r f100 hm
        refine w_return d306_103 ?_
        exact kk h100 FR100 TE
    · have q4 : q = 4 := by omega
      have r5 : 5 ≤ ra t := by
        rcases Nat.lt_or_ge (ra t) 5 with z | z
        · rcases Nat.lt_or_ge (ra t) 4 with y | y
          · have := r1 (by omega); omega
          · have := r2 (by omega); omega
        · exact z
      rw [if_neg (by omega)] at kk
      refine w_aload_n d306_33 rfl ?_
      obtain ⟨g34, v34, s34⟩ := tg.al ok 15 (by decide)
      refine w_getstaticS d306_34 v34 ?_
      refine w_callv2 d306_37 (by omega) rfl (ok.kd hm) (by simp) (Nat.le_of_ble_eq_true rfl) ?_
      refine k_M_say ok (by omega) hm TE s34 (fun h37 m37 q37 TE => ?_)
      have f37 : Fr S m [1732, 1733] _ _ := Fr.mk ok m37 (fun ζ q => q.elim ((fun ζ e => Or.inl e) ζ) ((fun ζ e => Or.inr ⟨1732, by decide, e ▸ U_refl⟩) ζ)) q37 (by decide)
      have ok37 := f37.ok
      have FR37 := Fr.le (F := [1732, 1733]) f37 (by decide)
      have NF := DfC.r (f := 1664) f37 hm (by decide) NF
      have NM := NM.r f37 hm
      have RE := RE.r f37 hm
      refine w_aload_n d306_40 rfl ?_
      refine w_aload_n d306_41 rfl ?_
      refine w_dloadS d306_42 (ok37.kd hm) (fr1673 ok37 hm) ?_
      refine w_iload_n d306_45 rfl ?_
      refine w_ialoadV (x := ((ra t - 5 : Nat) : Int)) d306_46 (gi1673 ok37 hm (by omega)) ((RE t ht14).2.2.2 r5).2 ?_
      refine w_callv2 d306_47 (by omega) rfl (ok37.kd hm) (by simp) (Nat.le_of_ble_eq_true rfl) ?_
      refine k_M_number (n := 9) ok37 (by omega) hm (by omega) TE (by omega) (by decide) (fun h47 m47 q47 TE => ?_)
      have f47 : Fr S m [1732, 1733] _ _ := Fr.mk ok37 m47 (fun ζ q => q.elim ((fun ζ e => Or.inl e) ζ) ((fun ζ e => Or.inr ⟨1732, by decide, e ▸ U_refl⟩) ζ)) q47 (by decide)
      have ok47 := f47.ok
      have FR47 := Fr.tr (F := [1732, 1733]) FR37 f47 (by decide) (by decide)
      have NF := DfC.r (f := 1664) f47 hm (by decide) NF
      have NM := NM.r f47 hm
      have RE := RE.r f47 hm
      rw [← addBs_app] at TE
      refine w_goto d306_50 ?_
      refine w_return d306_103 ?_
      exact kk h47 FR47 TE
  · have rt : reaTxt ra (tix P0.2.2 n) = txt 10 := if_neg (by omega)
    rw [rt] at kk
    refine w_iconst d306_17 (by decide) ?_
    refine w_goto d306_18 ?_
    refine w_istore2 d306_27 rfl ?_
    refine w_iload_n d306_28 rfl ?_
    refine w_iconst d306_29 (by decide) ?_
    refine w_icmpne d306_30 (fun c30 => ?_) (fun c30 => ?_)
    · refine w_aload_n d306_53 rfl ?_
      refine w_iload_n d306_54 rfl ?_
      refine w_ifne d306_55 (fun c55 => ?_) (fun c55 => ?_)
      · omega
      · obtain ⟨g58, v58, s58⟩ := tg.al ok 10 (by decide)
        refine w_getstaticS d306_58 v58 ?_
        refine w_goto d306_61 ?_
        refine w_callv2 d306_100 (by omega) rfl (ok.kd hm) (by simp) (Nat.le_of_ble_eq_true rfl) ?_
        refine k_M_say ok (by omega) hm TE s58 (fun h100 m100 q100 TE => ?_)
        have f100 : Fr S m [1732, 1733] _ _ := Fr.mk ok m100 (fun ζ q => q.elim ((fun ζ e => Or.inl e) ζ) ((fun ζ e => Or.inr ⟨1732, by decide, e ▸ U_refl⟩) ζ)) q100 (by decide)
        have ok100 := f100.ok
        have FR100 := Fr.le (F := [1732, 1733]) f100 (by decide)
        have NF := DfC.r (f := 1664) f100 hm (by decide) NF
        have NM := NM.r f100 hm
        have RE := RE.r f100 hm
        refine w_return d306_103 ?_
        exact kk h100 FR100 TE
    · omega
theorem d298_0 : dc 298 0 = some (.aload_n 0, 1) := by decide +kernel
theorem d298_1 : dc 298 1 = some (.aload_n 0, 2) := by decide +kernel
theorem d298_2 : dc 298 2 = some (.dload 1676, 5) := by decide +kernel
theorem d298_5 : dc 298 5 = some (.iconst 3, 6) := by decide +kernel
theorem d298_6 : dc 298 6 = some (.iload_n 1, 7) := by decide +kernel
theorem d298_7 : dc 298 7 = some (.imul, 8) := by decide +kernel
theorem d298_8 : dc 298 8 = some (.iaload, 9) := by decide +kernel
theorem d298_9 : dc 298 9 = some (.invokevirtual 219, 12) := by decide +kernel
theorem d298_12 : dc 298 12 = some (.aload_n 0, 13) := by decide +kernel
theorem d298_13 : dc 298 13 = some (.bipush 46, 15) := by decide +kernel
theorem d298_15 : dc 298 15 = some (.invokevirtual 218, 18) := by decide +kernel
theorem d298_18 : dc 298 18 = some (.aload_n 0, 19) := by decide +kernel
theorem d298_19 : dc 298 19 = some (.aload_n 0, 20) := by decide +kernel
theorem d298_20 : dc 298 20 = some (.dload 1676, 23) := by decide +kernel
theorem d298_23 : dc 298 23 = some (.iconst 3, 24) := by decide +kernel
theorem d298_24 : dc 298 24 = some (.iload_n 1, 25) := by decide +kernel
theorem d298_25 : dc 298 25 = some (.imul, 26) := by decide +kernel
theorem d298_26 : dc 298 26 = some (.iconst 1, 27) := by decide +kernel
theorem d298_27 : dc 298 27 = some (.iadd, 28) := by decide +kernel
theorem d298_28 : dc 298 28 = some (.iaload, 29) := by decide +kernel
theorem d298_29 : dc 298 29 = some (.invokevirtual 219, 32) := by decide +kernel
theorem d298_32 : dc 298 32 = some (.aload_n 0, 33) := by decide +kernel
theorem d298_33 : dc 298 33 = some (.bipush 46, 35) := by decide +kernel
theorem d298_35 : dc 298 35 = some (.invokevirtual 218, 38) := by decide +kernel
theorem d298_38 : dc 298 38 = some (.aload_n 0, 39) := by decide +kernel
theorem d298_39 : dc 298 39 = some (.aload_n 0, 40) := by decide +kernel
theorem d298_40 : dc 298 40 = some (.dload 1676, 43) := by decide +kernel
theorem d298_43 : dc 298 43 = some (.iconst 3, 44) := by decide +kernel
theorem d298_44 : dc 298 44 = some (.iload_n 1, 45) := by decide +kernel
theorem d298_45 : dc 298 45 = some (.imul, 46) := by decide +kernel
theorem d298_46 : dc 298 46 = some (.iconst 2, 47) := by decide +kernel
theorem d298_47 : dc 298 47 = some (.iadd, 48) := by decide +kernel
theorem d298_48 : dc 298 48 = some (.iaload, 49) := by decide +kernel
theorem d298_49 : dc 298 49 = some (.invokevirtual 219, 52) := by decide +kernel
theorem d298_52 : dc 298 52 = some (.return_, 53) := by decide +kernel
theorem k_M_sayEdition {S : Shp} {G : Nat → Option Nat} {d : Nat} {h : Hp} {Q : Option MV → Hp → Prop} {m : Nat} {t : Nat} {la : List Nat} {re : Nat → Bool} {ed : Nat → Nat → Nat} (ok : Ok S h) (h1 : 12 ≤ d) (hm : sK S m = 14) (TE : TeR S h m la) (ED : EdR S h m re ed) (ht : t < 14) (hb : ∀ i, i < 3 → ed t i < 10000000000)
    (kk : ∀ h', Fr S m [1732, 1733] h h' → TeR S h' m (addBs 20000 la (ediTxt (ed t) 3)) → Q none h') : Cl G d 298 [vR (some m), vI (t : Nat)] h Q := by
  show Wp G d 298 0 [some (vR (some m)), some (vI (t : Nat))] [] h Q
  have TE_0 := TE
  have ED_0 := ED
  refine w_aload_n d298_0 rfl ?_
  refine w_aload_n d298_1 rfl ?_
  refine w_dloadS d298_2 (ok.kd hm) (fr1676 ok hm) ?_
  refine w_iconst d298_5 (by decide) ?_
  refine w_iload_n d298_6 rfl ?_
  refine w_imul d298_7 (by constructor <;> omega) ?_
  rw [show (3 : Int) * ((t : Nat) : Int) = ((3 * t : Nat) : Int) by omega]
  refine w_ialoadV (x := ((ed t 0 : Nat) : Int)) d298_8 (gi1676 ok hm (by omega)) ((ED t ht).2 0 (by decide)) ?_
  refine w_callv2 d298_9 (by omega) rfl (ok.kd hm) (by simp) (Nat.le_of_ble_eq_true rfl) ?_
  refine k_M_number (n := 9) ok (by omega) hm (by omega) TE (hb 0 (by decide)) (by decide) (fun h9 m9 q9 TE => ?_)
  have f9 : Fr S m [1732, 1733] _ _ := Fr.mk ok m9 (fun ζ q => q.elim ((fun ζ e => Or.inl e) ζ) ((fun ζ e => Or.inr ⟨1732, by decide, e ▸ U_refl⟩) ζ)) q9 (by decide)
  have ok9 := f9.ok
  have FR9 := Fr.le (F := [1732, 1733]) f9 (by decide)
  have ED := ED.r f9 hm
  refine w_aload_n d298_12 rfl ?_
  refine w_bipush d298_13 (by decide) ?_
  refine w_callv2 d298_15 (by omega) rfl (ok9.kd hm) (by simp) (Nat.le_of_ble_eq_true rfl) ?_
  refine k_M_put (c := 46) ok9 (by omega) hm TE (by omega) (fun h15 m15 q15 TE => ?_)
  have f15 : Fr S m [1732, 1733] _ _ := Fr.mk ok9 m15 (fun ζ q => q.elim ((fun ζ e => Or.inl e) ζ) ((fun ζ e => Or.inr ⟨1732, by decide, e ▸ U_refl⟩) ζ)) q15 (by decide)
  have ok15 := f15.ok
  have FR15 := Fr.tr (F := [1732, 1733]) FR9 f15 (by decide) (by decide)
  have ED := ED.r f15 hm
  refine w_aload_n d298_18 rfl ?_
  refine w_aload_n d298_19 rfl ?_
  refine w_dloadS d298_20 (ok15.kd hm) (fr1676 ok15 hm) ?_
  refine w_iconst d298_23 (by decide) ?_
  refine w_iload_n d298_24 rfl ?_
  refine w_imul d298_25 (by constructor <;> omega) ?_
  rw [show (3 : Int) * ((t : Nat) : Int) = ((3 * t : Nat) : Int) by omega]
  refine w_iconst d298_26 (by decide) ?_
  refine w_iadd d298_27 (by constructor <;> omega) ?_
  rw [show ((3 * t : Nat) : Int) + 1 = ((3 * t + 1 : Nat) : Int) by omega]
  refine w_ialoadV (x := ((ed t 1 : Nat) : Int)) d298_28 (gi1676 ok15 hm (by omega)) ((ED t ht).2 1 (by decide)) ?_
  refine w_callv2 d298_29 (by omega) rfl (ok15.kd hm) (by simp) (Nat.le_of_ble_eq_true rfl) ?_
  refine k_M_number (n := 9) ok15 (by omega) hm (by omega) TE (hb 1 (by decide)) (by decide) (fun h29 m29 q29 TE => ?_)
  have f29 : Fr S m [1732, 1733] _ _ := Fr.mk ok15 m29 (fun ζ q => q.elim ((fun ζ e => Or.inl e) ζ) ((fun ζ e => Or.inr ⟨1732, by decide, e ▸ U_refl⟩) ζ)) q29 (by decide)
  have ok29 := f29.ok
  have FR29 := Fr.tr (F := [1732, 1733]) FR15 f29 (by decide) (by decide)
  have ED := ED.r f29 hm
  refine w_aload_n d298_32 rfl ?_
  refine w_bipush d298_33 (by decide) ?_
  refine w_callv2 d298_35 (by omega) rfl (ok29.kd hm) (by simp) (Nat.le_of_ble_eq_true rfl) ?_
  refine k_M_put (c := 46) ok29 (by omega) hm TE (by omega) (fun h35 m35 q35 TE => ?_)
  have f35 : Fr S m [1732, 1733] _ _ := Fr.mk ok29 m35 (fun ζ q => q.elim ((fun ζ e => Or.inl e) ζ) ((fun ζ e => Or.inr ⟨1732, by decide, e ▸ U_refl⟩) ζ)) q35 (by decide)
  have ok35 := f35.ok
  have FR35 := Fr.tr (F := [1732, 1733]) FR29 f35 (by decide) (by decide)
  have ED := ED.r f35 hm
  refine w_aload_n d298_38 rfl ?_
  refine w_aload_n d298_39 rfl ?_
  refine w_dloadS d298_40 (ok35.kd hm) (fr1676 ok35 hm) ?_
  refine w_iconst d298_43 (by decide) ?_
  refine w_iload_n d298_44 rfl ?_
  refine w_imul d298_45 (by constructor <;> omega) ?_
  rw [show (3 : Int) * ((t : Nat) : Int) = ((3 * t : Nat) : Int) by omega]
  refine w_iconst d298_46 (by decide) ?_
  refine w_iadd d298_47 (by constructor <;> omega) ?_
  rw [show ((3 * t : Nat) : Int) + 2 = ((3 * t + 2 : Nat) : Int) by omega]
  refine w_ialoadV (x := ((ed t 2 : Nat) : Int)) d298_48 (gi1676 ok35 hm (by omega)) ((ED t ht).2 2 (by decide)) ?_
  refine w_callv2 d298_49 (by omega) rfl (ok35.kd hm) (by simp) (Nat.le_of_ble_eq_true rfl) ?_
  refine k_M_number (n := 9) ok35 (by omega) hm (by omega) TE (hb 2 (by decide)) (by decide) (fun h49 m49 q49 TE => ?_)
  have f49 : Fr S m [1732, 1733] _ _ := Fr.mk ok35 m49 (fun ζ q => q.elim ((fun ζ e => Or.inl e) ζ) ((fun ζ e => Or.inr ⟨1732, by decide, e ▸ U_refl⟩) ζ)) q49 (by decide)
  have ok49 := f49.ok
  have FR49 := Fr.tr (F := [1732, 1733]) FR35 f49 (by decide) (by decide)
  have ED := ED.r f49 hm
  refine w_return d298_52 ?_
  simp only [← addBs_app] at TE
  have e : ediTxt (ed t) 3 = dec (ed t 0) ++ [46] ++ dec (ed t 1) ++ [46] ++ dec (ed t 2) := by simp [ediTxt]
  rw [e] at kk
  exact kk h49 FR49 (by simpa only [List.append_assoc] using TE)
theorem d292_0 : dc 292 0 = some (.aload_n 0, 1) := by decide +kernel
theorem d292_1 : dc 292 1 = some (.getstatic 57, 4) := by decide +kernel
theorem d292_4 : dc 292 4 = some (.invokevirtual 217, 7) := by decide +kernel
theorem d292_7 : dc 292 7 = some (.aload_n 0, 8) := by decide +kernel
theorem d292_8 : dc 292 8 = some (.aload_n 1, 9) := by decide +kernel
theorem d292_9 : dc 292 9 = some (.iload_n 2, 10) := by decide +kernel
theorem d292_10 : dc 292 10 = some (.invokevirtual 293, 13) := by decide +kernel
theorem d292_13 : dc 292 13 = some (.aload_n 0, 14) := by decide +kernel
theorem d292_14 : dc 292 14 = some (.getstatic 58, 17) := by decide +kernel
theorem d292_17 : dc 292 17 = some (.invokevirtual 217, 20) := by decide +kernel
theorem d292_20 : dc 292 20 = some (.aload_n 0, 21) := by decide +kernel
theorem d292_21 : dc 292 21 = some (.aload_n 3, 22) := by decide +kernel
theorem d292_22 : dc 292 22 = some (.dload 1540, 25) := by decide +kernel
theorem d292_25 : dc 292 25 = some (.iconst 0, 26) := by decide +kernel
theorem d292_26 : dc 292 26 = some (.aload_n 3, 27) := by decide +kernel
theorem d292_27 : dc 292 27 = some (.getfield 1541, 30) := by decide +kernel
theorem d292_30 : dc 292 30 = some (.invokevirtual 294, 33) := by decide +kernel
theorem d292_33 : dc 292 33 = some (.return_, 34) := by decide +kernel
theorem k_M_sayFailed {S : Shp} {G : Nat → Option Nat} {d : Nat} {h : Hp} {Q : Option MV → Hp → Prop} {m : Nat} {t : Nat} {o_ : Nat} {fd g j : Nat} {P0 : PlV} {la : List Nat} {x : OmV} (ok : Ok S h) (h1 : 12 ≤ d) (hm : sK S m = 14) (TE : TeR S h m la) (DP : DfC S h (sT S fd m) P0) (tg : Tg S G) (hfd : fd = 1664 ∨ fd = 1665) (ht : t < P0.2.2.length) (hcl : cln (tgN (tD P0.2.2 t))) (hg : g = 1667 ∨ g = 1675 ∨ g = 1668 ∨ g = 1669) (hj : j < 14) (ho : o_ = sE S (sT S g m) j) (OX : OmC S h o_ x)
    (kk : ∀ h', Fr S m [1732, 1733] h h' → TeR S h' m (addBs 20000 la (txt 7 ++ (tgN (tD P0.2.2 t) ++ (txt 8 ++ x.2.2.map told)))) → Q none h') : Cl G d 292 [vR (some m), vR (some (sT S fd m)), vI (t : Nat), vR (some o_)] h Q := by
  show Wp G d 292 0 [some (vR (some m)), some (vR (some (sT S fd m))), some (vI (t : Nat)), some (vR (some o_))] [] h Q
  have TE_0 := TE
  have DP_0 := DP
  subst ho
  have hk := (otA ok hm hg hj).2.2.1
  have g4 := (otA ok hm hg hj).2.2.2
  have ng : g ∉ [1732, 1733] := by rcases hg with rfl | rfl | rfl | rfl <;> decide
  have oxr : ∀ g2, Fr S m [1732, 1733] h g2 → OmC S g2 (sE S (sT S g m) j) x := fun g2 fr => OX.u fr.1 fr.mo hk (fun y u => fr.no g4 ng (by decide) (U_trans (fr.1.so.uE (by omega) U_refl) u))
  have nb : sT S 1540 (sE S (sT S g m) j) ≠ m ∧ sT S 1540 (sE S (sT S g m) j) ≠ sT S 1732 m := ⟨fun z => by
    have := ok.so.ltT (f := 1540) (a := sE S (sT S g m) j) (by decide)
    have := ok.so.ltE (b := sT S g m) (j := j) (by omega)
    have := ok.so.ltT (f := g) (a := m) g4
    omega, fun z => absurd ((ok.so.inj (by decide) (by decide)).mp z).1 (by decide)⟩
  refine w_aload_n d292_0 rfl ?_
  obtain ⟨g1, v1, s1⟩ := tg.al ok 7 (by decide)
  refine w_getstaticS d292_1 v1 ?_
  refine w_callv2 d292_4 (by omega) rfl (ok.kd hm) (by simp) (Nat.le_of_ble_eq_true rfl) ?_
  refine k_M_say ok (by omega) hm TE s1 (fun h4 m4 q4 TE => ?_)
  have f4 : Fr S m [1732, 1733] _ _ := Fr.mk ok m4 (fun ζ q => q.elim ((fun ζ e => Or.inl e) ζ) ((fun ζ e => Or.inr ⟨1732, by decide, e ▸ U_refl⟩) ζ)) q4 (by decide)
  have ok4 := f4.ok
  have FR4 := Fr.le (F := [1732, 1733]) f4 (by decide)
  have DP := DfC.r (f := fd) f4 hm (by rcases hfd with rfl | rfl <;> decide) DP
  refine w_aload_n d292_7 rfl ?_
  refine w_aload_n d292_8 rfl ?_
  refine w_iload_n d292_9 rfl ?_
  refine w_callv3 d292_10 (by omega) rfl (ok4.kd hm) (by simp) (Nat.le_of_ble_eq_true rfl) ?_
  refine k_M_sayName ok4 (by omega) hm TE DP hfd ht hcl (fun h10 f10 TE => ?_)
  have ok10 := f10.ok
  have FR10 := Fr.tr (F := [1732, 1733]) FR4 f10 (by decide) (by decide)
  have DP := DfC.r (f := fd) f10 hm (by rcases hfd with rfl | rfl <;> decide) DP
  refine w_aload_n d292_13 rfl ?_
  obtain ⟨g14, v14, s14⟩ := tg.al ok10 8 (by decide)
  refine w_getstaticS d292_14 v14 ?_
  refine w_callv2 d292_17 (by omega) rfl (ok10.kd hm) (by simp) (Nat.le_of_ble_eq_true rfl) ?_
  refine k_M_say ok10 (by omega) hm TE s14 (fun h17 m17 q17 TE => ?_)
  have f17 : Fr S m [1732, 1733] _ _ := Fr.mk ok10 m17 (fun ζ q => q.elim ((fun ζ e => Or.inl e) ζ) ((fun ζ e => Or.inr ⟨1732, by decide, e ▸ U_refl⟩) ζ)) q17 (by decide)
  have ok17 := f17.ok
  have FR17 := Fr.tr (F := [1732, 1733]) FR10 f17 (by decide) (by decide)
  have DP := DfC.r (f := fd) f17 hm (by rcases hfd with rfl | rfl <;> decide) DP
  refine w_aload_n d292_20 rfl ?_
  refine w_aload_n d292_21 rfl ?_
  refine w_dloadS d292_22 (ok17.kd hk) (fr1540 ok17 hk) ?_
  refine w_iconst d292_25 (by decide) ?_
  refine w_aload_n d292_26 rfl ?_
  refine w_getI (x := ((x.2.2.length : Nat) : Int)) d292_27 (ok17.kd hk) (oxr _ FR17).2.2.1 ?_
  refine w_callv4 d292_30 (by omega) rfl (ok17.kd hm) (by simp) (Nat.le_of_ble_eq_true rfl) ?_
  refine k_M_sayBytes (f := 0) ok17 (by omega) hm TE rfl (oxr _ FR17).2.2.2.2.2 nb (SgC.le (oxr _ FR17).2.2.2.2.2 (fun i => (ra1540 ok17 hk i).2)) (fun h30 m30 q30 TE => ?_)
  have f30 : Fr S m [1732, 1733] _ _ := Fr.mk ok17 m30 (fun ζ q => q.elim ((fun ζ e => Or.inl e) ζ) ((fun ζ e => Or.inr ⟨1732, by decide, e ▸ U_refl⟩) ζ)) q30 (by decide)
  have ok30 := f30.ok
  have FR30 := Fr.tr (F := [1732, 1733]) FR17 f30 (by decide) (by decide)
  have DP := DfC.r (f := fd) f30 hm (by rcases hfd with rfl | rfl <;> decide) DP
  refine w_return d292_33 ?_
  simp only [← addBs_app] at TE
  exact kk h30 FR30 (by simpa only [List.append_assoc] using TE)
theorem d297_0 : dc 297 0 = some (.iconst 0, 1) := by decide +kernel
theorem d297_1 : dc 297 1 = some (.istore 4, 3) := by decide +kernel
theorem d297_3 : dc 297 3 = some (.iload 4, 5) := by decide +kernel
theorem d297_5 : dc 297 5 = some (.aload_n 0, 6) := by decide +kernel
theorem d297_6 : dc 297 6 = some (.getfield 1539, 9) := by decide +kernel
theorem d297_9 : dc 297 9 = some (.if_icmp .ge ((79 : Nat) : Int), 12) := by decide +kernel
theorem d297_12 : dc 297 12 = some (.iload 4, 14) := by decide +kernel
theorem d297_14 : dc 297 14 = some (.istore 5, 16) := by decide +kernel
theorem d297_16 : dc 297 16 = some (.iload 5, 18) := by decide +kernel
theorem d297_18 : dc 297 18 = some (.aload_n 0, 19) := by decide +kernel
theorem d297_19 : dc 297 19 = some (.getfield 1539, 22) := by decide +kernel
theorem d297_22 : dc 297 22 = some (.if_icmp .ge ((43 : Nat) : Int), 25) := by decide +kernel
theorem d297_25 : dc 297 25 = some (.aload_n 0, 26) := by decide +kernel
theorem d297_26 : dc 297 26 = some (.dload 1538, 29) := by decide +kernel
theorem d297_29 : dc 297 29 = some (.iload 5, 31) := by decide +kernel
theorem d297_31 : dc 297 31 = some (.iaload, 32) := by decide +kernel
theorem d297_32 : dc 297 32 = some (.bipush 10, 34) := by decide +kernel
theorem d297_34 : dc 297 34 = some (.if_icmp .eq ((43 : Nat) : Int), 37) := by decide +kernel
theorem d297_37 : dc 297 37 = some (.iinc 5 1, 40) := by decide +kernel
theorem d297_40 : dc 297 40 = some (.goto ((16 : Nat) : Int), 43) := by decide +kernel
theorem d297_43 : dc 297 43 = some (.aload_n 1, 44) := by decide +kernel
theorem d297_44 : dc 297 44 = some (.dload 1538, 47) := by decide +kernel
theorem d297_47 : dc 297 47 = some (.iload_n 2, 48) := by decide +kernel
theorem d297_48 : dc 297 48 = some (.iload_n 3, 49) := by decide +kernel
theorem d297_49 : dc 297 49 = some (.iload_n 2, 50) := by decide +kernel
theorem d297_50 : dc 297 50 = some (.isub, 51) := by decide +kernel
theorem d297_51 : dc 297 51 = some (.aload_n 0, 52) := by decide +kernel
theorem d297_52 : dc 297 52 = some (.dload 1538, 55) := by decide +kernel
theorem d297_55 : dc 297 55 = some (.iload 4, 57) := by decide +kernel
theorem d297_57 : dc 297 57 = some (.iload 5, 59) := by decide +kernel
theorem d297_59 : dc 297 59 = some (.iload 4, 61) := by decide +kernel
theorem d297_61 : dc 297 61 = some (.isub, 62) := by decide +kernel
theorem d297_62 : dc 297 62 = some (.invokevirtual 224, 65) := by decide +kernel
theorem d297_65 : dc 297 65 = some (.ifCond .eq ((70 : Nat) : Int), 68) := by decide +kernel
theorem d297_68 : dc 297 68 = some (.iconst 1, 69) := by decide +kernel
theorem d297_69 : dc 297 69 = some (.freturn, 70) := by decide +kernel
theorem d297_70 : dc 297 70 = some (.iload 5, 72) := by decide +kernel
theorem d297_72 : dc 297 72 = some (.iconst 1, 73) := by decide +kernel
theorem d297_73 : dc 297 73 = some (.iadd, 74) := by decide +kernel
theorem d297_74 : dc 297 74 = some (.istore 4, 76) := by decide +kernel
theorem d297_76 : dc 297 76 = some (.goto ((3 : Nat) : Int), 79) := by decide +kernel
theorem d297_79 : dc 297 79 = some (.iconst 0, 80) := by decide +kernel
theorem d297_80 : dc 297 80 = some (.freturn, 81) := by decide +kernel
theorem k_M_hasLine {S : Shp} {G : Nat → Option Nat} {d : Nat} {h : Hp} {Q : Option MV → Hp → Prop} {o : Nat} {y : Nat} {f : Nat} {e : Nat} {x z : OmV} (ok : Ok S h) (h1 : 1 ≤ d) (ho : sK S o = 13) (hy : sK S y = 13)  (OX : OmC S h o x) (OZ : OmC S h y z) (he : f ≤ e ∧ e ≤ z.2.1.length)
    (kk : Q (some (vI (b2i (decide (sl z.2.1 f e ∈ lns x.2.1))))) h) : Cl G d 297 [vR (some o), vR (some y), vI (f : Nat), vI (e : Nat)] h Q := by
  show Wp G d 297 0 [some (vR (some o)), some (vR (some y)), some (vI (f : Nat)), some (vI (e : Nat)), none, none] [] h Q
  have lx := OX.le ok ho
  have lz := OZ.le ok hy
  have sf := sl_len he
  refine w_iconst d297_0 (by decide) ?_
  refine w_istore4 d297_1 rfl ?_
  have L3 : ∀ (m3 : Nat) (i : Nat), x.2.1.length + 1 - i = m3 → (i ≤ x.2.1.length + 1) → (sl z.2.1 f e ∈ lns x.2.1 ↔ sl z.2.1 f e ∈ lns (x.2.1.drop i)) → Wp G d 297 3 [some (vR (some o)), some (vR (some y)), some (vI (f : Nat)), some (vI (e : Nat)), some (vI (i : Nat)), none] [] h Q := by
    intro m3
    induction m3 using Nat.strongRecOn with | ind m3 IH3 => ?_
    intro i hm3 il hp
    refine w_iload d297_3 rfl ?_
    refine w_aload_n d297_5 rfl ?_
    refine w_getI (x := ((x.2.1.length : Nat) : Int)) d297_6 (ok.kd ho) OX.2.1 ?_
    refine w_icmpge d297_9 (fun c9 => ?_) (fun c9 => ?_)
    · rw [lns_end (by omega)] at hp
      have e0 : b2i (decide (sl z.2.1 f e ∈ lns x.2.1)) = 0 := b2i_decN (fun q => absurd (hp.mp q) List.not_mem_nil)
      rw [e0] at kk
      refine w_iconst d297_79 (by decide) ?_
      refine w_zreturn d297_80 (by decide) ?_
      exact kk
    · have hi : i < x.2.1.length := by omega
      have lg := lineE_ge x.2.1 i
      have lle := lineE_le (l := x.2.1) (i := i) (by omega)
      refine w_iload d297_12 rfl ?_
      refine w_istore5 d297_14 rfl ?_
      have L16 : ∀ (m16 : Nat) (c : Nat), x.2.1.length - c = m16 → (i ≤ c ∧ c ≤ x.2.1.length) → (lineE x.2.1 c = lineE x.2.1 i) → Wp G d 297 16 [some (vR (some o)), some (vR (some y)), some (vI (f : Nat)), some (vI (e : Nat)), some (vI (i : Nat)), some (vI (c : Nat))] [] h Q := by
        intro m16
        induction m16 using Nat.strongRecOn with | ind m16 IH16 => ?_
        intro c hm16 cl ce
        refine w_iload d297_16 rfl ?_
        refine w_aload_n d297_18 rfl ?_
        refine w_getI (x := ((x.2.1.length : Nat) : Int)) d297_19 (ok.kd ho) OX.2.1 ?_
        refine w_icmpge d297_22 (fun c22 => ?_) (fun c22 => ?_)
        · have ee : lineE x.2.1 i = c := by rw [← ce]; exact lineE_stop (Or.inl (by omega))
          refine w_aload_n d297_43 rfl ?_
          refine w_dloadS d297_44 (ok.kd hy) (fr1538 ok hy) ?_
          refine w_iload_n d297_47 rfl ?_
          refine w_iload_n d297_48 rfl ?_
          refine w_iload_n d297_49 rfl ?_
          refine w_isub d297_50 (by constructor <;> omega) ?_
          rw [show ((e : Nat) : Int) - ((f : Nat) : Int) = ((e - f : Nat) : Int) by omega]
          refine w_aload_n d297_51 rfl ?_
          refine w_dloadS d297_52 (ok.kd ho) (fr1538 ok ho) ?_
          refine w_iload d297_55 rfl ?_
          refine w_iload d297_57 rfl ?_
          refine w_iload d297_59 rfl ?_
          refine w_isub d297_61 (by constructor <;> omega) ?_
          rw [show ((c : Nat) : Int) - ((i : Nat) : Int) = ((c - i : Nat) : Int) by omega]
          have sc := sl_len (l := x.2.1) (f := i) (e := c) ⟨by omega, by omega⟩
          refine w_calls6 d297_62 (by omega) rfl rfl (by simp) (Nat.le_of_ble_eq_true rfl) ?_
          refine k_D_isSame ok (by omega) sf.symm sc.symm (OZ.2.2.2.2.1.sub he) (OX.2.2.2.2.1.sub ⟨by omega, by omega⟩) ?_
          refine w_ifeq d297_65 (fun c65 => ?_) (fun c65 => ?_)
          · have nq : ¬ sl z.2.1 f e = sl x.2.1 i c := fun q => by rw [decide_eq_true q] at c65; exact absurd c65 (by decide)
            rw [lns_mem hi, ee] at hp
            have hp2 : sl z.2.1 f e ∈ lns x.2.1 ↔ sl z.2.1 f e ∈ lns (x.2.1.drop (c + 1)) := hp.trans ⟨fun q => q.resolve_left nq, Or.inr⟩
            refine w_iload d297_70 rfl ?_
            refine w_iconst d297_72 (by decide) ?_
            refine w_iadd d297_73 (by constructor <;> omega) ?_
            refine w_istore4 d297_74 rfl ?_
            refine w_goto d297_76 ?_
            rw [show ((c : Nat) : Int) + 1 = ((c + 1 : Nat) : Int) by omega]
            refine w_less ?_ (IH3 _ (by omega) (c + 1) rfl (by omega) hp2)
            exact ⟨Or.inr rfl, Or.inr rfl, Or.inr rfl, Or.inr rfl, Or.inr rfl, Or.inl rfl, trivial⟩
          · have yq : sl z.2.1 f e = sl x.2.1 i c := by
              by_cases q : sl z.2.1 f e = sl x.2.1 i c
              · exact q
              · rw [decide_eq_false q] at c65; exact absurd rfl c65
            rw [lns_mem hi, ee] at hp
            have e0 : b2i (decide (sl z.2.1 f e ∈ lns x.2.1)) = 1 := b2i_dec (hp.mpr (Or.inl yq))
            rw [e0] at kk
            refine w_iconst d297_68 (by decide) ?_
            refine w_zreturn d297_69 (by decide) ?_
            exact kk
        · refine w_aload_n d297_25 rfl ?_
          refine w_dloadS d297_26 (ok.kd ho) (fr1538 ok ho) ?_
          refine w_iload d297_29 rfl ?_
          refine w_ialoadV (x := ((x.2.1.getD c 0 : Nat) : Int)) d297_31 (gi1538 ok ho (by omega)) (OX.2.2.2.2.1.at0 (by omega)) ?_
          refine w_bipush d297_32 (by decide) ?_
          refine w_icmpeq d297_34 (fun c34 => ?_) (fun c34 => ?_)
          · have ee : lineE x.2.1 i = c := by rw [← ce]; exact lineE_stop (Or.inr (by omega))
            refine w_aload_n d297_43 rfl ?_
            refine w_dloadS d297_44 (ok.kd hy) (fr1538 ok hy) ?_
            refine w_iload_n d297_47 rfl ?_
            refine w_iload_n d297_48 rfl ?_
            refine w_iload_n d297_49 rfl ?_
            refine w_isub d297_50 (by constructor <;> omega) ?_
            rw [show ((e : Nat) : Int) - ((f : Nat) : Int) = ((e - f : Nat) : Int) by omega]
            refine w_aload_n d297_51 rfl ?_
            refine w_dloadS d297_52 (ok.kd ho) (fr1538 ok ho) ?_
            refine w_iload d297_55 rfl ?_
            refine w_iload d297_57 rfl ?_
            refine w_iload d297_59 rfl ?_
            refine w_isub d297_61 (by constructor <;> omega) ?_
            rw [show ((c : Nat) : Int) - ((i : Nat) : Int) = ((c - i : Nat) : Int) by omega]
            have sc := sl_len (l := x.2.1) (f := i) (e := c) ⟨by omega, by omega⟩
            refine w_calls6 d297_62 (by omega) rfl rfl (by simp) (Nat.le_of_ble_eq_true rfl) ?_
            refine k_D_isSame ok (by omega) sf.symm sc.symm (OZ.2.2.2.2.1.sub he) (OX.2.2.2.2.1.sub ⟨by omega, by omega⟩) ?_
            refine w_ifeq d297_65 (fun c65 => ?_) (fun c65 => ?_)
            · have nq : ¬ sl z.2.1 f e = sl x.2.1 i c := fun q => by rw [decide_eq_true q] at c65; exact absurd c65 (by decide)
              rw [lns_mem hi, ee] at hp
              have hp2 : sl z.2.1 f e ∈ lns x.2.1 ↔ sl z.2.1 f e ∈ lns (x.2.1.drop (c + 1)) := hp.trans ⟨fun q => q.resolve_left nq, Or.inr⟩
              refine w_iload d297_70 rfl ?_
              refine w_iconst d297_72 (by decide) ?_
              refine w_iadd d297_73 (by constructor <;> omega) ?_
              refine w_istore4 d297_74 rfl ?_
              refine w_goto d297_76 ?_
              rw [show ((c : Nat) : Int) + 1 = ((c + 1 : Nat) : Int) by omega]
              refine w_less ?_ (IH3 _ (by omega) (c + 1) rfl (by omega) hp2)
              exact ⟨Or.inr rfl, Or.inr rfl, Or.inr rfl, Or.inr rfl, Or.inr rfl, Or.inl rfl, trivial⟩
            · have yq : sl z.2.1 f e = sl x.2.1 i c := by
                by_cases q : sl z.2.1 f e = sl x.2.1 i c
                · exact q
                · rw [decide_eq_false q] at c65; exact absurd rfl c65
              rw [lns_mem hi, ee] at hp
              have e0 : b2i (decide (sl z.2.1 f e ∈ lns x.2.1)) = 1 := b2i_dec (hp.mpr (Or.inl yq))
              rw [e0] at kk
              refine w_iconst d297_68 (by decide) ?_
              refine w_zreturn d297_69 (by decide) ?_
              exact kk
          · have cg := lineE_go (l := x.2.1) (i := c) (by omega) (by omega)
            refine w_iinc5 d297_37 rfl (by constructor <;> omega) ?_
            refine w_goto d297_40 ?_
            rw [show ((c : Nat) : Int) + 1 = ((c + 1 : Nat) : Int) by omega]
            refine w_less ?_ (IH16 _ (by omega) (c + 1) rfl (by omega) (by omega))
            exact ⟨Or.inr rfl, Or.inr rfl, Or.inr rfl, Or.inr rfl, Or.inr rfl, Or.inr rfl, trivial⟩
      refine w_less ?_ (L16 _ i rfl ⟨Nat.le_refl _, by omega⟩ rfl)
      exact ⟨Or.inr rfl, Or.inr rfl, Or.inr rfl, Or.inr rfl, Or.inr rfl, Or.inr rfl, trivial⟩
  refine w_less ?_ (L3 _ 0 rfl (Nat.zero_le _) (by rw [List.drop_zero]))
  exact ⟨Or.inr rfl, Or.inr rfl, Or.inr rfl, Or.inr rfl, Or.inr rfl, Or.inl rfl, trivial⟩
theorem d296_0 : dc 296 0 = some (.iconst 0, 1) := by decide +kernel
theorem d296_1 : dc 296 1 = some (.istore_n 2, 2) := by decide +kernel
theorem d296_2 : dc 296 2 = some (.iload_n 2, 3) := by decide +kernel
theorem d296_3 : dc 296 3 = some (.aload_n 0, 4) := by decide +kernel
theorem d296_4 : dc 296 4 = some (.getfield 1539, 7) := by decide +kernel
theorem d296_7 : dc 296 7 = some (.if_icmp .ge ((56 : Nat) : Int), 10) := by decide +kernel
theorem d296_10 : dc 296 10 = some (.iload_n 2, 11) := by decide +kernel
theorem d296_11 : dc 296 11 = some (.istore_n 3, 12) := by decide +kernel
theorem d296_12 : dc 296 12 = some (.iload_n 3, 13) := by decide +kernel
theorem d296_13 : dc 296 13 = some (.aload_n 0, 14) := by decide +kernel
theorem d296_14 : dc 296 14 = some (.getfield 1539, 17) := by decide +kernel
theorem d296_17 : dc 296 17 = some (.if_icmp .ge ((37 : Nat) : Int), 20) := by decide +kernel
theorem d296_20 : dc 296 20 = some (.aload_n 0, 21) := by decide +kernel
theorem d296_21 : dc 296 21 = some (.dload 1538, 24) := by decide +kernel
theorem d296_24 : dc 296 24 = some (.iload_n 3, 25) := by decide +kernel
theorem d296_25 : dc 296 25 = some (.iaload, 26) := by decide +kernel
theorem d296_26 : dc 296 26 = some (.bipush 10, 28) := by decide +kernel
theorem d296_28 : dc 296 28 = some (.if_icmp .eq ((37 : Nat) : Int), 31) := by decide +kernel
theorem d296_31 : dc 296 31 = some (.iinc 3 1, 34) := by decide +kernel
theorem d296_34 : dc 296 34 = some (.goto ((12 : Nat) : Int), 37) := by decide +kernel
theorem d296_37 : dc 296 37 = some (.aload_n 1, 38) := by decide +kernel
theorem d296_38 : dc 296 38 = some (.aload_n 0, 39) := by decide +kernel
theorem d296_39 : dc 296 39 = some (.iload_n 2, 40) := by decide +kernel
theorem d296_40 : dc 296 40 = some (.iload_n 3, 41) := by decide +kernel
theorem d296_41 : dc 296 41 = some (.invokevirtual 297, 44) := by decide +kernel
theorem d296_44 : dc 296 44 = some (.ifCond .ne ((49 : Nat) : Int), 47) := by decide +kernel
theorem d296_47 : dc 296 47 = some (.iconst 0, 48) := by decide +kernel
theorem d296_48 : dc 296 48 = some (.freturn, 49) := by decide +kernel
theorem d296_49 : dc 296 49 = some (.iload_n 3, 50) := by decide +kernel
theorem d296_50 : dc 296 50 = some (.iconst 1, 51) := by decide +kernel
theorem d296_51 : dc 296 51 = some (.iadd, 52) := by decide +kernel
theorem d296_52 : dc 296 52 = some (.istore_n 2, 53) := by decide +kernel
theorem d296_53 : dc 296 53 = some (.goto ((2 : Nat) : Int), 56) := by decide +kernel
theorem d296_56 : dc 296 56 = some (.iconst 1, 57) := by decide +kernel
theorem d296_57 : dc 296 57 = some (.freturn, 58) := by decide +kernel
theorem k_M_hasAll {S : Shp} {G : Nat → Option Nat} {d : Nat} {h : Hp} {Q : Option MV → Hp → Prop} {o : Nat} {y : Nat} {x z : OmV} (ok : Ok S h) (h1 : 3 ≤ d) (ho : sK S o = 13) (hy : sK S y = 13)  (OX : OmC S h o x) (OZ : OmC S h y z)
    (kk : Q (some (vI (b2i (decide (∀ t ∈ lns x.2.1, t ∈ lns z.2.1))))) h) : Cl G d 296 [vR (some o), vR (some y)] h Q := by
  show Wp G d 296 0 [some (vR (some o)), some (vR (some y)), none, none] [] h Q
  have lx := OX.le ok ho
  have lz := OZ.le ok hy
  refine w_iconst d296_0 (by decide) ?_
  refine w_istore2 d296_1 rfl ?_
  have L2 : ∀ (m2 : Nat) (i : Nat), x.2.1.length + 1 - i = m2 → (i ≤ x.2.1.length + 1) → ((∀ t ∈ lns x.2.1, t ∈ lns z.2.1) ↔ ∀ t ∈ lns (x.2.1.drop i), t ∈ lns z.2.1) → Wp G d 296 2 [some (vR (some o)), some (vR (some y)), some (vI (i : Nat)), none] [] h Q := by
    intro m2
    induction m2 using Nat.strongRecOn with | ind m2 IH2 => ?_
    intro i hm2 il hp
    refine w_iload_n d296_2 rfl ?_
    refine w_aload_n d296_3 rfl ?_
    refine w_getI (x := ((x.2.1.length : Nat) : Int)) d296_4 (ok.kd ho) OX.2.1 ?_
    refine w_icmpge d296_7 (fun c7 => ?_) (fun c7 => ?_)
    · rw [lns_end (by omega)] at hp
      have e0 : b2i (decide (∀ t ∈ lns x.2.1, t ∈ lns z.2.1)) = 1 := b2i_dec (hp.mpr (fun t ht => absurd ht List.not_mem_nil))
      rw [e0] at kk
      refine w_iconst d296_56 (by decide) ?_
      refine w_zreturn d296_57 (by decide) ?_
      exact kk
    · have hi : i < x.2.1.length := by omega
      have lg := lineE_ge x.2.1 i
      have lle := lineE_le (l := x.2.1) (i := i) (by omega)
      refine w_iload_n d296_10 rfl ?_
      refine w_istore3 d296_11 rfl ?_
      have L12 : ∀ (m12 : Nat) (c : Nat), x.2.1.length - c = m12 → (i ≤ c ∧ c ≤ x.2.1.length) → (lineE x.2.1 c = lineE x.2.1 i) → Wp G d 296 12 [some (vR (some o)), some (vR (some y)), some (vI (i : Nat)), some (vI (c : Nat))] [] h Q := by
        intro m12
        induction m12 using Nat.strongRecOn with | ind m12 IH12 => ?_
        intro c hm12 cl ce
        refine w_iload_n d296_12 rfl ?_
        refine w_aload_n d296_13 rfl ?_
        refine w_getI (x := ((x.2.1.length : Nat) : Int)) d296_14 (ok.kd ho) OX.2.1 ?_
        refine w_icmpge d296_17 (fun c17 => ?_) (fun c17 => ?_)
        · have ee : lineE x.2.1 i = c := by rw [← ce]; exact lineE_stop (Or.inl (by omega))
          refine w_aload_n d296_37 rfl ?_
          refine w_aload_n d296_38 rfl ?_
          refine w_iload_n d296_39 rfl ?_
          refine w_iload_n d296_40 rfl ?_
          refine w_calls4 d296_41 (by omega) rfl rfl (by simp) (Nat.le_of_ble_eq_true rfl) ?_
          refine k_M_hasLine (x := z) (z := x) ok (by omega) hy ho OZ OX ⟨by omega, by omega⟩ ?_
          refine w_ifne d296_44 (fun c44 => ?_) (fun c44 => ?_)
          · have yq : sl x.2.1 i c ∈ lns z.2.1 := by
              by_cases q : sl x.2.1 i c ∈ lns z.2.1
              · exact q
              · rw [decide_eq_false q] at c44; exact absurd rfl c44
            have hp2 : (∀ t ∈ lns x.2.1, t ∈ lns z.2.1) ↔ ∀ t ∈ lns (x.2.1.drop (c + 1)), t ∈ lns z.2.1 := hp.trans ⟨fun q t ht => q t (by rw [lns_mem hi, ee]; exact Or.inr ht), fun q t ht => by rw [lns_mem hi, ee] at ht; rcases ht with u | u; rw [u]; exact yq; exact q t u⟩
            refine w_iload_n d296_49 rfl ?_
            refine w_iconst d296_50 (by decide) ?_
            refine w_iadd d296_51 (by constructor <;> omega) ?_
            refine w_istore2 d296_52 rfl ?_
            refine w_goto d296_53 ?_
            rw [show ((c : Nat) : Int) + 1 = ((c + 1 : Nat) : Int) by omega]
            refine w_less ?_ (IH2 _ (by omega) (c + 1) rfl (by omega) hp2)
            exact ⟨Or.inr rfl, Or.inr rfl, Or.inr rfl, Or.inl rfl, trivial⟩
          · have nq : ¬ sl x.2.1 i c ∈ lns z.2.1 := fun q => by rw [decide_eq_true q] at c44; exact absurd c44 (by decide)
            have e0 : b2i (decide (∀ t ∈ lns x.2.1, t ∈ lns z.2.1)) = 0 := b2i_decN (fun q => nq (hp.mp q _ (by rw [lns_mem hi, ee]; exact Or.inl rfl)))
            rw [e0] at kk
            refine w_iconst d296_47 (by decide) ?_
            refine w_zreturn d296_48 (by decide) ?_
            exact kk
        · refine w_aload_n d296_20 rfl ?_
          refine w_dloadS d296_21 (ok.kd ho) (fr1538 ok ho) ?_
          refine w_iload_n d296_24 rfl ?_
          refine w_ialoadV (x := ((x.2.1.getD c 0 : Nat) : Int)) d296_25 (gi1538 ok ho (by omega)) (OX.2.2.2.2.1.at0 (by omega)) ?_
          refine w_bipush d296_26 (by decide) ?_
          refine w_icmpeq d296_28 (fun c28 => ?_) (fun c28 => ?_)
          · have ee : lineE x.2.1 i = c := by rw [← ce]; exact lineE_stop (Or.inr (by omega))
            refine w_aload_n d296_37 rfl ?_
            refine w_aload_n d296_38 rfl ?_
            refine w_iload_n d296_39 rfl ?_
            refine w_iload_n d296_40 rfl ?_
            refine w_calls4 d296_41 (by omega) rfl rfl (by simp) (Nat.le_of_ble_eq_true rfl) ?_
            refine k_M_hasLine (x := z) (z := x) ok (by omega) hy ho OZ OX ⟨by omega, by omega⟩ ?_
            refine w_ifne d296_44 (fun c44 => ?_) (fun c44 => ?_)
            · have yq : sl x.2.1 i c ∈ lns z.2.1 := by
                by_cases q : sl x.2.1 i c ∈ lns z.2.1
                · exact q
                · rw [decide_eq_false q] at c44; exact absurd rfl c44
              have hp2 : (∀ t ∈ lns x.2.1, t ∈ lns z.2.1) ↔ ∀ t ∈ lns (x.2.1.drop (c + 1)), t ∈ lns z.2.1 := hp.trans ⟨fun q t ht => q t (by rw [lns_mem hi, ee]; exact Or.inr ht), fun q t ht => by rw [lns_mem hi, ee] at ht; rcases ht with u | u; rw [u]; exact yq; exact q t u⟩
              refine w_iload_n d296_49 rfl ?_
              refine w_iconst d296_50 (by decide) ?_
              refine w_iadd d296_51 (by constructor <;> omega) ?_
              refine w_istore2 d296_52 rfl ?_
              refine w_goto d296_53 ?_
              rw [show ((c : Nat) : Int) + 1 = ((c + 1 : Nat) : Int) by omega]
              refine w_less ?_ (IH2 _ (by omega) (c + 1) rfl (by omega) hp2)
              exact ⟨Or.inr rfl, Or.inr rfl, Or.inr rfl, Or.inl rfl, trivial⟩
            · have nq : ¬ sl x.2.1 i c ∈ lns z.2.1 := fun q => by rw [decide_eq_true q] at c44; exact absurd c44 (by decide)
              have e0 : b2i (decide (∀ t ∈ lns x.2.1, t ∈ lns z.2.1)) = 0 := b2i_decN (fun q => nq (hp.mp q _ (by rw [lns_mem hi, ee]; exact Or.inl rfl)))
              rw [e0] at kk
              refine w_iconst d296_47 (by decide) ?_
              refine w_zreturn d296_48 (by decide) ?_
              exact kk
          · have cg := lineE_go (l := x.2.1) (i := c) (by omega) (by omega)
            refine w_iinc3 d296_31 rfl (by constructor <;> omega) ?_
            refine w_goto d296_34 ?_
            rw [show ((c : Nat) : Int) + 1 = ((c + 1 : Nat) : Int) by omega]
            refine w_less ?_ (IH12 _ (by omega) (c + 1) rfl (by omega) (by omega))
            exact ⟨Or.inr rfl, Or.inr rfl, Or.inr rfl, Or.inr rfl, trivial⟩
      refine w_less ?_ (L12 _ i rfl ⟨Nat.le_refl _, by omega⟩ rfl)
      exact ⟨Or.inr rfl, Or.inr rfl, Or.inr rfl, Or.inr rfl, trivial⟩
  refine w_less ?_ (L2 _ 0 rfl (Nat.zero_le _) (by rw [List.drop_zero]))
  exact ⟨Or.inr rfl, Or.inr rfl, Or.inr rfl, Or.inl rfl, trivial⟩
