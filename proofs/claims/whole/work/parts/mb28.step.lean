/-! the reference: a step -/
def LfI (r : RunV) : Prop := ∀ w, w < 2 → 0 ≤ rH r w → 1 ≤ rL r w
section STEPS
variable {P : PlV} {nd : Nat → Nat} {s : GoV} {w L : Nat}
theorem tk1_lf {r : RunV} {t y : Nat} {b : BeV} {sv : Int} (I : LfI r) (hs : 1 ≤ sv) : LfI (tk1 r w t b y sv) := fun j hj h => by
  show 1 ≤ up (rL r) w sv j
  change 0 ≤ up (rH r) w t j at h
  by_cases q : j = w
  · rw [q, up_at]; exact hs
  · rw [up_ne q] at h ⊢; exact I j hj h
theorem tn1_lf (I : LfI (goR s)) : LfI (goR (tn1 P nd w s)) ∧ rC (goR (tn1 P nd w s)) = rC (goR s) := by
  unfold tn1
  by_cases q : rH (goR s) w < 0 ∧ 0 ≤ cho P nd (goR s)
  · rw [if_pos q]
    show LfI (tkR P s.1 s.2.2.2.1 (goR s) w _) ∧ rC (tkR P s.1 s.2.2.2.1 (goR s) w _) = _
    unfold tkR
    by_cases a : tkA P (cho P nd (goR s)).toNat ≠ []
    · rw [if_pos a]; exact ⟨tk1_lf I (by decide), rfl⟩
    · rw [if_neg a]
      by_cases b : 0 ≤ kfd s.2.2.2.1 (tkK P s.1 (cho P nd (goR s)).toNat)
      · rw [if_pos b]; exact ⟨tk1_lf I (by decide), rfl⟩
      · rw [if_neg b]
        have s1 : (1 : Int) ≤ (tkS P s.1 (cho P nd (goR s)).toNat : Nat) := by unfold tkS; omega
        by_cases c : (rR (goR s)).length < 14
        · rw [if_pos c]; exact ⟨tk1_lf (b := ((false, [], [], []), tkP P s.1 (cho P nd (goR s)).toNat, tkK P s.1 (cho P nd (goR s)).toNat)) (y := 0) I s1, rfl⟩
        · rw [if_neg c]; exact ⟨tk1_lf I s1, rfl⟩
  · rw [if_neg q]; exact ⟨I, rfl⟩
theorem wrG_r {t : Nat} : rH (goR (wrG P w t s)) = rH (goR s) ∧ rL (goR (wrG P w t s)) = rL (goR s) ∧ rC (goR (wrG P w t s)) = rC (goR s) := by
  unfold wrG
  by_cases q : rW (goR s) w = 0
  · rw [if_pos q]; exact ⟨rfl, rfl, rfl⟩
  · rw [if_neg q]; exact ⟨rfl, rfl, rfl⟩
theorem fnR_r {r : RunV} {t : Nat} : rH (fnR r w t) = up (rH r) w (-1) ∧ rL (fnR r w t) = rL r ∧ rC (fnR r w t) = upN (rC r) (rW r w) (rC r (rW r w) + 1) := by
  unfold fnR
  by_cases q : (rB r w).1.1 = true
  · rw [if_pos q]; exact ⟨rfl, rfl, rfl⟩
  · rw [if_neg q]
    by_cases q2 : rF r < 0 ∨ (t : Int) < rF r
    · rw [if_pos q2]; exact ⟨rfl, rfl, rfl⟩
    · rw [if_neg q2]; exact ⟨rfl, rfl, rfl⟩
theorem tn2_lf (I : LfI (goR s)) : LfI (goR (tn2 P L w s)) ∧ ∀ j, rC (goR (tn2 P L w s)) j ≤ rC (goR s) j + 1 := by
  unfold tn2
  by_cases q : rH (goR s) w < 0
  · rw [if_pos q]; exact ⟨I, fun j => by omega⟩
  · rw [if_neg q]
    by_cases q2 : 0 < rL (goR s) w - 1
    · rw [if_pos q2]
      refine ⟨fun j hj h => ?_, fun j => Nat.le_succ _⟩
      show 1 ≤ up (rL (goR s)) w (rL (goR s) w - 1) j
      by_cases z : j = w
      · rw [z, up_at]; omega
      · rw [up_ne z]; exact I j hj h
    · rw [if_neg q2]
      obtain ⟨a, b, c⟩ := @fnR_r w (goR (wrG P w (rH (goR s) w).toNat (ltG w s))) (rH (goR s) w).toNat
      obtain ⟨a2, b2, c2⟩ := @wrG_r P (ltG w s) w (rH (goR s) w).toNat
      refine ⟨fun j hj h => ?_, fun j => ?_⟩
      · change 0 ≤ rH (fnR _ w _) j at h
        show 1 ≤ rL (fnR _ w _) j
        rw [a, a2] at h
        rw [b, b2]
        have z : j ≠ w := fun z => by rw [z, up_at] at h; omega
        rw [up_ne z] at h
        show 1 ≤ up (rL (goR s)) w (rL (goR s) w - 1) j
        rw [up_ne z]; exact I j hj h
      · show rC (fnR _ w _) j ≤ _
        rw [c, c2]
        show upN (rC (goR s)) _ _ j ≤ _
        unfold upN
        split
        · rename_i z; rw [z]; exact Nat.le_refl _
        · omega
theorem trn_lf (I : LfI (goR s)) : LfI (goR (trn P nd L w s)) ∧ ∀ j, rC (goR (trn P nd L w s)) j ≤ rC (goR s) j + 1 := by
  have a := tn1_lf (P := P) (nd := nd) (w := w) I
  have b := tn2_lf (P := P) (L := L) (w := w) a.1
  exact ⟨b.1, fun j => by rw [← a.2]; exact b.2 j⟩
end STEPS
theorem d246_0 : dc 246 0 = some (.aload_n 0, 1) := by decide +kernel
theorem d246_1 : dc 246 1 = some (.dup, 2) := by decide +kernel
theorem d246_2 : dc 246 2 = some (.getfield 1706, 5) := by decide +kernel
theorem d246_5 : dc 246 5 = some (.iconst 1, 6) := by decide +kernel
theorem d246_6 : dc 246 6 = some (.iadd, 7) := by decide +kernel
theorem d246_7 : dc 246 7 = some (.putfield 1706, 10) := by decide +kernel
theorem d246_10 : dc 246 10 = some (.iconst 0, 11) := by decide +kernel
theorem d246_11 : dc 246 11 = some (.istore_n 1, 12) := by decide +kernel
theorem d246_12 : dc 246 12 = some (.iload_n 1, 13) := by decide +kernel
theorem d246_13 : dc 246 13 = some (.iconst 2, 14) := by decide +kernel
theorem d246_14 : dc 246 14 = some (.if_icmp .ge ((73 : Nat) : Int), 17) := by decide +kernel
theorem d246_17 : dc 246 17 = some (.aload_n 0, 18) := by decide +kernel
theorem d246_18 : dc 246 18 = some (.dload 1713, 21) := by decide +kernel
theorem d246_21 : dc 246 21 = some (.iload_n 1, 22) := by decide +kernel
theorem d246_22 : dc 246 22 = some (.iaload, 23) := by decide +kernel
theorem d246_23 : dc 246 23 = some (.ifCond .ge ((31 : Nat) : Int), 26) := by decide +kernel
theorem d246_26 : dc 246 26 = some (.aload_n 0, 27) := by decide +kernel
theorem d246_27 : dc 246 27 = some (.iload_n 1, 28) := by decide +kernel
theorem d246_28 : dc 246 28 = some (.invokevirtual 247, 31) := by decide +kernel
theorem d246_31 : dc 246 31 = some (.aload_n 0, 32) := by decide +kernel
theorem d246_32 : dc 246 32 = some (.dload 1713, 35) := by decide +kernel
theorem d246_35 : dc 246 35 = some (.iload_n 1, 36) := by decide +kernel
theorem d246_36 : dc 246 36 = some (.iaload, 37) := by decide +kernel
theorem d246_37 : dc 246 37 = some (.ifCond .ge ((43 : Nat) : Int), 40) := by decide +kernel
theorem d246_40 : dc 246 40 = some (.goto ((67 : Nat) : Int), 43) := by decide +kernel
theorem d246_43 : dc 246 43 = some (.aload_n 0, 44) := by decide +kernel
theorem d246_44 : dc 246 44 = some (.dload 1714, 47) := by decide +kernel
theorem d246_47 : dc 246 47 = some (.iload_n 1, 48) := by decide +kernel
theorem d246_48 : dc 246 48 = some (.dup2, 49) := by decide +kernel
theorem d246_49 : dc 246 49 = some (.iaload, 50) := by decide +kernel
theorem d246_50 : dc 246 50 = some (.iconst 1, 51) := by decide +kernel
theorem d246_51 : dc 246 51 = some (.isub, 52) := by decide +kernel
theorem d246_52 : dc 246 52 = some (.iastore, 53) := by decide +kernel
theorem d246_53 : dc 246 53 = some (.aload_n 0, 54) := by decide +kernel
theorem d246_54 : dc 246 54 = some (.dload 1714, 57) := by decide +kernel
theorem d246_57 : dc 246 57 = some (.iload_n 1, 58) := by decide +kernel
theorem d246_58 : dc 246 58 = some (.iaload, 59) := by decide +kernel
theorem d246_59 : dc 246 59 = some (.ifCond .ne ((67 : Nat) : Int), 62) := by decide +kernel
theorem d246_62 : dc 246 62 = some (.aload_n 0, 63) := by decide +kernel
theorem d246_63 : dc 246 63 = some (.iload_n 1, 64) := by decide +kernel
theorem d246_64 : dc 246 64 = some (.invokevirtual 290, 67) := by decide +kernel
theorem d246_67 : dc 246 67 = some (.iinc 1 1, 70) := by decide +kernel
theorem d246_70 : dc 246 70 = some (.goto ((12 : Nat) : Int), 73) := by decide +kernel
theorem d246_73 : dc 246 73 = some (.aload_n 0, 74) := by decide +kernel
theorem d246_74 : dc 246 74 = some (.dload 1713, 77) := by decide +kernel
theorem d246_77 : dc 246 77 = some (.iconst 0, 78) := by decide +kernel
theorem d246_78 : dc 246 78 = some (.iaload, 79) := by decide +kernel
theorem d246_79 : dc 246 79 = some (.ifCond .ge ((103 : Nat) : Int), 82) := by decide +kernel
theorem d246_82 : dc 246 82 = some (.aload_n 0, 83) := by decide +kernel
theorem d246_83 : dc 246 83 = some (.dload 1713, 86) := by decide +kernel
theorem d246_86 : dc 246 86 = some (.iconst 1, 87) := by decide +kernel
theorem d246_87 : dc 246 87 = some (.iaload, 88) := by decide +kernel
theorem d246_88 : dc 246 88 = some (.ifCond .ge ((103 : Nat) : Int), 91) := by decide +kernel
theorem d246_91 : dc 246 91 = some (.aload_n 0, 92) := by decide +kernel
theorem d246_92 : dc 246 92 = some (.invokevirtual 248, 95) := by decide +kernel
theorem d246_95 : dc 246 95 = some (.ifCond .ge ((103 : Nat) : Int), 98) := by decide +kernel
theorem d246_98 : dc 246 98 = some (.aload_n 0, 99) := by decide +kernel
theorem d246_99 : dc 246 99 = some (.iconst 0, 100) := by decide +kernel
theorem d246_100 : dc 246 100 = some (.putstatic 1704, 103) := by decide +kernel
theorem d246_103 : dc 246 103 = some (.return_, 104) := by decide +kernel
theorem k_M_step {S : Shp} {G : Nat → Option Nat} {d : Nat} {h : Hp} {Q : Option MV → Hp → Prop} {m : Nat} {P : PlV} {nd : Nat → Nat} {s : GoV} {nn k : Nat} (ok : Ok S h) (h1 : 16 ≤ d) (hm : sK S m = 14) (GR : GoR S h m P nn s) (SP : FI h 1706 m = ((k : Nat) : Int)) (GN : FI h 1704 m = 1) (tg : Tg S G) (hN : ∀ u, u < P.2.2.length → (bt nn u ↔ nd u = 1)) (hH : ∀ u, u < P.2.2.length → nd u = 1 → tH P.2.2 u = true) (hO : ∀ t, t < P.2.2.length → okN (tgW (tD P.2.2 t)) ∧ ∃ r : Nat, rix (tgR (tD P.2.2 t)) = (r : Int)) (hk : k + 1 ≤ 2147483647) (lf : LfI (goR s)) (hC : ∀ j, rC (goR s) j + 3 ≤ 2147483647)
    (kk : ∀ h', Fr S m [1713, 1714, 1715, 1716, 1717, 1718, 1719, 1678, 1679, 1680, 1672, 1673, 1708, 1709, 1683, 1685, 1686, 1687, 1688, 1698, 1699, 1700, 1689, 1690, 1691, 1692, 1693, 1694, 1695, 1696, 1697, 1681, 1682, 1684, 1677, 1710, 1711, 1712, 1701, 1702, 1703, 1668, 1707, 1667, 1666, 1671, 1670, 1706, 1704] h h' → GoR S h' m P nn (trs P nd 24 s 2) → FI h' 1706 m = ((k + 1 : Nat) : Int) → FI h' 1704 m = b2i (onB P nd (trs P nd 24 s 2)) → Q none h') : Cl G d 246 [vR (some m)] h Q := by
  show Wp G d 246 0 [some (vR (some m)), none] [] h Q
  have GR_0 := GR
  have SP_0 := SP
  have GN_0 := GN
  refine w_aload_n d246_0 rfl ?_
  refine w_dupR d246_1 ?_
  refine w_getI (x := ((k : Nat) : Int)) d246_2 (ok.kd hm) SP ?_
  refine w_iconst d246_5 (by decide) ?_
  refine w_iadd d246_6 (by constructor <;> omega) ?_
  refine wf1706 d246_7 ok hm (by omega) (fun h7 e7 m7 => ?_)
  have f7 : Fr S m [1706] _ _ := Fr.wF ok m7 (FK.pI e7)
  have ok7 := f7.ok
  have FR7 := Fr.le (F := [1713, 1714, 1715, 1716, 1717, 1718, 1719, 1678, 1679, 1680, 1672, 1673, 1708, 1709, 1683, 1685, 1686, 1687, 1688, 1698, 1699, 1700, 1689, 1690, 1691, 1692, 1693, 1694, 1695, 1696, 1697, 1681, 1682, 1684, 1677, 1710, 1711, 1712, 1701, 1702, 1703, 1668, 1707, 1667, 1666, 1671, 1670, 1706, 1704]) f7 (by decide)
  have GR := GR.r f7 hm
  have GN := (f7.i 1704).trans GN
  have SP : FI h7 1706 m = ((k + 1 : Nat) : Int) := by rw [e7, FI_sFI, if_pos ⟨rfl, rfl⟩]; rfl
  refine w_iconst d246_10 (by decide) ?_
  refine w_istore1 d246_11 rfl ?_
  have L12 : ∀ (m12 : Nat) (g : Hp) (w : Nat), 2 - w = m12 → Fr S m [1713, 1714, 1715, 1716, 1717, 1718, 1719, 1678, 1679, 1680, 1672, 1673, 1708, 1709, 1683, 1685, 1686, 1687, 1688, 1698, 1699, 1700, 1689, 1690, 1691, 1692, 1693, 1694, 1695, 1696, 1697, 1681, 1682, 1684, 1677, 1710, 1711, 1712, 1701, 1702, 1703, 1668, 1707, 1667, 1666, 1671, 1670, 1706, 1704] h g → (w ≤ 2) → (LfI (goR (trs P nd 24 s w))) → (∀ j, rC (goR (trs P nd 24 s w)) j ≤ rC (goR s) j + w) → (GoR S g m P nn (trs P nd 24 s w)) → (FI g 1706 m = ((k + 1 : Nat) : Int)) → (FI g 1704 m = 1) → Wp G d 246 12 [some (vR (some m)), some (vI (w : Nat))] [] g Q := by
    intro m12
    induction m12 using Nat.strongRecOn with | ind m12 IH12 => ?_
    intro g w hm12 FRg w2 lf0 ct GR SP GN
    have okg := FRg.ok
    have lf1 := tn1_lf (P := P) (nd := nd) (w := w) lf0
    have tl := trn_lf (P := P) (nd := nd) (L := 24) (w := w) lf0
    refine w_iload_n d246_12 rfl ?_
    refine w_iconst d246_13 (by decide) ?_
    refine w_icmpge d246_14 (fun c14 => ?_) (fun c14 => ?_)
    · have ew : w = 2 := by omega
      rw [ew] at GR
      refine w_aload_n d246_73 rfl ?_
      refine w_dloadS d246_74 (okg.kd hm) (fr1713 okg hm) ?_
      refine w_iconst d246_77 (by decide) ?_
      refine w_ialoadV (x := (rH (goR (trs P nd 24 s 2)) 0)) d246_78 (gi1713 okg hm (by omega)) (GR.hd (w := 0) (by decide)) ?_
      refine w_ifge d246_79 (fun c79 => ?_) (fun c79 => ?_)
      · refine w_return d246_103 ?_
        refine kk _ FRg GR SP ?_
        have on : onB P nd (trs P nd 24 s 2) = true := decide_eq_true (Or.inl c79)
        rw [GN, on]
        rfl
      · refine w_aload_n d246_82 rfl ?_
        refine w_dloadS d246_83 (okg.kd hm) (fr1713 okg hm) ?_
        refine w_iconst d246_86 (by decide) ?_
        refine w_ialoadV (x := (rH (goR (trs P nd 24 s 2)) 1)) d246_87 (gi1713 okg hm (by omega)) (GR.hd (w := 1) (by decide)) ?_
        refine w_ifge d246_88 (fun c88 => ?_) (fun c88 => ?_)
        · refine w_return d246_103 ?_
          refine kk _ FRg GR SP ?_
          have on : onB P nd (trs P nd 24 s 2) = true := decide_eq_true (Or.inr (Or.inl c88))
          rw [GN, on]
          rfl
        · refine w_aload_n d246_91 rfl ?_
          obtain ⟨L, Y, wk, bu, bp, kf, pf, lf_, ks, pb, TF, ST, HA, NE, rest⟩ := id GR
          refine w_callv1 d246_92 (by omega) rfl (okg.kd hm) (by simp) (Nat.le_of_ble_eq_true rfl) ?_
          refine k_M_takeable okg (by omega) hm TF ST HA NE hN hH ?_
          refine w_ifge d246_95 (fun c95 => ?_) (fun c95 => ?_)
          · refine w_return d246_103 ?_
            refine kk _ FRg GR SP ?_
            have on : onB P nd (trs P nd 24 s 2) = true := decide_eq_true (Or.inr (Or.inr c95))
            rw [GN, on]
            rfl
          · refine w_aload_n d246_98 rfl ?_
            refine w_iconst d246_99 (by decide) ?_
            refine wf1704 d246_100 okg hm (by omega) (fun h100 e100 m100 => ?_)
            have f100 : Fr S m [1704] _ _ := Fr.wF okg m100 (FK.pI e100)
            have ok100 := f100.ok
            have FR100 := Fr.tr (F := [1713, 1714, 1715, 1716, 1717, 1718, 1719, 1678, 1679, 1680, 1672, 1673, 1708, 1709, 1683, 1685, 1686, 1687, 1688, 1698, 1699, 1700, 1689, 1690, 1691, 1692, 1693, 1694, 1695, 1696, 1697, 1681, 1682, 1684, 1677, 1710, 1711, 1712, 1701, 1702, 1703, 1668, 1707, 1667, 1666, 1671, 1670, 1706, 1704]) FRg f100 (by decide) (by decide)
            have SP := (f100.i 1706).trans SP
            have GR := GR.r f100 hm
            refine w_return d246_103 ?_
            refine kk _ FR100 GR SP ?_
            have on : onB P nd (trs P nd 24 s 2) = false := decide_eq_false (fun z => by
              rcases z with z | z | z
              · exact absurd c79 (Int.not_lt.mpr z)
              · exact absurd c88 (Int.not_lt.mpr z)
              · exact absurd c95 (Int.not_lt.mpr z))
            rw [e100, FI_sFI, if_pos ⟨rfl, rfl⟩, on]
            rfl
    · have hw : w < 2 := by omega
      refine w_aload_n d246_17 rfl ?_
      refine w_dloadS d246_18 (okg.kd hm) (fr1713 okg hm) ?_
      refine w_iload_n d246_21 rfl ?_
      refine w_ialoadV (x := (rH (goR (trs P nd 24 s w)) w)) d246_22 (gi1713 okg hm (by omega)) (GR.hd hw) ?_
      have L31 : ∀ (m31 : Nat) (b : Hp) , 0 = m31 → Fr S m [1713, 1714, 1715, 1716, 1717, 1718, 1719, 1678, 1679, 1680, 1672, 1673, 1708, 1709, 1683, 1685, 1686, 1687, 1688, 1698, 1699, 1700, 1689, 1690, 1691, 1692, 1693, 1694, 1695, 1696, 1697, 1681, 1682, 1684, 1677, 1710, 1711, 1712, 1701, 1702, 1703, 1668, 1707, 1667, 1666, 1671, 1670, 1706, 1704] h b → (GoR S b m P nn (tn1 P nd w (trs P nd 24 s w))) → (FI b 1706 m = ((k + 1 : Nat) : Int)) → (FI b 1704 m = 1) → Wp G d 246 31 [some (vR (some m)), some (vI (w : Nat))] [] b Q := by
        intro m31
        induction m31 using Nat.strongRecOn with | ind m31 IH31 => ?_
        intro b  hm31 FRb GR SP GN
        have okb := FRb.ok
        refine w_aload_n d246_31 rfl ?_
        refine w_dloadS d246_32 (okb.kd hm) (fr1713 okb hm) ?_
        refine w_iload_n d246_35 rfl ?_
        refine w_ialoadV (x := (rH (goR (tn1 P nd w (trs P nd 24 s w))) w)) d246_36 (gi1713 okb hm (by omega)) (GR.hd hw) ?_
        refine w_ifge d246_37 (fun c37 => ?_) (fun c37 => ?_)
        · have l1 := lf1.1 w hw (by omega)
          refine w_aload_n d246_43 rfl ?_
          refine w_dloadS d246_44 (okb.kd hm) (fr1714 okb hm) ?_
          refine w_iload_n d246_47 rfl ?_
          refine w_dup2 d246_48 ?_
          have la := GR.lf hw (by omega)
          have rb := ra1714 okb hm w
          rw [la] at rb
          refine w_ialoadV (x := (rL (goR (tn1 P nd w (trs P nd 24 s w))) w)) d246_49 (gi1714 okb hm (by omega)) la ?_
          refine w_iconst d246_50 (by decide) ?_
          refine w_isub d246_51 (by constructor <;> omega) ?_
          refine wa1714 d246_52 okb hm (by omega) (by omega) (fun h52 e52 m52 => ?_)
          have e52 : h52 = sAI b (sT S 1714 m) w ((rL (goR (tn1 P nd w (trs P nd 24 s w))) w) - 1) := e52
          have f52 : Fr S m [1714] _ _ := Fr.wB okb hm m52 (fun ζ e => ⟨1714, by decide, by decide, e ▸ U_refl⟩)
          have ok52 := f52.ok
          have FR52 := Fr.tr (F := [1713, 1714, 1715, 1716, 1717, 1718, 1719, 1678, 1679, 1680, 1672, 1673, 1708, 1709, 1683, 1685, 1686, 1687, 1688, 1698, 1699, 1700, 1689, 1690, 1691, 1692, 1693, 1694, 1695, 1696, 1697, 1681, 1682, 1684, 1677, 1710, 1711, 1712, 1701, 1702, 1703, 1668, 1707, 1667, 1666, 1671, 1670, 1706, 1704]) FRb f52 (by decide) (by decide)
          have SP := (f52.i 1706).trans SP
          have GN := (f52.i 1704).trans GN
          have GR := GR.left (t := 0) hm f52 e52
          refine w_aload_n d246_53 rfl ?_
          refine w_dloadS d246_54 (ok52.kd hm) (fr1714 ok52 hm) ?_
          refine w_iload_n d246_57 rfl ?_
          refine w_ialoadV (x := (rL (goR (tn1 P nd w (trs P nd 24 s w))) w - 1)) d246_58 (gi1714 ok52 hm (by omega)) ((GR.lf hw (by show 0 ≤ rH (goR (tn1 P nd w (trs P nd 24 s w))) w; omega)).trans (show up (rL (goR (tn1 P nd w (trs P nd 24 s w)))) w (rL (goR (tn1 P nd w (trs P nd 24 s w))) w - 1) w = _ from up_at)) ?_
          refine w_ifne d246_59 (fun c59 => ?_) (fun c59 => ?_)
          · have e2 : trs P nd 24 s (w + 1) = ltG w (tn1 P nd w (trs P nd 24 s w)) := by
              show tn2 P 24 w (tn1 P nd w (trs P nd 24 s w)) = _
              unfold tn2
              rw [if_neg (by omega), if_pos (by omega)]
            refine w_iinc1 d246_67 rfl (by constructor <;> omega) ?_
            refine w_goto d246_70 ?_
            rw [show ((w : Nat) : Int) + 1 = ((w + 1 : Nat) : Int) by omega]
            refine w_less ?_ (IH12 _ (by omega) h52 (w + 1) rfl FR52 (by omega) tl.1 (fun j => by have a := tl.2 j; have b := ct j; show rC (goR (trn P nd 24 w (trs P nd 24 s w))) j ≤ _; omega) (by rw [e2]; exact GR) SP GN)
            exact ⟨Or.inr rfl, Or.inr rfl, trivial⟩
          · have e2 : trs P nd 24 s (w + 1) = fnG 24 w (rH (goR (tn1 P nd w (trs P nd 24 s w))) w).toNat (wrG P w (rH (goR (tn1 P nd w (trs P nd 24 s w))) w).toNat (ltG w (tn1 P nd w (trs P nd 24 s w)))) := by
              show tn2 P 24 w (tn1 P nd w (trs P nd 24 s w)) = _
              unfold tn2
              rw [if_neg (by omega), if_neg (by omega)]
            refine w_aload_n d246_62 rfl ?_
            refine w_iload_n d246_63 rfl ?_
            refine w_callv2 d246_64 (by omega) rfl (ok52.kd hm) (by simp) (Nat.le_of_ble_eq_true rfl) ?_
            refine k_M_finishG (t := (rH (goR (tn1 P nd w (trs P nd 24 s w))) w).toNat) ok52 (by omega) hm GR hw (by show rH (goR (tn1 P nd w (trs P nd 24 s w))) w = _; omega) (fun j => by show rC (goR (tn1 P nd w (trs P nd 24 s w))) j + 1 ≤ _; rw [lf1.2]; have := ct j; have := hC j; omega) (fun h64 f64 GR => ?_)
            have ok64 := f64.ok
            have FR64 := Fr.tr (F := [1713, 1714, 1715, 1716, 1717, 1718, 1719, 1678, 1679, 1680, 1672, 1673, 1708, 1709, 1683, 1685, 1686, 1687, 1688, 1698, 1699, 1700, 1689, 1690, 1691, 1692, 1693, 1694, 1695, 1696, 1697, 1681, 1682, 1684, 1677, 1710, 1711, 1712, 1701, 1702, 1703, 1668, 1707, 1667, 1666, 1671, 1670, 1706, 1704]) FR52 f64 (by decide) (by decide)
            have SP := (f64.i 1706).trans SP
            have GN := (f64.i 1704).trans GN
            refine w_iinc1 d246_67 rfl (by constructor <;> omega) ?_
            refine w_goto d246_70 ?_
            rw [show ((w : Nat) : Int) + 1 = ((w + 1 : Nat) : Int) by omega]
            refine w_less ?_ (IH12 _ (by omega) h64 (w + 1) rfl FR64 (by omega) tl.1 (fun j => by have a := tl.2 j; have b := ct j; show rC (goR (trn P nd 24 w (trs P nd 24 s w))) j ≤ _; omega) (by rw [e2]; exact GR) SP GN)
            exact ⟨Or.inr rfl, Or.inr rfl, trivial⟩
        · have e2 : trs P nd 24 s (w + 1) = (tn1 P nd w (trs P nd 24 s w)) := by
            show tn2 P 24 w (tn1 P nd w (trs P nd 24 s w)) = (tn1 P nd w (trs P nd 24 s w))
            unfold tn2
            exact if_pos (by omega)
          refine w_goto d246_40 ?_
          refine w_iinc1 d246_67 rfl (by constructor <;> omega) ?_
          refine w_goto d246_70 ?_
          rw [show ((w : Nat) : Int) + 1 = ((w + 1 : Nat) : Int) by omega]
          refine w_less ?_ (IH12 _ (by omega) b (w + 1) rfl FRb (by omega) tl.1 (fun j => by have a := tl.2 j; have b := ct j; show rC (goR (trn P nd 24 w (trs P nd 24 s w))) j ≤ _; omega) (by rw [e2]; exact GR) SP GN)
          exact ⟨Or.inr rfl, Or.inr rfl, trivial⟩
      refine w_ifge d246_23 (fun c23 => ?_) (fun c23 => ?_)
      · have e1 : (tn1 P nd w (trs P nd 24 s w)) = (trs P nd 24 s w) := by unfold tn1; exact if_neg (fun z => by have := z.1; omega)
        refine w_less ?_ (L31 _ g  rfl FRg (by rw [e1]; exact GR) SP GN)
        exact ⟨Or.inr rfl, Or.inr rfl, trivial⟩
      · refine w_aload_n d246_26 rfl ?_
        refine w_iload_n d246_27 rfl ?_
        refine w_callv2 d246_28 (by omega) rfl (okg.kd hm) (by simp) (Nat.le_of_ble_eq_true rfl) ?_
        refine k_M_takeG okg (by omega) hm GR tg hw hN hH hO (by omega) (fun h28 f28 GR => ?_)
        have ok28 := f28.ok
        have FR28 := Fr.tr (F := [1713, 1714, 1715, 1716, 1717, 1718, 1719, 1678, 1679, 1680, 1672, 1673, 1708, 1709, 1683, 1685, 1686, 1687, 1688, 1698, 1699, 1700, 1689, 1690, 1691, 1692, 1693, 1694, 1695, 1696, 1697, 1681, 1682, 1684, 1677, 1710, 1711, 1712, 1701, 1702, 1703, 1668, 1707, 1667, 1666, 1671, 1670, 1706, 1704]) FRg f28 (by decide) (by decide)
        have SP := (f28.i 1706).trans SP
        have GN := (f28.i 1704).trans GN
        refine w_less ?_ (L31 _ h28  rfl FR28 GR SP GN)
        exact ⟨Or.inr rfl, Or.inr rfl, trivial⟩
  refine w_less ?_ (L12 _ h7 0 rfl FR7 (Nat.zero_le _) lf (fun j => Nat.le_refl _) GR SP GN)
  exact ⟨Or.inr rfl, Or.inr rfl, trivial⟩
