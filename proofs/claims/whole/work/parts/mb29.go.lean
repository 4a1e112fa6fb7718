/-! the reference: a session goes on -/
/-- who has ended or is in a hand is needed -/
def NdI (P : PlV) (nd : Nat → Nat) (r : RunV) : Prop := (∀ t, t < 14 → rE r t ≠ 0 → t < P.2.2.length ∧ nd t = 1) ∧ ∀ w, w < 2 → ∀ t : Nat, rH r w = (t : Int) → t < P.2.2.length ∧ nd t = 1
section NDI
variable {P : PlV} {nd : Nat → Nat} {s : GoV} {w L : Nat}
theorem tkR_r {pu : Nat → OutV} {kc : List (Int64 × OutV)} {r : RunV} {t : Nat} : rE (tkR P pu kc r w t) = rE r ∧ rH (tkR P pu kc r w t) = up (rH r) w t := by
  unfold tkR
  (repeat' split) <;> exact ⟨rfl, rfl⟩
theorem tn1_nd (I : NdI P nd (goR s)) : NdI P nd (goR (tn1 P nd w s)) := by
  unfold tn1
  by_cases q : rH (goR s) w < 0 ∧ 0 ≤ cho P nd (goR s)
  · rw [if_pos q]
    show NdI P nd (tkR P s.1 s.2.2.2.1 (goR s) w _)
    obtain ⟨a, b⟩ := @tkR_r P w s.1 s.2.2.2.1 (goR s) (cho P nd (goR s)).toNat
    unfold NdI
    rw [a, b]
    refine ⟨I.1, fun j hj t h => ?_⟩
    by_cases z : j = w
    · rw [z, up_at] at h
      have e : chs P.2.2 nd (rE (goR s)) (rH (goR s)) = (t : Int) := by
        have e2 : cho P nd (goR s) = chs P.2.2 nd (rE (goR s)) (rH (goR s)) := rfl
        omega
      have := (chs_rg P.2.2 nd (rE (goR s)) (rH (goR s))).2
      exact ⟨by omega, (chs_t e).1⟩
    · rw [up_ne z] at h; exact I.2 j hj t h
  · rw [if_neg q]; exact I
theorem wrG_e {t : Nat} : rE (goR (wrG P w t s)) = rE (goR s) := by
  unfold wrG
  by_cases q : rW (goR s) w = 0
  · rw [if_pos q]; rfl
  · rw [if_neg q]
theorem fnR_e {r : RunV} {t : Nat} : ∃ x, rE (fnR r w t) = upN (rE r) t x := by
  unfold fnR
  (repeat' split)
  · exact ⟨1, rfl⟩
  · exact ⟨2, rfl⟩
  · exact ⟨2, rfl⟩
theorem tn2_nd (hw : w < 2) (I : NdI P nd (goR s)) : NdI P nd (goR (tn2 P L w s)) := by
  unfold tn2
  by_cases q : rH (goR s) w < 0
  · rw [if_pos q]; exact I
  · rw [if_neg q]
    by_cases q2 : 0 < rL (goR s) w - 1
    · rw [if_pos q2]; exact I
    · rw [if_neg q2]
      show NdI P nd (fnR (goR (wrG P w (rH (goR s) w).toNat (ltG w s))) w (rH (goR s) w).toNat)
      obtain ⟨a, -, -⟩ := @fnR_r w (goR (wrG P w (rH (goR s) w).toNat (ltG w s))) (rH (goR s) w).toNat
      obtain ⟨a2, -, -⟩ := @wrG_r P (ltG w s) w (rH (goR s) w).toNat
      obtain ⟨x, e⟩ := @fnR_e w (goR (wrG P w (rH (goR s) w).toNat (ltG w s))) (rH (goR s) w).toNat
      unfold NdI
      rw [a, a2, e, wrG_e]
      have hT : rH (goR s) w = (((rH (goR s) w).toNat : Nat) : Int) := by omega
      refine ⟨fun t h14 ht => ?_, fun j hj t h => ?_⟩
      · by_cases z : t = (rH (goR s) w).toNat
        · rw [z]; exact I.2 w hw _ hT
        · rw [upN_ne z] at ht; exact I.1 t h14 ht
      · by_cases z : j = w
        · rw [z, up_at] at h; omega
        · rw [up_ne z] at h; exact I.2 j hj t h
theorem trs_nd (I : NdI P nd (goR s)) : NdI P nd (goR (trs P nd L s 2)) := tn2_nd (by decide) (tn1_nd (tn2_nd (by decide) (tn1_nd I)))
theorem trs_lf (I : LfI (goR s)) : LfI (goR (trs P nd L s 2)) ∧ ∀ j, rC (goR (trs P nd L s 2)) j ≤ rC (goR s) j + 2 := by
  have a := trn_lf (P := P) (nd := nd) (L := L) (w := 0) I
  have b := trn_lf (P := P) (nd := nd) (L := L) (w := 1) a.1
  exact ⟨b.1, fun j => by have x := a.2 j; have y := b.2 j; show rC (goR (trn P nd L 1 (trn P nd L 0 s))) j ≤ _; omega⟩
theorem goG_0 {g : Bool} {k : Nat} : goG P nd L 0 s g k = (s, g, k) := rfl
end NDI
theorem d245_0 : dc 245 0 = some (.iconst 0, 1) := by decide +kernel
theorem d245_1 : dc 245 1 = some (.istore_n 1, 2) := by decide +kernel
theorem d245_2 : dc 245 2 = some (.iload_n 1, 3) := by decide +kernel
theorem d245_3 : dc 245 3 = some (.aload_n 0, 4) := by decide +kernel
theorem d245_4 : dc 245 4 = some (.dload 1741, 7) := by decide +kernel
theorem d245_7 : dc 245 7 = some (.iconst 0, 8) := by decide +kernel
theorem d245_8 : dc 245 8 = some (.iaload, 9) := by decide +kernel
theorem d245_9 : dc 245 9 = some (.if_icmp .ge ((29 : Nat) : Int), 12) := by decide +kernel
theorem d245_12 : dc 245 12 = some (.aload_n 0, 13) := by decide +kernel
theorem d245_13 : dc 245 13 = some (.getfield 1704, 16) := by decide +kernel
theorem d245_16 : dc 245 16 = some (.ifCond .eq ((29 : Nat) : Int), 19) := by decide +kernel
theorem d245_19 : dc 245 19 = some (.aload_n 0, 20) := by decide +kernel
theorem d245_20 : dc 245 20 = some (.invokevirtual 246, 23) := by decide +kernel
theorem d245_23 : dc 245 23 = some (.iinc 1 1, 26) := by decide +kernel
theorem d245_26 : dc 245 26 = some (.goto ((2 : Nat) : Int), 29) := by decide +kernel
theorem d245_29 : dc 245 29 = some (.aload_n 0, 30) := by decide +kernel
theorem d245_30 : dc 245 30 = some (.getfield 1704, 33) := by decide +kernel
theorem d245_33 : dc 245 33 = some (.ifCond .eq ((44 : Nat) : Int), 36) := by decide +kernel
theorem d245_36 : dc 245 36 = some (.aload_n 0, 37) := by decide +kernel
theorem d245_37 : dc 245 37 = some (.getstatic 55, 40) := by decide +kernel
theorem d245_40 : dc 245 40 = some (.invokevirtual 217, 43) := by decide +kernel
theorem d245_43 : dc 245 43 = some (.return_, 44) := by decide +kernel
theorem d245_44 : dc 245 44 = some (.iconst 0, 45) := by decide +kernel
theorem d245_45 : dc 245 45 = some (.istore_n 1, 46) := by decide +kernel
theorem d245_46 : dc 245 46 = some (.iload_n 1, 47) := by decide +kernel
theorem d245_47 : dc 245 47 = some (.bipush 14, 49) := by decide +kernel
theorem d245_49 : dc 245 49 = some (.if_icmp .ge ((98 : Nat) : Int), 52) := by decide +kernel
theorem d245_52 : dc 245 52 = some (.aload_n 0, 53) := by decide +kernel
theorem d245_53 : dc 245 53 = some (.getfield 1705, 56) := by decide +kernel
theorem d245_56 : dc 245 56 = some (.iload_n 1, 57) := by decide +kernel
theorem d245_57 : dc 245 57 = some (.ishr, 58) := by decide +kernel
theorem d245_58 : dc 245 58 = some (.iconst 1, 59) := by decide +kernel
theorem d245_59 : dc 245 59 = some (.iand, 60) := by decide +kernel
theorem d245_60 : dc 245 60 = some (.ifCond .eq ((92 : Nat) : Int), 63) := by decide +kernel
theorem d245_63 : dc 245 63 = some (.aload_n 0, 64) := by decide +kernel
theorem d245_64 : dc 245 64 = some (.dload 1707, 67) := by decide +kernel
theorem d245_67 : dc 245 67 = some (.iload_n 1, 68) := by decide +kernel
theorem d245_68 : dc 245 68 = some (.iaload, 69) := by decide +kernel
theorem d245_69 : dc 245 69 = some (.iconst 2, 70) := by decide +kernel
theorem d245_70 : dc 245 70 = some (.if_icmp .eq ((76 : Nat) : Int), 73) := by decide +kernel
theorem d245_73 : dc 245 73 = some (.goto ((92 : Nat) : Int), 76) := by decide +kernel
theorem d245_76 : dc 245 76 = some (.aload_n 0, 77) := by decide +kernel
theorem d245_77 : dc 245 77 = some (.aload_n 0, 78) := by decide +kernel
theorem d245_78 : dc 245 78 = some (.dload 1665, 81) := by decide +kernel
theorem d245_81 : dc 245 81 = some (.iload_n 1, 82) := by decide +kernel
theorem d245_82 : dc 245 82 = some (.aload_n 0, 83) := by decide +kernel
theorem d245_83 : dc 245 83 = some (.dload 1668, 86) := by decide +kernel
theorem d245_86 : dc 245 86 = some (.iload_n 1, 87) := by decide +kernel
theorem d245_87 : dc 245 87 = some (.aaload, 88) := by decide +kernel
theorem d245_88 : dc 245 88 = some (.invokevirtual 292, 91) := by decide +kernel
theorem d245_91 : dc 245 91 = some (.return_, 92) := by decide +kernel
theorem d245_92 : dc 245 92 = some (.iinc 1 1, 95) := by decide +kernel
theorem d245_95 : dc 245 95 = some (.goto ((46 : Nat) : Int), 98) := by decide +kernel
theorem d245_98 : dc 245 98 = some (.aload_n 0, 99) := by decide +kernel
theorem d245_99 : dc 245 99 = some (.getstatic 56, 102) := by decide +kernel
theorem d245_102 : dc 245 102 = some (.invokevirtual 217, 105) := by decide +kernel
theorem d245_105 : dc 245 105 = some (.return_, 106) := by decide +kernel
theorem k_M_go {S : Shp} {G : Nat → Option Nat} {d : Nat} {h : Hp} {Q : Option MV → Hp → Prop} {m : Nat} {P : PlV} {nd : Nat → Nat} {s : GoV} {nn k n : Nat} {g : Bool} {la : List Nat} (ok : Ok S h) (h1 : 17 ≤ d) (hm : sK S m = 14) (GR : GoR S h m P nn s) (SP : FI h 1706 m = ((k : Nat) : Int)) (GN : FI h 1704 m = b2i g) (TE : TeR S h m la) (AG : AI h (sT S 1741 m) 0 = ((n : Nat) : Int)) (tg : Tg S G) (hN : ∀ u, u < P.2.2.length → (bt nn u ↔ nd u = 1)) (hH : ∀ u, u < P.2.2.length → nd u = 1 → tH P.2.2 u = true) (hO : ∀ t, t < P.2.2.length → okN (tgW (tD P.2.2 t)) ∧ ∃ r : Nat, rix (tgR (tD P.2.2 t)) = (r : Int)) (hk : k + n ≤ 2147483647) (lf : LfI (goR s)) (hC : ∀ j, rC (goR s) j + (2 * n + 3) ≤ 2147483647) (ni : NdI P nd (goR s)) (hcl : ∀ t, t < P.2.2.length → cln (tgN (tD P.2.2 t)))
    (kk : ∀ h', Fr S m [1713, 1714, 1715, 1716, 1717, 1718, 1719, 1678, 1679, 1680, 1672, 1673, 1708, 1709, 1683, 1685, 1686, 1687, 1688, 1698, 1699, 1700, 1689, 1690, 1691, 1692, 1693, 1694, 1695, 1696, 1697, 1681, 1682, 1684, 1677, 1710, 1711, 1712, 1701, 1702, 1703, 1668, 1707, 1667, 1666, 1671, 1670, 1706, 1704, 1732, 1733] h h' → GoR S h' m P nn (goG P nd 24 n s g k).1 → FI h' 1706 m = (((goG P nd 24 n s g k).2.2 : Nat) : Int) → FI h' 1704 m = b2i (goG P nd 24 n s g k).2.1 → TeR S h' m (addBs 20000 la (endT P.2.2 (goG P nd 24 n s g k).2.1 (rF (goR (goG P nd 24 n s g k).1)) ((rT (goR (goG P nd 24 n s g k).1)).map told))) → Q none h') : Cl G d 245 [vR (some m)] h Q := by
  show Wp G d 245 0 [some (vR (some m)), none] [] h Q
  have GR_0 := GR
  have SP_0 := SP
  have GN_0 := GN
  have TE_0 := TE
  have AG_0 := AG
  refine w_iconst d245_0 (by decide) ?_
  refine w_istore1 d245_1 rfl ?_
  have L2 : ∀ (m2 : Nat) (q : Hp) (i : Nat) (s1 : GoV) (g1 : Bool) (k1 : Nat), n - i = m2 → Fr S m [1713, 1714, 1715, 1716, 1717, 1718, 1719, 1678, 1679, 1680, 1672, 1673, 1708, 1709, 1683, 1685, 1686, 1687, 1688, 1698, 1699, 1700, 1689, 1690, 1691, 1692, 1693, 1694, 1695, 1696, 1697, 1681, 1682, 1684, 1677, 1710, 1711, 1712, 1701, 1702, 1703, 1668, 1707, 1667, 1666, 1671, 1670, 1706, 1704, 1732, 1733] h q → (goG P nd 24 n s g k = goG P nd 24 (n - i) s1 g1 k1) → (GoR S q m P nn s1) → (FI q 1706 m = ((k1 : Nat) : Int)) → (FI q 1704 m = b2i g1) → (LfI (goR s1)) → (∀ j, rC (goR s1) j ≤ rC (goR s) j + 2 * i) → (k1 ≤ k + i ∧ i ≤ n) → (NdI P nd (goR s1)) → (TeR S q m la) → Wp G d 245 2 [some (vR (some m)), some (vI (i : Nat))] [] q Q := by
    intro m2
    induction m2 using Nat.strongRecOn with | ind m2 IH2 => ?_
    intro q i s1 g1 k1 hm2 FRq E1 GR SP GN lf1 ct ki ni1 TE
    have okq := FRq.ok
    have AG := (congrFun (FRq.ai (by have := kT1741 FRq.1 hm; omega) (by decide) (by decide) (by decide)) 0).trans AG_0
    have tl := trs_lf (P := P) (nd := nd) (L := 24) lf1
    have tn := trs_nd (L := 24) ni1
    refine w_iload_n d245_2 rfl ?_
    refine w_aload_n d245_3 rfl ?_
    refine w_dloadS d245_4 (okq.kd hm) (fr1741 okq hm) ?_
    refine w_iconst d245_7 (by decide) ?_
    refine w_ialoadV (x := ((n : Nat) : Int)) d245_8 (gi1741 okq hm (by omega)) AG ?_
    have L29 : ∀ (m29 : Nat) (b : Hp) , 0 = m29 → Fr S m [1713, 1714, 1715, 1716, 1717, 1718, 1719, 1678, 1679, 1680, 1672, 1673, 1708, 1709, 1683, 1685, 1686, 1687, 1688, 1698, 1699, 1700, 1689, 1690, 1691, 1692, 1693, 1694, 1695, 1696, 1697, 1681, 1682, 1684, 1677, 1710, 1711, 1712, 1701, 1702, 1703, 1668, 1707, 1667, 1666, 1671, 1670, 1706, 1704, 1732, 1733] h b → (GoR S b m P nn (goG P nd 24 n s g k).1) → (FI b 1706 m = (((goG P nd 24 n s g k).2.2 : Nat) : Int)) → (FI b 1704 m = b2i (goG P nd 24 n s g k).2.1) → (NdI P nd (goR (goG P nd 24 n s g k).1)) → (TeR S b m la) → Wp G d 245 29 [some (vR (some m)), none] [] b Q := by
      intro m29
      induction m29 using Nat.strongRecOn with | ind m29 IH29 => ?_
      intro b  hm29 FRb GR SP GN ni1 TE
      have okb := FRb.ok
      have AG := (congrFun (FRb.ai (by have := kT1741 FRb.1 hm; omega) (by decide) (by decide) (by decide)) 0).trans AG_0
      refine w_aload_n d245_29 rfl ?_
      refine w_getI (x := (b2i (goG P nd 24 n s g k).2.1)) d245_30 (okb.kd hm) GN ?_
      refine w_ifeq d245_33 (fun c33 => ?_) (fun c33 => ?_)
      · have gf : (goG P nd 24 n s g k).2.1 = false := by
          cases hz : (goG P nd 24 n s g k).2.1 with
          | true => rw [hz] at c33; exact absurd c33 (by decide)
          | false => rfl
        obtain ⟨L, Y, wk, bu, bp, kf, pf, lf_, ks, pb, TF, ST, HA, NE, x5, x6, x7, x8, BU, x9, xa, xb, xc, xd, xe, xf, I⟩ := id GR
        have nl := NE.2
        have En := I.2.2.2.1
        refine w_iconst d245_44 (by decide) ?_
        refine w_istore1 d245_45 rfl ?_
        have L46 : ∀ (m46 : Nat) (t : Nat), 14 - t = m46 → (t ≤ 14) → (∀ u, u < t → rE (goR (goG P nd 24 n s g k).1) u ≠ 2) → Wp G d 245 46 [some (vR (some m)), some (vI (t : Nat))] [] b Q := by
          intro m46
          induction m46 using Nat.strongRecOn with | ind m46 IH46 => ?_
          intro t hm46 tle hs
          refine w_iload_n d245_46 rfl ?_
          refine w_bipush d245_47 (by decide) ?_
          refine w_icmpge d245_49 (fun c49 => ?_) (fun c49 => ?_)
          · have t14 : t = 14 := by omega
            refine w_aload_n d245_98 rfl ?_
            obtain ⟨g99, v99, s99⟩ := tg.al okb 6 (by decide)
            refine w_getstaticS d245_99 v99 ?_
            refine w_callv2 d245_102 (by omega) rfl (okb.kd hm) (by simp) (Nat.le_of_ble_eq_true rfl) ?_
            refine k_M_say okb (by omega) hm TE s99 (fun h102 m102 q102 TE => ?_)
            have f102 : Fr S m [1732, 1733] _ _ := Fr.mk okb m102 (fun ζ q => q.elim ((fun ζ e => Or.inl e) ζ) ((fun ζ e => Or.inr ⟨1732, by decide, e ▸ U_refl⟩) ζ)) q102 (by decide)
            have ok102 := f102.ok
            have FR102 := Fr.tr (F := [1713, 1714, 1715, 1716, 1717, 1718, 1719, 1678, 1679, 1680, 1672, 1673, 1708, 1709, 1683, 1685, 1686, 1687, 1688, 1698, 1699, 1700, 1689, 1690, 1691, 1692, 1693, 1694, 1695, 1696, 1697, 1681, 1682, 1684, 1677, 1710, 1711, 1712, 1701, 1702, 1703, 1668, 1707, 1667, 1666, 1671, 1670, 1706, 1704, 1732, 1733]) FRb f102 (by decide) (by decide)
            have AG := (congrFun (f102.ai (by have := kT1741 f102.1 hm; omega) (by decide) (by decide) (by decide)) 0).trans AG
            have GR := GR.r f102 hm
            have SP := (f102.i 1706).trans SP
            have GN := (f102.i 1704).trans GN
            refine w_return d245_105 ?_
            have rn : rF (goR (goG P nd 24 n s g k).1) < 0 := by
              rcases Int.lt_or_le (rF (goR (goG P nd 24 n s g k).1)) 0 with z | z
              · exact z
              · obtain ⟨u, u1, u2, u3, u4⟩ := En.2 z
                exact absurd u3 (hs u (by omega))
            refine kk _ FR102 GR SP GN ?_
            unfold endT
            rw [gf, if_neg (by decide), if_pos rn]
            exact TE
          · have t14 : t < 14 := by omega
            refine w_aload_n d245_52 rfl ?_
            refine w_getI (x := ((nn : Nat) : Int)) d245_53 (okb.kd hm) NE.1 ?_
            refine w_iload_n d245_56 rfl ?_
            refine w_ishr d245_57 ?_
            rw [shr_n (n := nn) (u := t) (by omega) (by omega)]
            refine w_iconst d245_58 (by decide) ?_
            refine w_iand d245_59 ?_
            rw [and_1 (a := nn / 2 ^ t) (div_lt (by omega))]
            refine w_ifeq d245_60 (fun c60 => ?_) (fun c60 => ?_)
            · have ne2 : rE (goR (goG P nd 24 n s g k).1) t ≠ 2 := fun z => by
                have a := ni1.1 t t14 (by omega)
                have b := (hN t a.1).mpr a.2
                unfold bt at b
                omega
              refine w_iinc1 d245_92 rfl (by constructor <;> omega) ?_
              refine w_goto d245_95 ?_
              rw [show ((t : Nat) : Int) + 1 = ((t + 1 : Nat) : Int) by omega]
              refine w_less ?_ (IH46 _ (by omega) (t + 1) rfl (by omega) (fun u hu => by rcases Nat.lt_or_ge u t with z | z; exact hs u z; rw [show u = t by omega]; exact ne2))
              exact ⟨Or.inr rfl, Or.inr rfl, trivial⟩
            · refine w_aload_n d245_63 rfl ?_
              refine w_dloadS d245_64 (okb.kd hm) (fr1707 okb hm) ?_
              refine w_iload_n d245_67 rfl ?_
              refine w_ialoadV (x := ((rE (goR (goG P nd 24 n s g k).1) t : Nat) : Int)) d245_68 (gi1707 okb hm (by omega)) (ST t t14) ?_
              refine w_iconst d245_69 (by decide) ?_
              refine w_icmpeq d245_70 (fun c70 => ?_) (fun c70 => ?_)
              · have e2 : rE (goR (goG P nd 24 n s g k).1) t = 2 := by omega
                have tl := (ni1.1 t t14 (by omega)).1
                have eb := En.1 t t14
                have ec := eb.2.2 e2
                obtain ⟨u, u1, u2, u3, u4⟩ := En.2 ec.2.1
                have ut : u = t := by
                  rcases Nat.lt_or_ge u t with z | z
                  · exact absurd u3 (hs u z)
                  · omega
                rw [ut] at u1 u4
                refine w_aload_n d245_76 rfl ?_
                refine w_aload_n d245_77 rfl ?_
                refine w_dloadS d245_78 (okb.kd hm) (fr1665 okb hm) ?_
                refine w_iload_n d245_81 rfl ?_
                refine w_aload_n d245_82 rfl ?_
                refine w_dloadS d245_83 (okb.kd hm) (fr1668 okb hm) ?_
                refine w_iload_n d245_86 rfl ?_
                have k87 := kE1668 okb hm (j := t) (by omega)
                refine w_aaloadSN d245_87 (gi1668 okb hm (by omega)) (er1668 okb hm (by omega)) ?_
                refine w_callv4 d245_88 (by omega) rfl (okb.kd hm) (by simp) (Nat.le_of_ble_eq_true rfl) ?_
                refine k_M_sayFailed (fd := 1665) (g := 1668) (j := t) okb (by omega) hm TE TF tg (Or.inr rfl) tl (hcl t tl) (by decide) (by omega) rfl (BU t (by omega)) (fun h88 f88 TE => ?_)
                have ok88 := f88.ok
                have FR88 := Fr.tr (F := [1713, 1714, 1715, 1716, 1717, 1718, 1719, 1678, 1679, 1680, 1672, 1673, 1708, 1709, 1683, 1685, 1686, 1687, 1688, 1698, 1699, 1700, 1689, 1690, 1691, 1692, 1693, 1694, 1695, 1696, 1697, 1681, 1682, 1684, 1677, 1710, 1711, 1712, 1701, 1702, 1703, 1668, 1707, 1667, 1666, 1671, 1670, 1706, 1704, 1732, 1733]) FRb f88 (by decide) (by decide)
                have AG := (congrFun (f88.ai (by have := kT1741 f88.1 hm; omega) (by decide) (by decide) (by decide)) 0).trans AG
                have GR := GR.r f88 hm
                have SP := (f88.i 1706).trans SP
                have GN := (f88.i 1704).trans GN
                refine w_return d245_91 ?_
                refine kk _ FR88 GR SP GN ?_
                unfold endT
                rw [gf, if_neg (by decide), if_neg (by omega), u1, Int.toNat_natCast, u4]
                exact TE
              · have ne2 : rE (goR (goG P nd 24 n s g k).1) t ≠ 2 := by omega
                refine w_goto d245_73 ?_
                refine w_iinc1 d245_92 rfl (by constructor <;> omega) ?_
                refine w_goto d245_95 ?_
                rw [show ((t : Nat) : Int) + 1 = ((t + 1 : Nat) : Int) by omega]
                refine w_less ?_ (IH46 _ (by omega) (t + 1) rfl (by omega) (fun u hu => by rcases Nat.lt_or_ge u t with z | z; exact hs u z; rw [show u = t by omega]; exact ne2))
                exact ⟨Or.inr rfl, Or.inr rfl, trivial⟩
        refine w_less ?_ (L46 _ 0 rfl (Nat.zero_le _) (fun u hu => absurd hu (Nat.not_lt_zero _)))
        exact ⟨Or.inr rfl, Or.inr rfl, trivial⟩
      · have gt : (goG P nd 24 n s g k).2.1 = true := by
          cases hz : (goG P nd 24 n s g k).2.1 with
          | true => rfl
          | false => rw [hz] at c33; exact absurd rfl c33
        refine w_aload_n d245_36 rfl ?_
        obtain ⟨g37, v37, s37⟩ := tg.al okb 5 (by decide)
        refine w_getstaticS d245_37 v37 ?_
        refine w_callv2 d245_40 (by omega) rfl (okb.kd hm) (by simp) (Nat.le_of_ble_eq_true rfl) ?_
        refine k_M_say okb (by omega) hm TE s37 (fun h40 m40 q40 TE => ?_)
        have f40 : Fr S m [1732, 1733] _ _ := Fr.mk okb m40 (fun ζ q => q.elim ((fun ζ e => Or.inl e) ζ) ((fun ζ e => Or.inr ⟨1732, by decide, e ▸ U_refl⟩) ζ)) q40 (by decide)
        have ok40 := f40.ok
        have FR40 := Fr.tr (F := [1713, 1714, 1715, 1716, 1717, 1718, 1719, 1678, 1679, 1680, 1672, 1673, 1708, 1709, 1683, 1685, 1686, 1687, 1688, 1698, 1699, 1700, 1689, 1690, 1691, 1692, 1693, 1694, 1695, 1696, 1697, 1681, 1682, 1684, 1677, 1710, 1711, 1712, 1701, 1702, 1703, 1668, 1707, 1667, 1666, 1671, 1670, 1706, 1704, 1732, 1733]) FRb f40 (by decide) (by decide)
        have AG := (congrFun (f40.ai (by have := kT1741 f40.1 hm; omega) (by decide) (by decide) (by decide)) 0).trans AG
        have GR := GR.r f40 hm
        have SP := (f40.i 1706).trans SP
        have GN := (f40.i 1704).trans GN
        refine w_return d245_43 ?_
        refine kk _ FR40 GR SP GN ?_
        unfold endT
        rw [if_pos gt]
        exact TE
    refine w_icmpge d245_9 (fun c9 => ?_) (fun c9 => ?_)
    · have e9 : (goG P nd 24 n s g k) = (s1, g1, k1) := by
        rw [E1, show n - i = 0 by omega]
        rfl
      refine w_less ?_ (L29 _ q  rfl FRq (by rw [e9]; exact GR) (by rw [e9]; exact SP) (by rw [e9]; exact GN) (by rw [e9]; exact ni1) TE)
      exact ⟨Or.inr rfl, Or.inl rfl, trivial⟩
    · have hi : i < n := by omega
      refine w_aload_n d245_12 rfl ?_
      refine w_getI (x := (b2i g1)) d245_13 (okq.kd hm) GN ?_
      refine w_ifeq d245_16 (fun c16 => ?_) (fun c16 => ?_)
      · have gf : g1 = false := by
          cases hz : g1 with
          | true => rw [hz] at c16; exact absurd c16 (by decide)
          | false => rfl
        have e9 : (goG P nd 24 n s g k) = (s1, g1, k1) := by
          rw [E1, gf]
          exact goG_off
        refine w_less ?_ (L29 _ q  rfl FRq (by rw [e9]; exact GR) (by rw [e9]; exact SP) (by rw [e9]; exact GN) (by rw [e9]; exact ni1) TE)
        exact ⟨Or.inr rfl, Or.inl rfl, trivial⟩
      · have gt : g1 = true := by
          cases hz : g1 with
          | true => rfl
          | false => rw [hz] at c16; exact absurd rfl c16
        have GN1 : FI q 1704 m = 1 := by rw [GN, gt]; rfl
        refine w_aload_n d245_19 rfl ?_
        refine w_callv1 d245_20 (by omega) rfl (okq.kd hm) (by simp) (Nat.le_of_ble_eq_true rfl) ?_
        refine k_M_step okq (by omega) hm GR SP GN1 tg hN hH hO (by omega) lf1 (fun j => by have := ct j; have := hC j; omega) (fun h20 f20 GR SP GN => ?_)
        have ok20 := f20.ok
        have FR20 := Fr.tr (F := [1713, 1714, 1715, 1716, 1717, 1718, 1719, 1678, 1679, 1680, 1672, 1673, 1708, 1709, 1683, 1685, 1686, 1687, 1688, 1698, 1699, 1700, 1689, 1690, 1691, 1692, 1693, 1694, 1695, 1696, 1697, 1681, 1682, 1684, 1677, 1710, 1711, 1712, 1701, 1702, 1703, 1668, 1707, 1667, 1666, 1671, 1670, 1706, 1704, 1732, 1733]) FRq f20 (by decide) (by decide)
        have TE := TE.r f20 hm
        have AG := (congrFun (f20.ai (by have := kT1741 f20.1 hm; omega) (by decide) (by decide) (by decide)) 0).trans AG
        refine w_iinc1 d245_23 rfl (by constructor <;> omega) ?_
        refine w_goto d245_26 ?_
        rw [show ((i : Nat) : Int) + 1 = ((i + 1 : Nat) : Int) by omega]
        refine w_less ?_ (IH2 _ (by omega) h20 (i + 1) (trs P nd 24 s1 2) (onB P nd (trs P nd 24 s1 2)) (k1 + 1) rfl FR20 (by rw [E1, gt, goG_on (show 0 < n - i by omega), show n - i - 1 = n - (i + 1) by omega]) GR SP GN tl.1 (fun j => by have a := tl.2 j; have b := ct j; omega) ⟨by omega, by omega⟩ tn TE)
        exact ⟨Or.inr rfl, Or.inr rfl, trivial⟩
  refine w_less ?_ (L2 _ h 0 s g k rfl (Fr.refl ok) (by rw [Nat.sub_zero]) GR SP GN lf (fun j => Nat.le_refl _) ⟨Nat.le_refl _, Nat.zero_le _⟩ ni TE)
  exact ⟨Or.inr rfl, Or.inr rfl, trivial⟩
