/-! the house: chains of needs, all anew -/
/-- what a trial tells -/
def trT (v : HoS) (s : GoV) (g : Bool) : List Nat := if 0 ≤ rF (goR s) then endT v.1.2.2 g (rF (goR s)) (rT (goR s)) else (if srF (unlB (rE (goR s)) s.1 (seGo v.2.2).1) 14 0 < 0 then txt 38 else txt 39 ++ tgN (tD v.1.2.2 (srF (unlB (rE (goR s)) s.1 (seGo v.2.2).1) 14 0).toNat))
/-- all is worked anew -/
noncomputable def trG (v : HoS) (L f : Nat) (r : RunV) : GoV × Bool × Nat := goG v.1 (ndF v.1.2.2 f) L 1000000 ((fun _ => (false, [], [], [])), (fun _ => []), (fun _ => 0), [], run0 (run0 (rsC r (fun _ => 0)))) true 0
def chR (t : Nat) (v : HoS) (L : Nat) (f e : Int) (T : List Nat) : Prop :=
  if f < 0 ∨ e < 0 then T = txt 33 else if t = 21 then ∃ r, T = trT v (trG v L f.toNat r).1 (trG v L f.toNat r).2.1 else if t = 22 then ∃ sel ps, (∀ u, u < v.1.2.2.length → (sel u = true ↔ Rc v.1.2.2 f.toNat u ∧ u ≠ f.toNat)) ∧ List.Pairwise ltP ps ∧ (∀ n, n ∈ ps ↔ nmd v.1.2.2 f.toNat n) ∧ T = mkTxt v.1.2.2 sel v.1.2.2.length ++ psTxt ps
  else if t = 24 then ∃ mk, (∀ w, w < v.1.2.2.length → wayS v.1.2.2 mk e.toNat 14 w) ∧ T = (if mk f.toNat = 0 then txt 4 else tgN (tD v.1.2.2 f.toNat) ++ dnT v.1.2.2 mk ((mk f.toNat).toNat - 1) f.toNat)
  else ∃ mk, (∀ w, w < v.1.2.2.length → ∃ k : Nat, mk w = ((k + 1 : Nat) : Int) ∧ lng v.1.2.2 w k) ∧ T = dec (mk f.toNat).toNat ++ 32 :: tgN (tD v.1.2.2 f.toNat) ++ dnT v.1.2.2 mk ((mk f.toNat).toNat - 1) f.toNat
section HO7
variable {S : Shp} {h h' : Hp} {A : Nat → Prop} {w : HoS}
theorem HoC.tr (ok : Ok S h) (m : Mo S A h h') (hA : ∀ z, A z → U S (sT S 1287 (sX S)) z ∨ U S (sT S 1288 (sX S)) z) (nz : ∃ z, SeC S h' (sT S 1287 (sX S)) z) (hn : rl h' (sT S 1152 (sT S 1288 (sX S))) = []) (D : HoC S h w) : HoC S h' w := by
  obtain ⟨d1, d2, d3, d4, d5⟩ := D
  have ap : ∀ f, f < 4096 → f ≠ 1287 ∧ f ≠ 1288 → ∀ y, U S (sT S f (sX S)) y → ¬ A y := fun f hf hn y u q => (hA y q).elim (apX ok.so (f := f) (g := 1287) hf (by decide) hn.1 y u) (apX ok.so (f := f) (g := 1288) hf (by decide) hn.2 y u)
  exact ⟨d1.u ok m (kT1284 ok ok.kX) (ap 1284 (by decide) (by decide)), d2.u ok m (kT1285 ok ok.kX) (ap 1285 (by decide) (by decide)), d3.u ok m (kT1286 ok ok.kX) (ap 1286 (by decide) (by decide)), nz, hn⟩
theorem nm_tD {ts : List (Bool × TgV)} {p : Nat} (tc : TsC S h p ts) (u : Nat) : nmB (if 0 ≤ (u : Int) ∧ (u : Int) < ts.length then hd (tgN (tD ts u)) else 0) 8 = tgN (tD ts u) := by
  by_cases q : u < ts.length
  · rw [if_pos ⟨by omega, by omega⟩]
    exact nm_hd (tc.okn u q)
  · rw [if_neg (by omega), nmB_z]
    have e : tD ts u = ([], [], [], [], [], 0) := by
      unfold tD
      rw [List.getD_eq_getElem?_getD, List.getElem?_eq_none (by omega)]
      rfl
    rw [e]
    rfl
end HO7
theorem d147_0 : dc 147 0 = some (.aload_n 0, 1) := by decide +kernel
theorem d147_1 : dc 147 1 = some (.dload 1287, 4) := by decide +kernel
theorem d147_4 : dc 147 4 = some (.getfield 782, 7) := by decide +kernel
theorem d147_7 : dc 147 7 = some (.ifCond .lt ((26 : Nat) : Int), 10) := by decide +kernel
theorem d147_10 : dc 147 10 = some (.aload_n 0, 11) := by decide +kernel
theorem d147_11 : dc 147 11 = some (.dload 1287, 14) := by decide +kernel
theorem d147_14 : dc 147 14 = some (.aload_n 0, 15) := by decide +kernel
theorem d147_15 : dc 147 15 = some (.dload 1284, 18) := by decide +kernel
theorem d147_18 : dc 147 18 = some (.aload_n 0, 19) := by decide +kernel
theorem d147_19 : dc 147 19 = some (.dload 1281, 22) := by decide +kernel
theorem d147_22 : dc 147 22 = some (.invokevirtual 135, 25) := by decide +kernel
theorem d147_25 : dc 147 25 = some (.return_, 26) := by decide +kernel
theorem d147_26 : dc 147 26 = some (.aload_n 0, 27) := by decide +kernel
theorem d147_27 : dc 147 27 = some (.dload 1287, 30) := by decide +kernel
theorem d147_30 : dc 147 30 = some (.aload_n 0, 31) := by decide +kernel
theorem d147_31 : dc 147 31 = some (.dload 1286, 34) := by decide +kernel
theorem d147_34 : dc 147 34 = some (.dload 769, 37) := by decide +kernel
theorem d147_37 : dc 147 37 = some (.invokevirtual 148, 40) := by decide +kernel
theorem d147_40 : dc 147 40 = some (.istore_n 1, 41) := by decide +kernel
theorem d147_41 : dc 147 41 = some (.iload_n 1, 42) := by decide +kernel
theorem d147_42 : dc 147 42 = some (.ifCond .ge ((58 : Nat) : Int), 45) := by decide +kernel
theorem d147_45 : dc 147 45 = some (.aload_n 0, 46) := by decide +kernel
theorem d147_46 : dc 147 46 = some (.dload 1281, 49) := by decide +kernel
theorem d147_49 : dc 147 49 = some (.getstatic 88, 52) := by decide +kernel
theorem d147_52 : dc 147 52 = some (.invokevirtual 84, 55) := by decide +kernel
theorem d147_55 : dc 147 55 = some (.goto ((83 : Nat) : Int), 58) := by decide +kernel
theorem d147_58 : dc 147 58 = some (.aload_n 0, 59) := by decide +kernel
theorem d147_59 : dc 147 59 = some (.dload 1281, 62) := by decide +kernel
theorem d147_62 : dc 147 62 = some (.getstatic 89, 65) := by decide +kernel
theorem d147_65 : dc 147 65 = some (.invokevirtual 84, 68) := by decide +kernel
theorem d147_68 : dc 147 68 = some (.aload_n 0, 69) := by decide +kernel
theorem d147_69 : dc 147 69 = some (.dload 1281, 72) := by decide +kernel
theorem d147_72 : dc 147 72 = some (.aload_n 0, 73) := by decide +kernel
theorem d147_73 : dc 147 73 = some (.dload 1284, 76) := by decide +kernel
theorem d147_76 : dc 147 76 = some (.iload_n 1, 77) := by decide +kernel
theorem d147_77 : dc 147 77 = some (.invokevirtual 136, 80) := by decide +kernel
theorem d147_80 : dc 147 80 = some (.invokevirtual 104, 83) := by decide +kernel
theorem d147_83 : dc 147 83 = some (.return_, 84) := by decide +kernel
theorem k_Ho_tellTrial {S : Shp} {G : Nat → Option Nat} {d : Nat} {h : Hp} {Q : Option MV → Hp → Prop} (ok : Ok S h) (h1 : 6 ≤ d) (tg : Tg S G) {v : HoS} {Pz : PlV} {rez : Nat → OutV} {edz : Nat → Nat → Nat} {nz : Nat → Nat} {s : GoV} {gz yz : Bool} {kz : Nat} {y0 : Bool} (pl : PlC S h (sT S 1284 (sX S)) v.1) (sd : SesG S h (sT S 1287 (sX S)) Pz rez edz nz s gz kz yz) (ss : SesG S h (sT S 1286 (sX S)) v.2.2.1 v.2.2.2.1 v.2.2.2.2.1 v.2.2.2.2.2.1 (seGo v.2.2) v.2.2.2.2.2.2.2.1 v.2.2.2.2.2.2.2.2 y0) (hf : rF (goR s) < v.1.2.2.length)
    (kk : ∀ h', Mo S (fun z => z = sT S 1281 (sX S)) h h' → rl h' (sT S 1281 (sX S)) = addBs (cap h (sT S 1281 (sX S))) (rl h (sT S 1281 (sX S))) (trT v s gz) → cap h' (sT S 1281 (sX S)) = cap h (sT S 1281 (sX S)) → Q none h') : Cl G d 147 [vR (some (sX S))] h Q := by
  show Wp G d 147 0 [some (vR (some (sX S))), none] [] h Q
  have kq := kT1282 ok ok.kX
  have kp := kT1284 ok ok.kX
  have kv := kT1285 ok ok.kX
  have ks0 := kT1286 ok ok.kX
  have kl := kT1281 ok ok.kX
  have kt0 := kT1287 ok ok.kX
  refine w_aload_n d147_0 rfl ?_
  refine w_dloadS d147_1 (ok.kd ok.kX) (fr1287 ok ok.kX) ?_
  refine w_getI (x := (rF (goR s))) d147_4 (ok.kd (kT1287 ok ok.kX)) sd.2.2.1.2.2.2.2.2.2.2.1 ?_
  refine w_iflt d147_7 (fun c7 => ?_) (fun c7 => ?_)
  · have nf : ¬ 0 ≤ rF (goR s) := by omega
    refine w_aload_n d147_26 rfl ?_
    refine w_dloadS d147_27 (ok.kd ok.kX) (fr1287 ok ok.kX) ?_
    refine w_aload_n d147_30 rfl ?_
    refine w_dloadS d147_31 (ok.kd ok.kX) (fr1286 ok ok.kX) ?_
    refine w_dloadS d147_34 (ok.kd (kT1286 ok ok.kX)) (fr769 ok (kT1286 ok ok.kX)) ?_
    refine w_callv2 d147_37 (by omega) rfl (ok.kd (kT1287 ok ok.kX)) (by simp) (Nat.le_of_ble_eq_true rfl) ?_
    have ur := srF_rg (p := unlB (rE (goR s)) s.1 (seGo v.2.2).1) (n := 14) (i := 0)
    refine k_Se_lowestUnlike ok (by omega) kt0 (kT769 ok ks0) sd.2.2.1 sd.2.1.1 ss.2.1.1 ?_
    refine w_istore1 d147_40 rfl ?_
    refine w_iload_n d147_41 rfl ?_
    refine w_ifge d147_42 (fun c42 => ?_) (fun c42 => ?_)
    · obtain ⟨u, hu⟩ : ∃ u : Nat, (srF (unlB (rE (goR s)) s.1 (seGo v.2.2).1) 14 0) = u := ⟨_, (Int.toNat_of_nonneg (by omega)).symm⟩
      rw [hu]
      refine w_aload_n d147_58 rfl ?_
      refine w_dloadS d147_59 (ok.kd ok.kX) (fr1281 ok ok.kX) ?_
      obtain ⟨g62, v62, s62⟩ := tg.tx ok 39 (by decide)
      refine w_getstaticS d147_62 v62 ?_
      refine w_callv2 d147_65 (by omega) rfl (ok.kd (kT1281 ok ok.kX)) (by simp) (Nat.le_of_ble_eq_true rfl) ?_
      refine r_Row_addText (by omega) ok (kT1281 ok ok.kX) s62 (fun h65 m65 e65_1 e65_2 => ?_)
      have ok65 := m65.ok
      have M65 := Mo.tr ok (Mo.refl (A := (fun ζ => ζ = (sT S 1281 (sX S)))) ok) m65 (fun ζ e => e)
      refine w_aload_n d147_68 rfl ?_
      refine w_dloadS d147_69 (ok65.kd ok.kX) (fr1281 ok65 ok.kX) ?_
      refine w_aload_n d147_72 rfl ?_
      refine w_dloadS d147_73 (ok65.kd ok.kX) (fr1284 ok65 ok.kX) ?_
      refine w_iload_n d147_76 rfl ?_
      refine w_callv2 d147_77 (by omega) rfl (ok65.kd (kT1284 ok65 ok.kX)) (by simp) (Nat.le_of_ble_eq_true rfl) ?_
      have tc2 := pl.2.2.mo ok m65 kp (fun z u q => ok.so.nUT (f := 1284) (g := 1281) (x := sX S) (by decide) (by decide) (by decide) (q ▸ u))
      refine k_Plan_nameOf ok65 (by omega) kp tc2 ?_
      refine w_callv2 d147_80 (by omega) rfl (ok65.kd (kT1281 ok65 ok.kX)) (by simp) (Nat.le_of_ble_eq_true rfl) ?_
      refine r_Row_addName (by omega) ok65 (kT1281 ok65 ok.kX) (fun h80 m80 e80_1 e80_2 => ?_)
      have ok80 := m80.ok
      have M80 := Mo.tr ok M65 m80 (fun ζ e => e)
      refine w_return d147_83 ?_
      refine kk h80 M80 ?_ (by rw [e80_2, e65_2])
      unfold trT
      rw [if_neg nf, if_neg (by omega), e80_1, e65_1, e65_2, addBs3, hu, show ((u : Nat) : Int).toNat = u from rfl, nm_tD pl.2.2 u]
    · refine w_aload_n d147_45 rfl ?_
      refine w_dloadS d147_46 (ok.kd ok.kX) (fr1281 ok ok.kX) ?_
      obtain ⟨g49, v49, s49⟩ := tg.tx ok 38 (by decide)
      refine w_getstaticS d147_49 v49 ?_
      refine w_callv2 d147_52 (by omega) rfl (ok.kd (kT1281 ok ok.kX)) (by simp) (Nat.le_of_ble_eq_true rfl) ?_
      refine r_Row_addText (by omega) ok (kT1281 ok ok.kX) s49 (fun h52 m52 e52_1 e52_2 => ?_)
      have ok52 := m52.ok
      have M52 := Mo.tr ok (Mo.refl (A := (fun ζ => ζ = (sT S 1281 (sX S)))) ok) m52 (fun ζ e => e)
      refine w_goto d147_55 ?_
      refine w_return d147_83 ?_
      exact kk h52 M52 (by unfold trT; rw [if_neg nf, if_pos (by omega)]; exact e52_1) e52_2
  · refine w_aload_n d147_10 rfl ?_
    refine w_dloadS d147_11 (ok.kd ok.kX) (fr1287 ok ok.kX) ?_
    refine w_aload_n d147_14 rfl ?_
    refine w_dloadS d147_15 (ok.kd ok.kX) (fr1284 ok ok.kX) ?_
    refine w_aload_n d147_18 rfl ?_
    refine w_dloadS d147_19 (ok.kd ok.kX) (fr1281 ok ok.kX) ?_
    refine w_callv3 d147_22 (by omega) rfl (ok.kd (kT1287 ok ok.kX)) (by simp) (Nat.le_of_ble_eq_true rfl) ?_
    refine k_Se_tellEnd (ts := v.1.2.2) ok (by omega) kt0 kp kl tg sd.2.2.1 sd.2.2.2.2.1 pl.2.2 hf (fun u => ok.so.nUT (f := 1287) (g := 1281) (x := sX S) (by decide) (by decide) (by decide) u) (fun u => ok.so.nUT (f := 1284) (g := 1281) (x := sX S) (by decide) (by decide) (by decide) u) (fun h22 m22 e22_1 e22_2 => ?_)
    have ok22 := m22.ok
    have M22 := Mo.tr ok (Mo.refl (A := (fun ζ => ζ = (sT S 1281 (sX S)))) ok) m22 (fun ζ e => e)
    refine w_return d147_25 ?_
    exact kk h22 M22 (by unfold trT; rw [if_pos (by omega)]; exact e22_1) e22_2
theorem d146_0 : dc 146 0 = some (.aload_n 0, 1) := by decide +kernel
theorem d146_1 : dc 146 1 = some (.dload 1284, 4) := by decide +kernel
theorem d146_4 : dc 146 4 = some (.aload_n 0, 5) := by decide +kernel
theorem d146_5 : dc 146 5 = some (.dload 1282, 8) := by decide +kernel
theorem d146_8 : dc 146 8 = some (.dload 517, 11) := by decide +kernel
theorem d146_11 : dc 146 11 = some (.iconst 0, 12) := by decide +kernel
theorem d146_12 : dc 146 12 = some (.laload, 13) := by decide +kernel
theorem d146_13 : dc 146 13 = some (.invokevirtual 79, 16) := by decide +kernel
theorem d146_16 : dc 146 16 = some (.istore_n 1, 17) := by decide +kernel
theorem d146_17 : dc 146 17 = some (.aload_n 0, 18) := by decide +kernel
theorem d146_18 : dc 146 18 = some (.dload 1282, 21) := by decide +kernel
theorem d146_21 : dc 146 21 = some (.dload 514, 24) := by decide +kernel
theorem d146_24 : dc 146 24 = some (.getstatic 24, 27) := by decide +kernel
theorem d146_27 : dc 146 27 = some (.if_acmp .ne ((49 : Nat) : Int), 30) := by decide +kernel
theorem d146_30 : dc 146 30 = some (.aload_n 0, 31) := by decide +kernel
theorem d146_31 : dc 146 31 = some (.dload 1284, 34) := by decide +kernel
theorem d146_34 : dc 146 34 = some (.aload_n 0, 35) := by decide +kernel
theorem d146_35 : dc 146 35 = some (.dload 1282, 38) := by decide +kernel
theorem d146_38 : dc 146 38 = some (.dload 517, 41) := by decide +kernel
theorem d146_41 : dc 146 41 = some (.iconst 1, 42) := by decide +kernel
theorem d146_42 : dc 146 42 = some (.laload, 43) := by decide +kernel
theorem d146_43 : dc 146 43 = some (.invokevirtual 79, 46) := by decide +kernel
theorem d146_46 : dc 146 46 = some (.goto ((50 : Nat) : Int), 49) := by decide +kernel
theorem d146_49 : dc 146 49 = some (.iload_n 1, 50) := by decide +kernel
theorem d146_50 : dc 146 50 = some (.istore_n 2, 51) := by decide +kernel
theorem d146_51 : dc 146 51 = some (.iload_n 1, 52) := by decide +kernel
theorem d146_52 : dc 146 52 = some (.ifCond .lt ((59 : Nat) : Int), 55) := by decide +kernel
theorem d146_55 : dc 146 55 = some (.iload_n 2, 56) := by decide +kernel
theorem d146_56 : dc 146 56 = some (.ifCond .ge ((70 : Nat) : Int), 59) := by decide +kernel
theorem d146_59 : dc 146 59 = some (.aload_n 0, 60) := by decide +kernel
theorem d146_60 : dc 146 60 = some (.dload 1281, 63) := by decide +kernel
theorem d146_63 : dc 146 63 = some (.getstatic 83, 66) := by decide +kernel
theorem d146_66 : dc 146 66 = some (.invokevirtual 84, 69) := by decide +kernel
theorem d146_69 : dc 146 69 = some (.return_, 70) := by decide +kernel
theorem d146_70 : dc 146 70 = some (.getstatic 40, 73) := by decide +kernel
theorem d146_73 : dc 146 73 = some (.aload_n 0, 74) := by decide +kernel
theorem d146_74 : dc 146 74 = some (.dload 1282, 77) := by decide +kernel
theorem d146_77 : dc 146 77 = some (.dload 514, 80) := by decide +kernel
theorem d146_80 : dc 146 80 = some (.invokestatic 2, 83) := by decide +kernel
theorem d146_83 : dc 146 83 = some (.iaload, 84) := by decide +kernel
theorem d146_84 : dc 146 84 = some (.tableswitch ((198 : Nat) : Int) 26 29 #[((116 : Nat) : Int), ((152 : Nat) : Int), ((167 : Nat) : Int), ((183 : Nat) : Int)], 116) := by decide +kernel
theorem d146_116 : dc 146 116 = some (.aload_n 0, 117) := by decide +kernel
theorem d146_117 : dc 146 117 = some (.dload 1287, 120) := by decide +kernel
theorem d146_120 : dc 146 120 = some (.invokevirtual 55, 123) := by decide +kernel
theorem d146_123 : dc 146 123 = some (.aload_n 0, 124) := by decide +kernel
theorem d146_124 : dc 146 124 = some (.dload 1287, 127) := by decide +kernel
theorem d146_127 : dc 146 127 = some (.aload_n 0, 128) := by decide +kernel
theorem d146_128 : dc 146 128 = some (.dload 1284, 131) := by decide +kernel
theorem d146_131 : dc 146 131 = some (.iload_n 1, 132) := by decide +kernel
theorem d146_132 : dc 146 132 = some (.invokevirtual 96, 135) := by decide +kernel
theorem d146_135 : dc 146 135 = some (.aload_n 0, 136) := by decide +kernel
theorem d146_136 : dc 146 136 = some (.dload 1287, 139) := by decide +kernel
theorem d146_139 : dc 146 139 = some (.iconst 1000000, 142) := by decide +kernel
theorem d146_142 : dc 146 142 = some (.invokevirtual 99, 145) := by decide +kernel
theorem d146_145 : dc 146 145 = some (.aload_n 0, 146) := by decide +kernel
theorem d146_146 : dc 146 146 = some (.invokevirtual 147, 149) := by decide +kernel
theorem d146_149 : dc 146 149 = some (.goto ((198 : Nat) : Int), 152) := by decide +kernel
theorem d146_152 : dc 146 152 = some (.aload_n 0, 153) := by decide +kernel
theorem d146_153 : dc 146 153 = some (.dload 1284, 156) := by decide +kernel
theorem d146_156 : dc 146 156 = some (.iload_n 1, 157) := by decide +kernel
theorem d146_157 : dc 146 157 = some (.aload_n 0, 158) := by decide +kernel
theorem d146_158 : dc 146 158 = some (.dload 1281, 161) := by decide +kernel
theorem d146_161 : dc 146 161 = some (.invokevirtual 149, 164) := by decide +kernel
theorem d146_164 : dc 146 164 = some (.goto ((198 : Nat) : Int), 167) := by decide +kernel
theorem d146_167 : dc 146 167 = some (.aload_n 0, 168) := by decide +kernel
theorem d146_168 : dc 146 168 = some (.dload 1284, 171) := by decide +kernel
theorem d146_171 : dc 146 171 = some (.iload_n 1, 172) := by decide +kernel
theorem d146_172 : dc 146 172 = some (.iload_n 2, 173) := by decide +kernel
theorem d146_173 : dc 146 173 = some (.aload_n 0, 174) := by decide +kernel
theorem d146_174 : dc 146 174 = some (.dload 1281, 177) := by decide +kernel
theorem d146_177 : dc 146 177 = some (.invokevirtual 152, 180) := by decide +kernel
theorem d146_180 : dc 146 180 = some (.goto ((198 : Nat) : Int), 183) := by decide +kernel
theorem d146_183 : dc 146 183 = some (.aload_n 0, 184) := by decide +kernel
theorem d146_184 : dc 146 184 = some (.dload 1284, 187) := by decide +kernel
theorem d146_187 : dc 146 187 = some (.iload_n 1, 188) := by decide +kernel
theorem d146_188 : dc 146 188 = some (.aload_n 0, 189) := by decide +kernel
theorem d146_189 : dc 146 189 = some (.dload 1281, 192) := by decide +kernel
theorem d146_192 : dc 146 192 = some (.invokevirtual 155, 195) := by decide +kernel
theorem d146_195 : dc 146 195 = some (.goto ((198 : Nat) : Int), 198) := by decide +kernel
theorem d146_198 : dc 146 198 = some (.return_, 199) := by decide +kernel
theorem k_Ho_tellChain {S : Shp} {G : Nat → Option Nat} {d : Nat} {h : Hp} {Q : Option MV → Hp → Prop} (ok : Ok S h) (h1 : 11 ≤ d) (tg : Tg S G) {t : Nat} (ht35 : t < 35) (hvb : FR h 514 (sT S 1282 (sX S)) = G t) (ht : t = 21 ∨ t = 22 ∨ t = 24 ∨ t = 25) {v : HoS} {n n2 : List Nat} (D : HoC S h v) (hx : AL h (sT S 517 (sT S 1282 (sX S))) 0 = hd n) (ho : okN n) (h24 : t = 24 → AL h (sT S 517 (sT S 1282 (sX S))) 1 = hd n2 ∧ okN n2) (hla : rl h (sT S 1281 (sX S)) = []) (hnz : ∀ u m, nmd v.1.2.2 u m → m ≠ []) (hac : acy v.1.2.2)
    (kk : ∀ h' T, Mo S (fun z => z = sT S 1281 (sX S) ∨ z = sT S 393 (sT S 1284 (sX S)) ∨ U S (sT S 1287 (sX S)) z ∨ U S (sT S 1288 (sX S)) z) h h' → chR t v (stL S (sT S 1287 (sX S))) (tat v.1.2.2 n) (if t = 24 then tat v.1.2.2 n2 else tat v.1.2.2 n) T → HoC S h' v → rl h' (sT S 1281 (sX S)) = addBs (cap h (sT S 1281 (sX S))) [] T → cap h' (sT S 1281 (sX S)) = cap h (sT S 1281 (sX S)) → Q none h') : Cl G d 146 [vR (some (sX S))] h Q := by
  show Wp G d 146 0 [some (vR (some (sX S))), none, none] [] h Q
  obtain ⟨vb, g1, g2, g3, g4, g5, g6⟩ := tg.vb ok t ht35
  obtain ⟨sw, w1, w2, w3, w4⟩ := tg.sw ok
  have kq := kT1282 ok ok.kX
  have kp := kT1284 ok ok.kX
  have kv := kT1285 ok ok.kX
  have ks0 := kT1286 ok ok.kX
  have kl := kT1281 ok ok.kX
  have kt0 := kT1287 ok ok.kX
  have k52 := kT1152 ok ok.kW
  obtain ⟨pl, d2, ⟨y0, sd, sI, sL_, sY⟩, ⟨z0, yz, z1, z2⟩, dno⟩ := id D
  have nla2 : ∀ f, 1284 ≤ f → f ≤ 1288 → ∀ z, U S (sT S f (sX S)) z → ¬ z = sT S 1281 (sX S) := fun f f1 f2 z u q => ok.so.nUT (f := f) (g := 1281) (x := sX S) (by omega) (by decide) (by omega) (q ▸ u)
  obtain ⟨vbw, y1, y2, y3, y4⟩ := tg.vb ok 24 (by decide)
  refine w_aload_n d146_0 rfl ?_
  refine w_dloadS d146_1 (ok.kd ok.kX) (fr1284 ok ok.kX) ?_
  refine w_aload_n d146_4 rfl ?_
  refine w_dloadS d146_5 (ok.kd ok.kX) (fr1282 ok ok.kX) ?_
  refine w_dloadS d146_8 (ok.kd (kT1282 ok ok.kX)) (fr517 ok (kT1282 ok ok.kX)) ?_
  refine w_iconst d146_11 (by decide) ?_
  refine w_laloadV (x := (AL h (sT S 517 (sT S 1282 (sX S))) 0)) d146_12 (gi517 ok (kT1282 ok ok.kX) (by omega)) rfl ?_
  refine w_callv2 d146_13 (by omega) rfl (ok.kd (kT1284 ok ok.kX)) (by simp) (Nat.le_of_ble_eq_true rfl) ?_
  have tr := tat_rg v.1.2.2 n
  refine k_Plan_targetAt ok (by omega) kp pl.2.2 ?_
  rw [show tatJ v.1.2.2 (AL h (sT S 517 (sT S 1282 (sX S))) 0) = tat v.1.2.2 n from (by rw [hx]; exact tatJ_eq pl.2.2.okn ho)]
  refine w_istore1 d146_16 rfl ?_
  refine w_aload_n d146_17 rfl ?_
  refine w_dloadS d146_18 (ok.kd ok.kX) (fr1282 ok ok.kX) ?_
  refine w_dloadS d146_21 (ok.kd (kT1282 ok ok.kX)) (hvb.trans g1) ?_
  refine w_getstaticS d146_24 y1 ?_
  refine w_acmpne d146_27 (fun c27 => ?_) (fun c27 => ?_)
  · have w24 : ¬ t = 24 := fun e => by rw [e] at g1; rw [g1] at y1; exact c27 y1
    refine w_iload_n d146_49 rfl ?_
    refine w_istore2 d146_50 rfl ?_
    refine w_iload_n d146_51 rfl ?_
    refine w_iflt d146_52 (fun c52 => ?_) (fun c52 => ?_)
    · have nn : tat v.1.2.2 n < 0 ∨ (if t = 24 then tat v.1.2.2 n2 else tat v.1.2.2 n) < 0 := by first | exact Or.inl (by omega) | exact Or.inr (by rw [if_pos w24]; omega) | exact Or.inr (by rw [if_neg w24]; omega)
      refine w_aload_n d146_59 rfl ?_
      refine w_dloadS d146_60 (ok.kd ok.kX) (fr1281 ok ok.kX) ?_
      obtain ⟨g63, v63, s63⟩ := tg.tx ok 33 (by decide)
      refine w_getstaticS d146_63 v63 ?_
      refine w_callv2 d146_66 (by omega) rfl (ok.kd (kT1281 ok ok.kX)) (by simp) (Nat.le_of_ble_eq_true rfl) ?_
      refine r_Row_addText (by omega) ok (kT1281 ok ok.kX) s63 (fun h66 m66 e66_1 e66_2 => ?_)
      have ok66 := m66.ok
      have M66 := Mo.tr ok (Mo.refl (A := (fun ζ => ζ = (sT S 1281 (sX S)) ∨ ζ = (sT S 393 (sT S 1284 (sX S))) ∨ U S (sT S 1287 (sX S)) ζ ∨ U S (sT S 1288 (sX S)) ζ)) ok) m66 (fun ζ e => (Or.inl e))
      refine w_return d146_69 ?_
      refine kk h66 (txt 33) M66 ?_ (D.f ok m66 nla2) (by rw [e66_1, hla]) e66_2
      unfold chR
      rw [if_pos nn]
    · refine w_iload_n d146_55 rfl ?_
      refine w_ifge d146_56 (fun c56 => ?_) (fun c56 => ?_)
      · have r2 := tat_rg v.1.2.2 n2
        have et24 : t = 24 → (if t = 24 then tat v.1.2.2 n2 else tat v.1.2.2 n).toNat = (tat v.1.2.2 n2).toNat := fun e => by rw [if_pos e]
        have nn : ¬ (tat v.1.2.2 n < 0 ∨ (if t = 24 then tat v.1.2.2 n2 else tat v.1.2.2 n) < 0) := fun q => by first | (rw [if_pos w24] at q; omega) | (rw [if_neg w24] at q; omega)
        have f0 : 0 ≤ tat v.1.2.2 n := by omega
        rw [show tat v.1.2.2 n = (((tat v.1.2.2 n).toNat : Nat) : Int) by omega]
        refine w_getstaticS d146_70 w1 ?_
        refine w_aload_n d146_73 rfl ?_
        refine w_dloadS d146_74 (ok.kd ok.kX) (fr1282 ok ok.kX) ?_
        refine w_dloadS d146_77 (ok.kd (kT1282 ok ok.kX)) (hvb.trans g1) ?_
        refine w_ordinal d146_80 ⟨g2, by simp, by omega⟩ ?_
        rw [g3]
        refine w_ialoadV (x := ((swB.getD t 0 : Nat) : Int)) d146_83 ⟨by rw [w2]; decide, by rw [w3]; exact ⟨by omega, by omega⟩⟩ (w4 t ht35) ?_
        by_cases s21 : t = 21
        · refine w_tsw 116 d146_84 (by rw [s21]; decide) ?_
          refine w_aload_n d146_116 rfl ?_
          refine w_dloadS d146_117 (ok.kd ok.kX) (fr1287 ok ok.kX) ?_
          refine w_callv1 d146_120 (by omega) rfl (ok.kd (kT1287 ok ok.kX)) (by simp) (Nat.le_of_ble_eq_true rfl) ?_
          refine k_Se_clear ok (by omega) kt0 z1 (fun h120 m120 e120_1 => ?_)
          have ok120 := m120.ok
          have M120 := Mo.tr ok (Mo.refl (A := (fun ζ => ζ = (sT S 1281 (sX S)) ∨ ζ = (sT S 393 (sT S 1284 (sX S))) ∨ U S (sT S 1287 (sX S)) ζ ∨ U S (sT S 1288 (sX S)) ζ)) ok) m120 (fun ζ u => (Or.inr (Or.inr (Or.inl (U_trans U_refl u)))))
          refine w_aload_n d146_123 rfl ?_
          refine w_dloadS d146_124 (ok120.kd ok.kX) (fr1287 ok120 ok.kX) ?_
          refine w_aload_n d146_127 rfl ?_
          refine w_dloadS d146_128 (ok120.kd ok.kX) (fr1284 ok120 ok.kX) ?_
          refine w_iload_n d146_131 rfl ?_
          refine w_callv3 d146_132 (by omega) rfl (ok120.kd (kT1287 ok120 ok.kX)) (by simp) (Nat.le_of_ble_eq_true rfl) ?_
          have pl120 := pl.u ok m120 kp (apX ok.so (f := 1284) (g := 1287) (by decide) (by decide) (by decide))
          refine k_Se_begin (t := (tat v.1.2.2 n).toNat) ok120 (by omega) kt0 kp e120_1 pl120 (by omega) (fun u => ok.so.nUT (f := 1287) (g := 1284) (x := sX S) (by decide) (by decide) (by decide) u) (apX ok.so (f := 1284) (g := 1287) (by decide) (by decide) (by decide)) (fun h132 nd2 m132 e132_1 e132_2 => ?_)
          have ok132 := m132.ok
          have M132 := Mo.tr ok M120 m132 (fun ζ u => (Or.inr (Or.inr (Or.inl (U_trans U_refl u)))))
          have G132 : SesG S h132 (sT S 1287 (sX S)) v.1 (fun _ => (false, [], [], [])) z0.2.2.1 (ndF v.1.2.2 (tat v.1.2.2 n).toNat) ((fun _ => (false, [], [], [])), (fun _ => []), (fun _ => 0), [], run0 (run0 (rsC (goR z0.2.2.2.2.1) (fun _ => 0)))) true 0 false := ⟨e132_1.1, e132_1.2.1, e132_1.2.2.1, fun u hu => (e132_1.2.2.2.1 u hu).trans (by rcases e132_2 u hu with ⟨q1, q2⟩ | ⟨q1, q2⟩; rw [q1, ndF_1 q2]; rw [q1, ndF_0 q2]), e132_1.2.2.2.2⟩
          have n132 : rl h132 (sT S 1152 (sT S 1288 (sX S))) = [] := by rw [m132.rb ok120 k52 (apX ok.so (f := 1288) (g := 1287) (by decide) (by decide) (by decide) _ (ok.so.uT (by decide) U_refl)), m120.rb ok k52 (apX ok.so (f := 1288) (g := 1287) (by decide) (by decide) (by decide) _ (ok.so.uT (by decide) U_refl))]; exact dno
          have RI := run0_I (P := v.1) (pu := fun _ => (false, [], [], [])) (pp := fun _ => []) (r := run0 (rsC (goR z0.2.2.2.2.1) (fun _ => 0))) (fun t ht hb => absurd hb Bool.false_ne_true)
          refine w_aload_n d146_135 rfl ?_
          refine w_dloadS d146_136 (ok132.kd ok.kX) (fr1287 ok132 ok.kX) ?_
          refine w_iconst d146_139 (by decide) ?_
          refine w_callv2 d146_142 (by omega) rfl (ok132.kd (kT1287 ok132 ok.kX)) (by simp) (Nat.le_of_ble_eq_true rfl) ?_
          refine k_Se_go (m := 1000000) (C := fun _ => 0) ok132 (by omega) kt0 tg ⟨G132, RI.1, RI.2, fun _ z => absurd z (by decide), fun j => Nat.le_refl _, n132⟩ (apX ok.so (f := 1287) (g := 1288) (by decide) (by decide) (by decide)) (fun j => by show 0 + 2 * 1000000 < 2147483647; decide) (by decide) (fun h142 y2 c2 m142 e142_1 e142_2 e142_3 => ?_)
          have ok142 := m142.ok
          have M142 := Mo.tr ok M132 m142 (fun z q => by rcases q with q | q | q | q | q | q | q | q | q | q | q | q | q; exact Or.inr (Or.inr (Or.inl q)); exact Or.inr (Or.inr (Or.inr (q ▸ U_refl))); all_goals exact Or.inr (Or.inr (Or.inr (q ▸ ok.so.uT (by decide) U_refl))))
          have subG : ∀ z, GA S (sT S 1287 (sX S)) z → U S (sT S 1287 (sX S)) z ∨ U S (sT S 1288 (sX S)) z := fun z q => by
            rcases q with q | q | q | q | q | q | q | q | q | q | q | q | q
            · exact Or.inl q
            · exact Or.inr (q ▸ U_refl)
            all_goals exact Or.inr (q ▸ ok.so.uT (by decide) U_refl)
          have N142 : Mo S (fun z => U S (sT S 1287 (sX S)) z ∨ U S (sT S 1288 (sX S)) z) h h142 := Mo.tr ok (Mo.tr ok (Mo.tr ok (Mo.refl ok) m120 (fun _ q => Or.inl q)) m132 (fun _ q => Or.inl q)) m142 subG
          have H142 : HoC S h142 v := D.tr ok N142 (fun _ q => q) ⟨(v.1, _, _, _, (trG v (stL S (sT S 1287 (sX S))) (tat v.1.2.2 n).toNat (goR z0.2.2.2.2.1))), y2, e142_2.1, e142_2.2.1, e142_2.2.2.1, e142_2.2.2.2.1⟩ e142_2.2.2.2.2.2
          have nl142 : ¬ (U S (sT S 1287 (sX S)) (sT S 1281 (sX S)) ∨ U S (sT S 1288 (sX S)) (sT S 1281 (sX S))) := fun q => q.elim (ok.so.nUT (f := 1287) (g := 1281) (x := sX S) (by decide) (by decide) (by decide)) (ok.so.nUT (f := 1288) (g := 1281) (x := sX S) (by decide) (by decide) (by decide))
          refine w_aload_n d146_145 rfl ?_
          refine w_callv1 d146_146 (by omega) rfl (ok142.kd ok.kX) (by simp) (Nat.le_of_ble_eq_true rfl) ?_
          obtain ⟨p142, v142, ⟨y142, s142, s142b⟩, t142⟩ := id H142
          refine k_Ho_tellTrial (v := v) (s := (trG v (stL S (sT S 1287 (sX S))) (tat v.1.2.2 n).toNat (goR z0.2.2.2.2.1)).1) (gz := (trG v (stL S (sT S 1287 (sX S))) (tat v.1.2.2 n).toNat (goR z0.2.2.2.2.1)).2.1) ok142 (by omega) tg p142 e142_2.1 s142 e142_2.2.1.2.2.2.1 (fun h146 m146 e146_1 e146_2 => ?_)
          have ok146 := m146.ok
          have M146 := Mo.tr ok M142 m146 (fun ζ e => (Or.inl e))
          refine w_goto d146_149 ?_
          refine w_return d146_198 ?_
          refine kk h146 (trT v (trG v (stL S (sT S 1287 (sX S))) (tat v.1.2.2 n).toNat (goR z0.2.2.2.2.1)).1 (trG v (stL S (sT S 1287 (sX S))) (tat v.1.2.2 n).toNat (goR z0.2.2.2.2.1)).2.1) M146 ?_ (H142.f ok142 m146 nla2) (by rw [e146_1, N142.rb ok kl nl142, hla, (N142.cp ok kl).2 nl142]) (by rw [e146_2, (N142.cp ok kl).2 nl142])
          unfold chR
          rw [if_neg nn, if_pos s21]
          exact ⟨goR z0.2.2.2.2.1, rfl⟩
        by_cases s22 : t = 22
        · refine w_tsw 152 d146_84 (by rw [s22]; decide) ?_
          refine w_aload_n d146_152 rfl ?_
          refine w_dloadS d146_153 (ok.kd ok.kX) (fr1284 ok ok.kX) ?_
          refine w_iload_n d146_156 rfl ?_
          refine w_aload_n d146_157 rfl ?_
          refine w_dloadS d146_158 (ok.kd ok.kX) (fr1281 ok ok.kX) ?_
          refine w_callv3 d146_161 (by omega) rfl (ok.kd (kT1284 ok ok.kX)) (by simp) (Nat.le_of_ble_eq_true rfl) ?_
          refine k_Plan_tellNeeds (t := (tat v.1.2.2 n).toNat) ok (by omega) kp kl pl.2.2 (by omega) (fun u => ok.so.nUT (f := 1284) (g := 1281) (x := sX S) (by decide) (by decide) (by decide) u) (hnz _) (fun h161 sel ps m161 e161_1 e161_2 e161_3 e161_4 e161_5 => ?_)
          have ok161 := m161.ok
          have M161 := Mo.tr ok (Mo.refl (A := (fun ζ => ζ = (sT S 1281 (sX S)) ∨ ζ = (sT S 393 (sT S 1284 (sX S))) ∨ U S (sT S 1287 (sX S)) ζ ∨ U S (sT S 1288 (sX S)) ζ)) ok) m161 (fun z q => q.elim (fun q => Or.inr (Or.inl q)) (fun q => Or.inl q))
          refine w_goto d146_164 ?_
          refine w_return d146_198 ?_
          refine kk h161 (mkTxt v.1.2.2 sel v.1.2.2.length ++ psTxt ps) M161 ?_ (D.mk ok m161 (fun z q => q.elim Or.inl (fun q => Or.inr (fun f f1 f2 u => nla2 f f1 f2 z u q)))) (by rw [e161_4, hla]) e161_5
          unfold chR
          rw [if_neg nn, if_neg s21, if_pos s22]
          exact ⟨sel, ps, e161_1, e161_2, e161_3, rfl⟩
        refine w_tsw 183 d146_84 (by rw [show t = 25 by omega]; decide) ?_
        refine w_aload_n d146_183 rfl ?_
        refine w_dloadS d146_184 (ok.kd ok.kX) (fr1284 ok ok.kX) ?_
        refine w_iload_n d146_187 rfl ?_
        refine w_aload_n d146_188 rfl ?_
        refine w_dloadS d146_189 (ok.kd ok.kX) (fr1281 ok ok.kX) ?_
        refine w_callv3 d146_192 (by omega) rfl (ok.kd (kT1284 ok ok.kX)) (by simp) (Nat.le_of_ble_eq_true rfl) ?_
        refine k_Plan_tellLongest (f := (tat v.1.2.2 n).toNat) ok (by omega) kp kl pl.2.2 hac (by omega) (fun u => ok.so.nUT (f := 1284) (g := 1281) (x := sX S) (by decide) (by decide) (by decide) u) (fun h192 mk m192 e192_1 e192_2 e192_3 => ?_)
        have ok192 := m192.ok
        have M192 := Mo.tr ok (Mo.refl (A := (fun ζ => ζ = (sT S 1281 (sX S)) ∨ ζ = (sT S 393 (sT S 1284 (sX S))) ∨ U S (sT S 1287 (sX S)) ζ ∨ U S (sT S 1288 (sX S)) ζ)) ok) m192 (fun z q => q.elim (fun q => Or.inr (Or.inl q)) (fun q => Or.inl q))
        refine w_goto d146_195 ?_
        refine w_return d146_198 ?_
        refine kk h192 (dec (mk (tat v.1.2.2 n).toNat).toNat ++ 32 :: tgN (tD v.1.2.2 (tat v.1.2.2 n).toNat) ++ dnT v.1.2.2 mk ((mk (tat v.1.2.2 n).toNat).toNat - 1) (tat v.1.2.2 n).toNat) M192 ?_ (D.mk ok m192 (fun z q => q.elim Or.inl (fun q => Or.inr (fun f f1 f2 u => nla2 f f1 f2 z u q)))) (by rw [e192_2, hla]) e192_3
        unfold chR
        rw [if_neg nn, if_neg s21, if_neg s22, if_neg w24]
        exact ⟨mk, e192_1, rfl⟩
      · have nn : tat v.1.2.2 n < 0 ∨ (if t = 24 then tat v.1.2.2 n2 else tat v.1.2.2 n) < 0 := by first | exact Or.inl (by omega) | exact Or.inr (by rw [if_pos w24]; omega) | exact Or.inr (by rw [if_neg w24]; omega)
        refine w_aload_n d146_59 rfl ?_
        refine w_dloadS d146_60 (ok.kd ok.kX) (fr1281 ok ok.kX) ?_
        obtain ⟨g63, v63, s63⟩ := tg.tx ok 33 (by decide)
        refine w_getstaticS d146_63 v63 ?_
        refine w_callv2 d146_66 (by omega) rfl (ok.kd (kT1281 ok ok.kX)) (by simp) (Nat.le_of_ble_eq_true rfl) ?_
        refine r_Row_addText (by omega) ok (kT1281 ok ok.kX) s63 (fun h66 m66 e66_1 e66_2 => ?_)
        have ok66 := m66.ok
        have M66 := Mo.tr ok (Mo.refl (A := (fun ζ => ζ = (sT S 1281 (sX S)) ∨ ζ = (sT S 393 (sT S 1284 (sX S))) ∨ U S (sT S 1287 (sX S)) ζ ∨ U S (sT S 1288 (sX S)) ζ)) ok) m66 (fun ζ e => (Or.inl e))
        refine w_return d146_69 ?_
        refine kk h66 (txt 33) M66 ?_ (D.f ok m66 nla2) (by rw [e66_1, hla]) e66_2
        unfold chR
        rw [if_pos nn]
  · have w24 : t = 24 := vb_inj tg ok ht35 (by decide) (by rw [g1, y1]; exact c27)
    refine w_aload_n d146_30 rfl ?_
    refine w_dloadS d146_31 (ok.kd ok.kX) (fr1284 ok ok.kX) ?_
    refine w_aload_n d146_34 rfl ?_
    refine w_dloadS d146_35 (ok.kd ok.kX) (fr1282 ok ok.kX) ?_
    refine w_dloadS d146_38 (ok.kd (kT1282 ok ok.kX)) (fr517 ok (kT1282 ok ok.kX)) ?_
    refine w_iconst d146_41 (by decide) ?_
    refine w_laloadV (x := (AL h (sT S 517 (sT S 1282 (sX S))) 1)) d146_42 (gi517 ok (kT1282 ok ok.kX) (by omega)) rfl ?_
    refine w_callv2 d146_43 (by omega) rfl (ok.kd (kT1284 ok ok.kX)) (by simp) (Nat.le_of_ble_eq_true rfl) ?_
    obtain ⟨hx2, ho2⟩ := h24 w24
    refine k_Plan_targetAt ok (by omega) kp pl.2.2 ?_
    rw [show tatJ v.1.2.2 (AL h (sT S 517 (sT S 1282 (sX S))) 1) = tat v.1.2.2 n2 from (by rw [hx2]; exact tatJ_eq pl.2.2.okn ho2)]
    refine w_goto d146_46 ?_
    refine w_istore2 d146_50 rfl ?_
    refine w_iload_n d146_51 rfl ?_
    refine w_iflt d146_52 (fun c52 => ?_) (fun c52 => ?_)
    · have nn : tat v.1.2.2 n < 0 ∨ (if t = 24 then tat v.1.2.2 n2 else tat v.1.2.2 n) < 0 := by first | exact Or.inl (by omega) | exact Or.inr (by rw [if_pos w24]; omega) | exact Or.inr (by rw [if_neg w24]; omega)
      refine w_aload_n d146_59 rfl ?_
      refine w_dloadS d146_60 (ok.kd ok.kX) (fr1281 ok ok.kX) ?_
      obtain ⟨g63, v63, s63⟩ := tg.tx ok 33 (by decide)
      refine w_getstaticS d146_63 v63 ?_
      refine w_callv2 d146_66 (by omega) rfl (ok.kd (kT1281 ok ok.kX)) (by simp) (Nat.le_of_ble_eq_true rfl) ?_
      refine r_Row_addText (by omega) ok (kT1281 ok ok.kX) s63 (fun h66 m66 e66_1 e66_2 => ?_)
      have ok66 := m66.ok
      have M66 := Mo.tr ok (Mo.refl (A := (fun ζ => ζ = (sT S 1281 (sX S)) ∨ ζ = (sT S 393 (sT S 1284 (sX S))) ∨ U S (sT S 1287 (sX S)) ζ ∨ U S (sT S 1288 (sX S)) ζ)) ok) m66 (fun ζ e => (Or.inl e))
      refine w_return d146_69 ?_
      refine kk h66 (txt 33) M66 ?_ (D.f ok m66 nla2) (by rw [e66_1, hla]) e66_2
      unfold chR
      rw [if_pos nn]
    · refine w_iload_n d146_55 rfl ?_
      refine w_ifge d146_56 (fun c56 => ?_) (fun c56 => ?_)
      · have r2 := tat_rg v.1.2.2 n2
        have et24 : t = 24 → (if t = 24 then tat v.1.2.2 n2 else tat v.1.2.2 n).toNat = (tat v.1.2.2 n2).toNat := fun e => by rw [if_pos e]
        have nn : ¬ (tat v.1.2.2 n < 0 ∨ (if t = 24 then tat v.1.2.2 n2 else tat v.1.2.2 n) < 0) := fun q => by first | (rw [if_pos w24] at q; omega) | (rw [if_neg w24] at q; omega)
        have f0 : 0 ≤ tat v.1.2.2 n := by omega
        rw [show tat v.1.2.2 n = (((tat v.1.2.2 n).toNat : Nat) : Int) by omega]
        refine w_getstaticS d146_70 w1 ?_
        refine w_aload_n d146_73 rfl ?_
        refine w_dloadS d146_74 (ok.kd ok.kX) (fr1282 ok ok.kX) ?_
        refine w_dloadS d146_77 (ok.kd (kT1282 ok ok.kX)) (hvb.trans g1) ?_
        refine w_ordinal d146_80 ⟨g2, by simp, by omega⟩ ?_
        rw [g3]
        refine w_ialoadV (x := ((swB.getD t 0 : Nat) : Int)) d146_83 ⟨by rw [w2]; decide, by rw [w3]; exact ⟨by omega, by omega⟩⟩ (w4 t ht35) ?_
        refine w_tsw 167 d146_84 (by rw [w24]; decide) ?_
        refine w_aload_n d146_167 rfl ?_
        refine w_dloadS d146_168 (ok.kd ok.kX) (fr1284 ok ok.kX) ?_
        refine w_iload_n d146_171 rfl ?_
        refine w_iload_n d146_172 rfl ?_
        refine w_aload_n d146_173 rfl ?_
        refine w_dloadS d146_174 (ok.kd ok.kX) (fr1281 ok ok.kX) ?_
        refine w_callv4 d146_177 (by omega) rfl (ok.kd (kT1284 ok ok.kX)) (by simp) (Nat.le_of_ble_eq_true rfl) ?_
        have e0 : 0 ≤ tat v.1.2.2 n2 := by omega
        rw [show tat v.1.2.2 n2 = (((tat v.1.2.2 n2).toNat : Nat) : Int) by omega]
        refine k_Plan_tellWay (f := (tat v.1.2.2 n).toNat) (to := (tat v.1.2.2 n2).toNat) ok (by omega) kp kl tg pl.2.2 (by omega) (by omega) (fun u => ok.so.nUT (f := 1284) (g := 1281) (x := sX S) (by decide) (by decide) (by decide) u) (fun h177 mk m177 e177_1 e177_2 e177_3 => ?_)
        have ok177 := m177.ok
        have M177 := Mo.tr ok (Mo.refl (A := (fun ζ => ζ = (sT S 1281 (sX S)) ∨ ζ = (sT S 393 (sT S 1284 (sX S))) ∨ U S (sT S 1287 (sX S)) ζ ∨ U S (sT S 1288 (sX S)) ζ)) ok) m177 (fun z q => q.elim (fun q => Or.inr (Or.inl q)) (fun q => Or.inl q))
        refine w_goto d146_180 ?_
        refine w_return d146_198 ?_
        refine kk h177 (if mk (tat v.1.2.2 n).toNat = 0 then txt 4 else tgN (tD v.1.2.2 (tat v.1.2.2 n).toNat) ++ dnT v.1.2.2 mk ((mk (tat v.1.2.2 n).toNat).toNat - 1) (tat v.1.2.2 n).toNat) M177 ?_ (D.mk ok m177 (fun z q => q.elim Or.inl (fun q => Or.inr (fun f f1 f2 u => nla2 f f1 f2 z u q)))) (by rw [e177_2, hla]) e177_3
        unfold chR
        rw [if_neg nn, if_neg (by omega), if_neg (by omega), if_pos w24]
        exact ⟨mk, by rw [et24 w24]; exact e177_1, rfl⟩
      · have nn : tat v.1.2.2 n < 0 ∨ (if t = 24 then tat v.1.2.2 n2 else tat v.1.2.2 n) < 0 := by first | exact Or.inl (by omega) | exact Or.inr (by rw [if_pos w24]; omega) | exact Or.inr (by rw [if_neg w24]; omega)
        refine w_aload_n d146_59 rfl ?_
        refine w_dloadS d146_60 (ok.kd ok.kX) (fr1281 ok ok.kX) ?_
        obtain ⟨g63, v63, s63⟩ := tg.tx ok 33 (by decide)
        refine w_getstaticS d146_63 v63 ?_
        refine w_callv2 d146_66 (by omega) rfl (ok.kd (kT1281 ok ok.kX)) (by simp) (Nat.le_of_ble_eq_true rfl) ?_
        refine r_Row_addText (by omega) ok (kT1281 ok ok.kX) s63 (fun h66 m66 e66_1 e66_2 => ?_)
        have ok66 := m66.ok
        have M66 := Mo.tr ok (Mo.refl (A := (fun ζ => ζ = (sT S 1281 (sX S)) ∨ ζ = (sT S 393 (sT S 1284 (sX S))) ∨ U S (sT S 1287 (sX S)) ζ ∨ U S (sT S 1288 (sX S)) ζ)) ok) m66 (fun ζ e => (Or.inl e))
        refine w_return d146_69 ?_
        refine kk h66 (txt 33) M66 ?_ (D.f ok m66 nla2) (by rw [e66_1, hla]) e66_2
        unfold chR
        rw [if_pos nn]
