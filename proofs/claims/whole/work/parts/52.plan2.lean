/-! a plan: flags, targets, copies -/
section EQ
variable {S : Shp} {h h' : Hp} {p : Nat}
theorem FilC.eq {fl : List (List Nat × List Nat)} (D : FilC S h p fl) (e1 : FI h' 384 p = FI h 384 p) (e2 : AL h' (sT S 385 p) = AL h (sT S 385 p)) (e3 : AL h' (sT S 386 p) = AL h (sT S 386 p)) (e4 : AR h' (sT S 387 p) = AR h (sT S 387 p)) (e5 : ∀ i, i < 16 → rl h' (sE S (sT S 387 p) i) = rl h (sE S (sT S 387 p) i)) : FilC S h' p fl := by
  obtain ⟨σ, s1, s2, d1, d2, d3⟩ := D
  refine ⟨σ, fun i hi => ⟨(s1 i hi).1, by rw [e4]; exact (s1 i hi).2⟩, s2, by rw [e1]; exact d1, d2, fun i hi => ?_⟩
  rw [e2, e3, e5 _ (s1 i (by omega)).1]
  exact d3 i hi
theorem GsC.eq {gs : List (List Nat × Nat)} (D : GsC S h p gs) (e1 : FI h' 388 p = FI h 388 p) (e2 : AL h' (sT S 389 p) = AL h (sT S 389 p)) (e3 : AI h' (sT S 390 p) = AI h (sT S 390 p)) : GsC S h' p gs := by
  obtain ⟨d1, d2, d3⟩ := D
  refine ⟨by rw [e1]; exact d1, d2, fun i hi => ?_⟩
  rw [e2, e3]
  exact d3 i hi
theorem TsC.eq {ts : List (Bool × TgV)} (D : TsC S h p ts) (e1 : FI h' 391 p = FI h 391 p) (e2 : ∀ i, i < ts.length → FI h' 128 (sE S (sT S 392 p) i) = FI h 128 (sE S (sT S 392 p) i) ∧ ∀ t tx, DefC S h (sE S (sT S 392 p) i) t tx → DefC S h' (sE S (sT S 392 p) i) t tx) : TsC S h' p ts := by
  obtain ⟨d1, d2, d3⟩ := D
  refine ⟨by rw [e1]; exact d1, d2, fun i hi => ?_⟩
  rw [(e2 i hi).1]
  exact ⟨(d3 i hi).1, (e2 i hi).2 _ _ (d3 i hi).2.1, (d3 i hi).2.2⟩
variable {A : Nat → Prop}
/-- what changes nothing of the files -/
theorem FilC.fr {fl : List (List Nat × List Nat)} (ok : Ok S h) (m : Mo S A h h') (hp : sK S p = 4) (h0 : ¬ A p ∨ FI h' 384 p = FI h 384 p) (hT : ∀ f, f = 385 ∨ f = 386 ∨ f = 387 → ¬ A (sT S f p)) (hE : ∀ i, i < 16 → ¬ A (sE S (sT S 387 p) i)) (D : FilC S h p fl) : FilC S h' p fl := by
  have k5 := kT385 ok hp
  have k6 := kT386 ok hp
  have k7 := kT387 ok hp
  refine D.eq ?_ (m.al ok (by omega) (hT 385 (by decide))) (m.al ok (by omega) (hT 386 (by decide))) (m.ar ok (by omega) (hT 387 (by decide))) (fun i hi => m.rb ok (kE387 ok hp hi) (hE i hi))
  rcases h0 with h0 | h0
  · exact m.fi ok (by omega) h0 384
  · exact h0
theorem GsC.fr {gs : List (List Nat × Nat)} (ok : Ok S h) (m : Mo S A h h') (hp : sK S p = 4) (h0 : ¬ A p ∨ FI h' 388 p = FI h 388 p) (hT : ∀ f, f = 389 ∨ f = 390 → ¬ A (sT S f p)) (D : GsC S h p gs) : GsC S h' p gs := by
  have k5 := kT389 ok hp
  have k6 := kT390 ok hp
  refine D.eq ?_ (m.al ok (by omega) (hT 389 (by decide))) (m.ai ok (by omega) (hT 390 (by decide)))
  rcases h0 with h0 | h0
  · exact m.fi ok (by omega) h0 388
  · exact h0
theorem TsC.fr {ts : List (Bool × TgV)} (ok : Ok S h) (m : Mo S A h h') (hp : sK S p = 4) (h0 : ¬ A p ∨ FI h' 391 p = FI h 391 p) (hE : ∀ i y, i < ts.length → U S (sE S (sT S 392 p) i) y → ¬ A y) (D : TsC S h p ts) : TsC S h' p ts := by
  have hl := D.2.1
  refine D.eq ?_ (fun i hi => ?_)
  · rcases h0 with h0 | h0
    · exact m.fi ok (by omega) h0 391
    · exact h0
  · have k := kE392 ok hp (j := i) (by omega)
    exact ⟨m.fi ok (by omega) (hE i _ hi U_refl) 128, fun t tx D => D.mo ok m k (hE i · hi)⟩
/-- what lies below a definition of a plan -/
theorem SOk.defN (so : SOk S) {i f : Nat} (hi : i < 4096) (hf : f < 4096) (hfn : f ≠ 392) : ¬ U S (sE S (sT S 392 p) i) p ∧ ¬ U S (sE S (sT S 392 p) i) (sT S f p) ∧ ∀ j, j < 4096 → ¬ U S (sE S (sT S 392 p) i) (sE S (sT S f p) j) := by
  have a1 := so.ltT (f := 392) (a := p) (by decide)
  have a2 := so.ltE (b := sT S 392 p) (j := i) hi
  have b1 : ¬ U S (sE S (sT S 392 p) i) p := fun u => by have := so.uLe u; omega
  have b2 : ¬ U S (sE S (sT S 392 p) i) (sT S f p) := fun u => by
    rcases (so.U_T hf).mp u with e | e
    · exact so.neE hf hi e.symm
    · exact b1 e
  refine ⟨b1, b2, fun j hj u => ?_⟩
  rcases (so.U_E hj).mp u with e | e
  · exact hfn (((so.inj (by decide) hf).mp ((so.injE hi hj).mp e).1).1.symm)
  · exact b2 e
theorem SOk.defD (so : SOk S) {i j y : Nat} (hi : i < 4096) (hj : j < 4096) (hn : i ≠ j) (u : U S (sE S (sT S 392 p) i) y) : ¬ U S (sE S (sT S 392 p) j) y := fun v => by
  have key : ∀ a b, a < 4096 → b < 4096 → a ≠ b → ¬ U S (sE S (sT S 392 p) a) (sE S (sT S 392 p) b) := fun a b ha hb hab w => by
    have a1 := so.ltT (f := 392) (a := p) (by decide)
    have a2 := so.ltE (b := sT S 392 p) (j := a) ha
    rcases (so.U_E hb).mp w with e | e
    · exact hab ((so.injE ha hb).mp e).2
    · have := so.uLe e; omega
  rcases U_tree u v with w | w
  · exact key i j hi hj hn w
  · exact key j i hj hi hn.symm w
end EQ
theorem fP_snoc (l : List (List Nat × List Nat)) : True := trivial
def gsPut (gs : List (List Nat × Nat)) (n : List Nat) (v : Nat) : List (List Nat × Nat) := if gix gs n < 0 then gs ++ [(n, v)] else gs.set (gix gs n).toNat (n, v)
def tsPut (ts : List (Bool × TgV)) (t : TgV) : List (Bool × TgV) := if tix ts (tgN t) < 0 then ts ++ [(true, t)] else ts.set (tix ts (tgN t)).toNat (true, t)
def tsDrop (ts : List (Bool × TgV)) (n : List Nat) : List (Bool × TgV) := if tix ts n < 0 then ts else ts.set (tix ts n).toNat (false, tD ts (tix ts n).toNat)
theorem getD_snoc {α : Type} (l : List α) (v z : α) (i : Nat) : (l ++ [v]).getD i z = if i = l.length then v else l.getD i z := by
  rw [List.getD_eq_getElem?_getD, List.getD_eq_getElem?_getD]
  split
  · rename_i q; subst q; simp
  · rename_i q
    rcases Nat.lt_or_ge i l.length with c | c
    · rw [List.getElem?_append_left c]
    · rw [List.getElem?_eq_none (by simp; omega), List.getElem?_eq_none c]
theorem getD_set {α : Type} (l : List α) (v z : α) (k i : Nat) : (l.set k v).getD i z = if i = k ∧ k < l.length then v else l.getD i z := by
  rw [List.getD_eq_getElem?_getD, List.getD_eq_getElem?_getD, List.getElem?_set]
  by_cases q : k = i
  · subst q
    by_cases c : k < l.length
    · simp [c]
    · simp [c, List.getElem?_eq_none (Nat.le_of_not_lt c)]
  · rw [if_neg q, if_neg (fun z => q z.1.symm)]
theorem d53_0 : dc 53 0 = some (.aload_n 0, 1) := by decide +kernel
theorem d53_1 : dc 53 1 = some (.iconst 0, 2) := by decide +kernel
theorem d53_2 : dc 53 2 = some (.putfield 384, 5) := by decide +kernel
theorem d53_5 : dc 53 5 = some (.aload_n 0, 6) := by decide +kernel
theorem d53_6 : dc 53 6 = some (.iconst 0, 7) := by decide +kernel
theorem d53_7 : dc 53 7 = some (.putfield 388, 10) := by decide +kernel
theorem d53_10 : dc 53 10 = some (.aload_n 0, 11) := by decide +kernel
theorem d53_11 : dc 53 11 = some (.iconst 0, 12) := by decide +kernel
theorem d53_12 : dc 53 12 = some (.putfield 391, 15) := by decide +kernel
theorem d53_15 : dc 53 15 = some (.return_, 16) := by decide +kernel
theorem k_Plan_clear {S : Shp} {G : Nat → Option Nat} {d : Nat} {h : Hp} {Q : Option MV → Hp → Prop} {p : Nat}  (ok : Ok S h) (h1 : 0 ≤ d) (hp : sK S p = 4) {fl : List (List Nat × List Nat)} (fc : FilC S h p fl)
    (kk : ∀ h', Mo S (U S p) h h' → FilC S h' p [] → GsC S h' p [] → TsC S h' p [] → Q none h') : Cl G d 53 [vR (some p)] h Q := by
  show Wp G d 53 0 [some (vR (some p))] [] h Q
  refine w_aload_n d53_0 rfl ?_
  refine w_iconst d53_1 (by decide) ?_
  refine wf384 d53_2 ok hp (by omega) (fun h2 e2 m2 => ?_)
  have ok2 := m2.ok
  have M2 := Mo.tr ok (Mo.refl (A := (fun x => U S p x)) ok) m2 (fun x e => (e ▸ U_refl))
  refine w_aload_n d53_5 rfl ?_
  refine w_iconst d53_6 (by decide) ?_
  refine wf388 d53_7 ok2 hp (by omega) (fun h7 e7 m7 => ?_)
  have ok7 := m7.ok
  have M7 := Mo.tr ok M2 m7 (fun x e => (e ▸ U_refl))
  refine w_aload_n d53_10 rfl ?_
  refine w_iconst d53_11 (by decide) ?_
  refine wf391 d53_12 ok7 hp (by omega) (fun h12 e12 m12 => ?_)
  have ok12 := m12.ok
  have M12 := Mo.tr ok M7 m12 (fun x e => (e ▸ U_refl))
  refine w_return d53_15 ?_
  obtain ⟨σ, s1, s2, -⟩ := fc
  refine kk _ M12 ⟨σ, ?_, s2, ?_, (by decide), fun i hi => absurd hi (Nat.not_lt_zero _)⟩ ⟨?_, (by decide), fun i hi => absurd hi (Nat.not_lt_zero _)⟩ ⟨?_, (by decide), fun i hi => absurd hi (Nat.not_lt_zero _)⟩
  · rw [e12, e7, e2]; exact s1
  · simp [e12, e7, e2, FI_sFI]
  · simp [e12, e7, e2, FI_sFI]
  · simp [e12, e7, e2, FI_sFI]
theorem d78_0 : dc 78 0 = some (.iload_n 1, 1) := by decide +kernel
theorem d78_1 : dc 78 1 = some (.ifCond .lt ((29 : Nat) : Int), 4) := by decide +kernel
theorem d78_4 : dc 78 4 = some (.iload_n 1, 5) := by decide +kernel
theorem d78_5 : dc 78 5 = some (.aload_n 0, 6) := by decide +kernel
theorem d78_6 : dc 78 6 = some (.getfield 391, 9) := by decide +kernel
theorem d78_9 : dc 78 9 = some (.if_icmp .ge ((29 : Nat) : Int), 12) := by decide +kernel
theorem d78_12 : dc 78 12 = some (.iload_n 2, 13) := by decide +kernel
theorem d78_13 : dc 78 13 = some (.ifCond .lt ((29 : Nat) : Int), 16) := by decide +kernel
theorem d78_16 : dc 78 16 = some (.iload_n 2, 17) := by decide +kernel
theorem d78_17 : dc 78 17 = some (.aload_n 0, 18) := by decide +kernel
theorem d78_18 : dc 78 18 = some (.dload 392, 21) := by decide +kernel
theorem d78_21 : dc 78 21 = some (.iload_n 1, 22) := by decide +kernel
theorem d78_22 : dc 78 22 = some (.aaload, 23) := by decide +kernel
theorem d78_23 : dc 78 23 = some (.getfield 133, 26) := by decide +kernel
theorem d78_26 : dc 78 26 = some (.if_icmp .lt ((31 : Nat) : Int), 29) := by decide +kernel
theorem d78_29 : dc 78 29 = some (.iconst (-1), 30) := by decide +kernel
theorem d78_30 : dc 78 30 = some (.ireturn, 31) := by decide +kernel
theorem d78_31 : dc 78 31 = some (.aload_n 0, 32) := by decide +kernel
theorem d78_32 : dc 78 32 = some (.dload 392, 35) := by decide +kernel
theorem d78_35 : dc 78 35 = some (.iload_n 1, 36) := by decide +kernel
theorem d78_36 : dc 78 36 = some (.aaload, 37) := by decide +kernel
theorem d78_37 : dc 78 37 = some (.astore_n 3, 38) := by decide +kernel
theorem d78_38 : dc 78 38 = some (.aload_n 3, 39) := by decide +kernel
theorem d78_39 : dc 78 39 = some (.getfield 128, 42) := by decide +kernel
theorem d78_42 : dc 78 42 = some (.ifCond .eq ((67 : Nat) : Int), 45) := by decide +kernel
theorem d78_45 : dc 78 45 = some (.aload_n 3, 46) := by decide +kernel
theorem d78_46 : dc 78 46 = some (.dload 134, 49) := by decide +kernel
theorem d78_49 : dc 78 49 = some (.iload_n 2, 50) := by decide +kernel
theorem d78_50 : dc 78 50 = some (.baload, 51) := by decide +kernel
theorem d78_51 : dc 78 51 = some (.ifCond .eq ((67 : Nat) : Int), 54) := by decide +kernel
theorem d78_54 : dc 78 54 = some (.aload_n 0, 55) := by decide +kernel
theorem d78_55 : dc 78 55 = some (.aload_n 3, 56) := by decide +kernel
theorem d78_56 : dc 78 56 = some (.dload 135, 59) := by decide +kernel
theorem d78_59 : dc 78 59 = some (.iload_n 2, 60) := by decide +kernel
theorem d78_60 : dc 78 60 = some (.laload, 61) := by decide +kernel
theorem d78_61 : dc 78 61 = some (.invokevirtual 79, 64) := by decide +kernel
theorem d78_64 : dc 78 64 = some (.goto ((68 : Nat) : Int), 67) := by decide +kernel
theorem d78_67 : dc 78 67 = some (.iconst (-1), 68) := by decide +kernel
theorem d78_68 : dc 78 68 = some (.ireturn, 69) := by decide +kernel
theorem k_Plan_inputTarget {S : Shp} {G : Nat → Option Nat} {d : Nat} {h : Hp} {Q : Option MV → Hp → Prop} {p : Nat} {t : Int} {i : Int}  (ok : Ok S h) (h1 : 1 ≤ d) (hp : sK S p = 4) {ts : List (Bool × TgV)} (tc : TsC S h p ts)
    (kk : Q (some (vI (if 0 ≤ t ∧ t < ts.length ∧ 0 ≤ i ∧ i < (tgI (tD ts t.toNat)).length ∧ tH ts t.toNat = true ∧ inB (tgI (tD ts t.toNat)) i.toNat = true then tat ts (inN (tgI (tD ts t.toNat)) i.toNat) else -1))) h) : Cl G d 78 [vR (some p), vI t, vI i] h Q := by
  show Wp G d 78 0 [some (vR (some p)), some (vI t), some (vI i), none] [] h Q
  have tc0 := tc
  obtain ⟨q1, q2, q3⟩ := tc
  generalize hr : (if 0 ≤ t ∧ t < ts.length ∧ 0 ≤ i ∧ i < (tgI (tD ts t.toNat)).length ∧ tH ts t.toNat = true ∧ inB (tgI (tD ts t.toNat)) i.toNat = true then tat ts (inN (tgI (tD ts t.toNat)) i.toNat) else -1 : Int) = r at kk
  refine w_iload_n d78_0 rfl ?_
  refine w_iflt d78_1 (fun c1 => ?_) (fun c1 => ?_)
  · refine w_iconst d78_29 (by decide) ?_
    refine w_ireturn d78_30 ?_
    first | exact kk | (refine qI ?_ kk; rw [← hr, if_neg]; grind)
  · refine w_iload_n d78_4 rfl ?_
    refine w_aload_n d78_5 rfl ?_
    refine w_getI (x := (ts.length : Int)) d78_6 (ok.kd hp) q1 ?_
    refine w_icmpge d78_9 (fun c9 => ?_) (fun c9 => ?_)
    · refine w_iconst d78_29 (by decide) ?_
      refine w_ireturn d78_30 ?_
      first | exact kk | (refine qI ?_ kk; rw [← hr, if_neg]; grind)
    · obtain ⟨a1, a2, a3⟩ := q3 t.toNat (by omega)
      obtain ⟨d1, d2, d3, d4, d5, d6, d7, d8, d9, o1, o2, o3, o4, o5, o6⟩ := a2
      have o40 := o4.1
      refine w_iload_n d78_12 rfl ?_
      refine w_iflt d78_13 (fun c13 => ?_) (fun c13 => ?_)
      · refine w_iconst d78_29 (by decide) ?_
        refine w_ireturn d78_30 ?_
        first | exact kk | (refine qI ?_ kk; rw [← hr, if_neg]; grind)
      · refine w_iload_n d78_16 rfl ?_
        refine w_aload_n d78_17 rfl ?_
        refine w_dloadS d78_18 (ok.kd hp) (fr392 ok hp) ?_
        refine w_iload_n d78_21 rfl ?_
        refine w_aaloadS d78_22 (gi392 ok hp (by omega)) (er392 ok hp (by omega)) ?_
        refine w_getI (x := ((tgI (tD ts t.toNat)).length : Int)) d78_23 (ok.kd (kE392 ok hp (j := t.toNat) (by omega))) d5 ?_
        refine w_icmplt d78_26 (fun c26 => ?_) (fun c26 => ?_)
        · obtain ⟨b1, b2, b3⟩ := d6 i.toNat (by omega)
          refine w_aload_n d78_31 rfl ?_
          refine w_dloadS d78_32 (ok.kd hp) (fr392 ok hp) ?_
          refine w_iload_n d78_35 rfl ?_
          refine w_aaloadS d78_36 (gi392 ok hp (by omega)) (er392 ok hp (by omega)) ?_
          refine w_astore3 d78_37 rfl ?_
          refine w_aload_n d78_38 rfl ?_
          refine w_getI (x := (b2i (tH ts t.toNat))) d78_39 (ok.kd (kE392 ok hp (j := t.toNat) (by omega))) a1 ?_
          refine w_ifeq d78_42 (fun c42 => ?_) (fun c42 => ?_)
          · have b0 := b2i_f.mp c42
            refine w_iconst d78_67 (by decide) ?_
            refine w_ireturn d78_68 ?_
            first | exact kk | (refine qI ?_ kk; rw [← hr, if_neg]; grind)
          · have b0 : tH ts t.toNat = true := by cases q : tH ts t.toNat <;> simp_all [b2i]
            refine w_aload_n d78_45 rfl ?_
            refine w_dloadS d78_46 (ok.kd (kE392 ok hp (j := t.toNat) (by omega))) (fr134 ok (kE392 ok hp (j := t.toNat) (by omega))) ?_
            refine w_iload_n d78_49 rfl ?_
            refine w_baloadV (x := (b2i (inB (tgI (tD ts t.toNat)) i.toNat))) d78_50 (gi134 ok (kE392 ok hp (j := t.toNat) (by omega)) (by omega)) b1 ?_
            refine w_ifeq d78_51 (fun c51 => ?_) (fun c51 => ?_)
            · have b4 := b2i_f.mp c51
              refine w_iconst d78_67 (by decide) ?_
              refine w_ireturn d78_68 ?_
              first | exact kk | (refine qI ?_ kk; rw [← hr, if_neg]; grind)
            · have b4 : inB (tgI (tD ts t.toNat)) i.toNat = true := by cases q : inB (tgI (tD ts t.toNat)) i.toNat <;> simp_all [b2i]
              refine w_aload_n d78_54 rfl ?_
              refine w_aload_n d78_55 rfl ?_
              refine w_dloadS d78_56 (ok.kd (kE392 ok hp (j := t.toNat) (by omega))) (fr135 ok (kE392 ok hp (j := t.toNat) (by omega))) ?_
              refine w_iload_n d78_59 rfl ?_
              refine w_laloadV (x := (hd (inN (tgI (tD ts t.toNat)) i.toNat))) d78_60 (gi135 ok (kE392 ok hp (j := t.toNat) (by omega)) (by omega)) b2 ?_
              refine w_callv2 d78_61 (by omega) rfl (ok.kd hp) (by simp) (Nat.le_of_ble_eq_true rfl) ?_
              refine k_Plan_targetAt ok (by omega) hp tc0 ?_
              have e61 : tatJ ts (hd (inN (tgI (tD ts t.toNat)) i.toNat)) = r := by rw [← hr, if_pos ⟨by omega, by omega, by omega, by omega, b0, b4⟩]; unfold tatJ tat; rw [tixJ_eq tc0.okn ((o4.2 i.toNat (by omega)).2 b4)]
              rw [e61]
              refine w_goto d78_64 ?_
              refine w_ireturn d78_68 ?_
              first | exact kk | (refine qI ?_ kk; rw [← hr, if_neg]; grind)
        · refine w_iconst d78_29 (by decide) ?_
          refine w_ireturn d78_30 ?_
          first | exact kk | (refine qI ?_ kk; rw [← hr, if_neg]; grind)
