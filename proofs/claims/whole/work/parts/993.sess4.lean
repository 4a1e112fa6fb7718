/-! a session: a worker is done -/
/-- a session, its run and its dryness aside -/
def SfC (S : Shp) (h : Hp) (x : Nat) (P : PlV) (pu : Nat → OutV) (pp : Nat → List Int64) (re : Nat → OutV) (ed : Nat → Nat → Nat) (ra : Nat → Nat) (ks : List (Int64 × OutV)) (nd : Nat → Nat) (g : Bool) (k : Nat) : Prop :=
  PlC S h (sT S 770 x) P ∧ StC S h (sT S 769 x) pu pp re ed ra ks ∧ (∀ u, u < 14 → AI h (sT S 773 x) u = (nd u : Nat)) ∧ FI h 771 x = b2i g ∧ FI h 772 x = (k : Nat)
section SES4
variable {S : Shp} {h h' : Hp} {A : Nat → Prop} {x j : Nat} {r : RunV} {P : PlV} {pu : Nat → OutV} {pp : Nat → List Int64} {re : Nat → OutV} {ed : Nat → Nat → Nat} {ra : Nat → Nat} {ks : List (Int64 × OutV)} {nd : Nat → Nat} {g y : Bool} {k : Nat} {bv : BeV}
theorem SesC.sf (D : SesC S h x P pu pp re ed ra ks r nd g k y) : SfC S h x P pu pp re ed ra ks nd g k ∧ RunC S h x r ∧ FI h 783 x = b2i y := ⟨⟨D.1, D.2.1, D.2.2.2.1, D.2.2.2.2.1, D.2.2.2.2.2.1⟩, D.2.2.1, D.2.2.2.2.2.2⟩
theorem SfC.ses (D : SfC S h x P pu pp re ed ra ks nd g k) (R : RunC S h x r) (d : FI h 783 x = b2i y) : SesC S h x P pu pp re ed ra ks r nd g k y := ⟨D.1, D.2.1, R, D.2.2.1, D.2.2.2.1, D.2.2.2.2, d⟩
theorem SfC.f (ok : Ok S h) (m : Mo S A h h') (hx : sK S x = 7) (h0 : ∀ z, A z → ¬ U S (sT S 770 x) z ∧ ¬ U S (sT S 769 x) z ∧ z ≠ sT S 773 x) (e1 : FI h' 771 x = FI h 771 x) (e2 : FI h' 772 x = FI h 772 x) (D : SfC S h x P pu pp re ed ra ks nd g k) : SfC S h' x P pu pp re ed ra ks nd g k := by
  obtain ⟨d1, d2, d3, d4, d5⟩ := D
  have k3 := kT773 ok hx
  exact ⟨d1.u ok m (kT770 ok hx) (fun z u q => (h0 z q).1 u), d2.u ok m (kT769 ok hx) (fun z u q => (h0 z q).2.1 u), fun u hu => (congrFun (m.ai ok (by omega) (fun q => (h0 _ q).2.2 rfl)) u).trans (d3 u hu), e1.trans d4, e2.trans d5⟩
theorem SfC.t {f : Nat} (ok : Ok S h) (m : Mo S (fun y => y = sT S f x) h h') (hx : sK S x = 7) (hf : f < 4096) (hn : f ≠ 769 ∧ f ≠ 770 ∧ f ≠ 773) (D : SfC S h x P pu pp re ed ra ks nd g k) : SfC S h' x P pu pp re ed ra ks nd g k :=
  D.f ok m hx (fun z q => by rw [q]; exact ⟨ok.so.nUT (by decide) hf (Ne.symm hn.2.1), ok.so.nUT (by decide) hf (Ne.symm hn.1), ok.so.ou hf (by decide) (Or.inl hn.2.2)⟩) (m.fi ok (by omega) (fun z => ok.so.pT hf z.symm) 771) (m.fi ok (by omega) (fun z => ok.so.pT hf z.symm) 772)
theorem SfC.own (ok : Ok S h) (m : Mo S (fun y => y = x) h h') (hx : sK S x = 7) (e1 : FI h' 771 x = FI h 771 x) (e2 : FI h' 772 x = FI h 772 x) (D : SfC S h x P pu pp re ed ra ks nd g k) : SfC S h' x P pu pp re ed ra ks nd g k :=
  D.f ok m hx (fun z q => by rw [q]; exact ⟨ok.so.nU (by decide), ok.so.nU (by decide), fun e => ok.so.pT (by decide) e.symm⟩) e1 e2
/-- a bench, and what is no part of the session -/
theorem SfC.b (ok : Ok S h) (m : Mo S A h h') (hx : sK S x = 7) (hj : j < 2) (hA : ∀ z, A z → OA S (sE S (sT S 778 x) j) z ∨ ¬ U S x z) (D : SfC S h x P pu pp re ed ra ks nd g k) : SfC S h' x P pu pp re ed ra ks nd g k := by
  have kb := kE778 ok hx hj
  have nx : ¬ A x := fun q => (hA x q).elim (fun z => absurd (z.kind ok kb) (by omega)) (fun z => z U_refl)
  refine D.f ok m hx (fun z q => ?_) (m.fi ok (by omega) nx 771) (m.fi ok (by omega) nx 772)
  rcases hA z q with e | e
  · have u : U S (sT S 778 x) z := U_trans (ok.so.uE (by omega) U_refl) (e.u ok.so)
    exact ⟨fun w => ok.so.sib (by decide) (by decide) (by decide) u w, fun w => ok.so.sib (by decide) (by decide) (by decide) u w, fun w => ok.so.nUT (by decide) (by decide) (by decide) (w ▸ u)⟩
  · exact ⟨fun w => e (U_trans (ok.so.uT (by decide) U_refl) w), fun w => e (U_trans (ok.so.uT (by decide) U_refl) w), fun w => e (w ▸ ok.so.uT (by decide) U_refl)⟩
/-- the store changes -/
theorem SfC.st {pu' : Nat → OutV} {pp' : Nat → List Int64} {re' : Nat → OutV} {ed' : Nat → Nat → Nat} {ra' : Nat → Nat} {ks' : List (Int64 × OutV)} (ok : Ok S h) (m : Mo S A h h') (hx : sK S x = 7) (hA : ∀ z, A z → U S (sT S 769 x) z) (ns : StC S h' (sT S 769 x) pu' pp' re' ed' ra' ks') (D : SfC S h x P pu pp re ed ra ks nd g k) : SfC S h' x P pu' pp' re' ed' ra' ks' nd g k := by
  obtain ⟨d1, d2, d3, d4, d5⟩ := D
  have k3 := kT773 ok hx
  have nx : ¬ A x := fun q => ok.so.nU (by decide) (hA x q)
  exact ⟨d1.u ok m (kT770 ok hx) (fun z u q => ok.so.sib (by decide) (by decide) (by decide) u (hA z q)), ns, fun u hu => (congrFun (m.ai ok (by omega) (fun q => ok.so.nUT (f := 769) (g := 773) (by decide) (by decide) (by decide) (hA _ q))) u).trans (d3 u hu), (m.fi ok (by omega) nx 771).trans d4, (m.fi ok (by omega) nx 772).trans d5⟩
theorem RunC.sib {f : Nat} (ok : Ok S h) (m : Mo S A h h') (hx : sK S x = 7) (hf : f < 4096 ∧ (f < 774 ∨ 784 < f)) (hA : ∀ z, A z → U S (sT S f x) z) (D : RunC S h x r) : RunC S h' x r :=
  D.f ok m hx (fun q => ok.so.nU hf.1 (hA _ q)) (fun t t1 t2 q => ok.so.nUT hf.1 (by omega) (by omega) (hA _ q)) (fun w hw => ⟨fun q => ok.so.sib (f := f) (g := 778) hf.1 (by decide) (by omega) (hA _ q) (ok.so.uE (by omega) U_refl), fun t t1 t2 q => ok.so.sib (f := f) (g := 778) hf.1 (by decide) (by omega) (hA _ q) (ok.so.uT (by omega) (ok.so.uE (by omega) U_refl))⟩)
theorem RunC.far (ok : Ok S h) (m : Mo S A h h') (hx : sK S x = 7) (hA : ∀ z, A z → ¬ U S x z) (D : RunC S h x r) : RunC S h' x r :=
  D.f ok m hx (fun q => hA _ q U_refl) (fun t t1 t2 q => hA _ q (ok.so.uT (by omega) U_refl)) (fun w hw => ⟨fun q => hA _ q (ok.so.uE (by omega) (ok.so.uT (by decide) U_refl)), fun t t1 t2 q => hA _ q (ok.so.uT (by omega) (ok.so.uE (by omega) (ok.so.uT (by decide) U_refl)))⟩)
theorem RunC.bb (ok : Ok S h) (m : Mo S A h h') (hx : sK S x = 7) (hj : j < 2) (hA : ∀ z, A z → OA S (sE S (sT S 778 x) j) z ∨ ¬ U S x z) (nb : BenC S h' (sE S (sT S 778 x) j) bv) (D : RunC S h x r) : RunC S h' x (rsB r (upO (rB r) j bv)) := by
  obtain ⟨d774, d775, d776, d777, d778, d780, d781, d782, d784, dl⟩ := D
  have kb := kE778 ok hx hj
  have k774 := kT774 ok hx
  have k775 := kT775 ok hx
  have k776 := kT776 ok hx
  have k777 := kT777 ok hx
  have k779 := kT779 ok hx
  have k781 := kT781 ok hx
  have k784 := kT784 ok hx
  have nx : ¬ A x := fun q => (hA x q).elim (fun z => absurd (z.kind ok kb) (by omega)) (fun z => z U_refl)
  have nT : ∀ f, f < 4096 → f ≠ 778 → ¬ A (sT S f x) := fun f hf hn q => (hA _ q).elim (fun z => ok.so.nUT (f := 778) (g := f) (by decide) hf (Ne.symm hn) (U_trans (ok.so.uE (by omega) U_refl) (z.u ok.so))) (fun z => z (ok.so.uT hf U_refl))
  refine ⟨fun t ht => (congrFun (m.ai ok (by omega) (nT 774 (by decide) (by decide))) t).trans (d774 t ht), fun t ht => (congrFun (m.ai ok (by omega) (nT 775 (by decide) (by decide))) t).trans (d775 t ht), fun t ht => (congrFun (m.ai ok (by omega) (nT 776 (by decide) (by decide))) t).trans (d776 t ht), fun t ht => (congrFun (m.ai ok (by omega) (nT 777 (by decide) (by decide))) t).trans (d777 t ht), fun w hw => ?_, ⟨(m.fi ok (by omega) nx 780).trans d780.1, d780.2.1, fun i hi => (congrFun (m.ai ok (by omega) (nT 779 (by decide) (by decide))) i).trans (d780.2.2 i hi)⟩, fun i hi => (congrFun (m.ai ok (by omega) (nT 781 (by decide) (by decide))) i).trans (d781 i hi), (m.fi ok (by omega) nx 782).trans d782, (m.rb ok k784 (nT 784 (by decide) (by decide))).trans d784, dl⟩
  show BenC S h' _ (if w = j then bv else rB r w)
  by_cases q : w = j
  · rw [if_pos q, q]; exact nb
  · rw [if_neg q]
    have kw := kE778 ok hx hw
    have ne := ok.so.ne2 (f := 778) (g := 778) (p := x) (by decide) (by decide) (show j < 4096 by omega) (show w < 4096 by omega) (Or.inr (Ne.symm q))
    have of := OA.off ok kb kw ne
    exact (d778 w hw).f ok m kw ⟨fun z => (hA _ z).elim of.1 (fun z => z (ok.so.uE (by omega) (ok.so.uT (by decide) U_refl))), fun f f1 f2 z => (hA _ z).elim (of.2 f f1 f2) (fun z => z (ok.so.uT (by omega) (ok.so.uE (by omega) (ok.so.uT (by decide) U_refl))))⟩
/-- a target is put -/
theorem StC.put {s t : Nat} {v : OutV} (ok : Ok S h) (hs : sK S s = 8) (ht : t < 14) (m : Mo S (OA S (sE S (sT S 896 s) t)) h h') (no : OuC S h' (sE S (sT S 896 s) t) v) (np : ∀ ps, PaC S h (sE S (sT S 896 s) t) ps → PaC S h' (sE S (sT S 896 s) t) ps) (D : StC S h s pu pp re ed ra ks) : StC S h' s (upO pu t v) pp re ed ra ks := by
  have kt := kE896 ok hs ht
  have l5 : sL S (sT S 900 s) ≤ 24 := D.2.2.2.choose_spec.2.2.2.2.1
  have k8 := fun t ht => kE898 ok hs (j := t) ht
  have k9 := kT899 ok hs
  have k0 := kT900 ok hs
  refine ⟨fun u hu => ?_, D.2.1.f ok m hs (fun u hu => ⟨OFr.oa ok kt (kE897 ok hs hu) (ok.so.ne2 (by decide) (by decide) (by omega) (by omega) (Or.inl (by decide))), OA.no ok kt (by have := k8 u hu; omega)⟩), D.2.2.1.f ok m hs (OA.no ok kt (by omega)), D.2.2.2.f ok m hs (Or.inl (OA.no ok kt (by omega))) (OA.no ok kt (by omega)) (fun i hi => OFr.oa ok kt (k900 ok hs hi) (ok.so.ne2 (by decide) (by decide) (by omega) (by omega) (Or.inl (by decide))))⟩
  unfold upO
  by_cases q : u = t
  · rw [if_pos q, q]; exact ⟨no, np _ (D.1 t ht).2⟩
  · rw [if_neg q]
    have fr := OFr.oa ok kt (kE896 ok hs hu) (ok.so.ne2 (by decide) (by decide) (by omega) (by omega) (Or.inr (Ne.symm q)))
    exact ⟨(D.1 u hu).1.f ok m (kE896 ok hs hu) fr, (D.1 u hu).2.f ok m (kE896 ok hs hu) fr⟩
theorem StC.par {s t : Nat} {qs : List Int64} (ok : Ok S h) (hs : sK S s = 8) (ht : t < 14) (m : Mo S (OA S (sE S (sT S 896 s) t)) h h') (np : PaC S h' (sE S (sT S 896 s) t) qs) (no : ∀ v, OuC S h (sE S (sT S 896 s) t) v → OuC S h' (sE S (sT S 896 s) t) v) (D : StC S h s pu pp re ed ra ks) : StC S h' s pu (upO pp t qs) re ed ra ks := by
  have kt := kE896 ok hs ht
  have l5 : sL S (sT S 900 s) ≤ 24 := D.2.2.2.choose_spec.2.2.2.2.1
  have k8 := fun t ht => kE898 ok hs (j := t) ht
  have k9 := kT899 ok hs
  have k0 := kT900 ok hs
  refine ⟨fun u hu => ?_, D.2.1.f ok m hs (fun u hu => ⟨OFr.oa ok kt (kE897 ok hs hu) (ok.so.ne2 (by decide) (by decide) (by omega) (by omega) (Or.inl (by decide))), OA.no ok kt (by have := k8 u hu; omega)⟩), D.2.2.1.f ok m hs (OA.no ok kt (by omega)), D.2.2.2.f ok m hs (Or.inl (OA.no ok kt (by omega))) (OA.no ok kt (by omega)) (fun i hi => OFr.oa ok kt (k900 ok hs hi) (ok.so.ne2 (by decide) (by decide) (by omega) (by omega) (Or.inl (by decide))))⟩
  unfold upO
  by_cases q : u = t
  · rw [if_pos q, q]; exact ⟨no _ (D.1 t ht).1, np⟩
  · rw [if_neg q]
    have fr := OFr.oa ok kt (kE896 ok hs hu) (ok.so.ne2 (by decide) (by decide) (by omega) (by omega) (Or.inr (Ne.symm q)))
    exact ⟨(D.1 u hu).1.f ok m (kE896 ok hs hu) fr, (D.1 u hu).2.f ok m (kE896 ok hs hu) fr⟩
/-- a run behind a worker's end -/
def fn1 (r : RunV) (w : Nat) : RunV := rsC (rsH r (up (rH r) w (-1))) (upN (rC r) (rW r w) (rC r (rW r w) + 1))
def fnR (r : RunV) (w t : Nat) : RunV := if (rB r w).1.1 = true then rsE (fn1 r w) (upN (rE r) t 1) else if rF r < 0 ∨ (t : Int) < rF r then rsF (rsE (fn1 r w) (upN (rE r) t 2)) t (oW (rB r w).1) else rsE (fn1 r w) (upN (rE r) t 2)
end SES4
theorem d132_0 : dc 132 0 = some (.aload_n 0, 1) := by decide +kernel
theorem d132_1 : dc 132 1 = some (.dload 775, 4) := by decide +kernel
theorem d132_4 : dc 132 4 = some (.iload_n 1, 5) := by decide +kernel
theorem d132_5 : dc 132 5 = some (.iaload, 6) := by decide +kernel
theorem d132_6 : dc 132 6 = some (.istore_n 2, 7) := by decide +kernel
theorem d132_7 : dc 132 7 = some (.aload_n 0, 8) := by decide +kernel
theorem d132_8 : dc 132 8 = some (.dload 778, 11) := by decide +kernel
theorem d132_11 : dc 132 11 = some (.iload_n 1, 12) := by decide +kernel
theorem d132_12 : dc 132 12 = some (.aaload, 13) := by decide +kernel
theorem d132_13 : dc 132 13 = some (.astore_n 3, 14) := by decide +kernel
theorem d132_14 : dc 132 14 = some (.aload_n 0, 15) := by decide +kernel
theorem d132_15 : dc 132 15 = some (.dload 775, 18) := by decide +kernel
theorem d132_18 : dc 132 18 = some (.iload_n 1, 19) := by decide +kernel
theorem d132_19 : dc 132 19 = some (.iconst (-1), 20) := by decide +kernel
theorem d132_20 : dc 132 20 = some (.iastore, 21) := by decide +kernel
theorem d132_21 : dc 132 21 = some (.aload_n 0, 22) := by decide +kernel
theorem d132_22 : dc 132 22 = some (.iconst 0, 23) := by decide +kernel
theorem d132_23 : dc 132 23 = some (.putstatic 783, 26) := by decide +kernel
theorem d132_26 : dc 132 26 = some (.aload_n 0, 27) := by decide +kernel
theorem d132_27 : dc 132 27 = some (.dload 781, 30) := by decide +kernel
theorem d132_30 : dc 132 30 = some (.aload_n 0, 31) := by decide +kernel
theorem d132_31 : dc 132 31 = some (.dload 777, 34) := by decide +kernel
theorem d132_34 : dc 132 34 = some (.iload_n 1, 35) := by decide +kernel
theorem d132_35 : dc 132 35 = some (.iaload, 36) := by decide +kernel
theorem d132_36 : dc 132 36 = some (.dup2, 37) := by decide +kernel
theorem d132_37 : dc 132 37 = some (.iaload, 38) := by decide +kernel
theorem d132_38 : dc 132 38 = some (.iconst 1, 39) := by decide +kernel
theorem d132_39 : dc 132 39 = some (.iadd, 40) := by decide +kernel
theorem d132_40 : dc 132 40 = some (.iastore, 41) := by decide +kernel
theorem d132_41 : dc 132 41 = some (.aload_n 0, 42) := by decide +kernel
theorem d132_42 : dc 132 42 = some (.dload 777, 45) := by decide +kernel
theorem d132_45 : dc 132 45 = some (.iload_n 1, 46) := by decide +kernel
theorem d132_46 : dc 132 46 = some (.iaload, 47) := by decide +kernel
theorem d132_47 : dc 132 47 = some (.iconst 2, 48) := by decide +kernel
theorem d132_48 : dc 132 48 = some (.if_icmp .eq ((59 : Nat) : Int), 51) := by decide +kernel
theorem d132_51 : dc 132 51 = some (.aload_n 0, 52) := by decide +kernel
theorem d132_52 : dc 132 52 = some (.dload 769, 55) := by decide +kernel
theorem d132_55 : dc 132 55 = some (.aload_n 3, 56) := by decide +kernel
theorem d132_56 : dc 132 56 = some (.invokevirtual 133, 59) := by decide +kernel
theorem d132_59 : dc 132 59 = some (.aload_n 3, 60) := by decide +kernel
theorem d132_60 : dc 132 60 = some (.getfield 256, 63) := by decide +kernel
theorem d132_63 : dc 132 63 = some (.ifCond .eq ((100 : Nat) : Int), 66) := by decide +kernel
theorem d132_66 : dc 132 66 = some (.aload_n 0, 67) := by decide +kernel
theorem d132_67 : dc 132 67 = some (.dload 774, 70) := by decide +kernel
theorem d132_70 : dc 132 70 = some (.iload_n 2, 71) := by decide +kernel
theorem d132_71 : dc 132 71 = some (.iconst 1, 72) := by decide +kernel
theorem d132_72 : dc 132 72 = some (.iastore, 73) := by decide +kernel
theorem d132_73 : dc 132 73 = some (.aload_n 0, 74) := by decide +kernel
theorem d132_74 : dc 132 74 = some (.dload 769, 77) := by decide +kernel
theorem d132_77 : dc 132 77 = some (.dload 896, 80) := by decide +kernel
theorem d132_80 : dc 132 80 = some (.iload_n 2, 81) := by decide +kernel
theorem d132_81 : dc 132 81 = some (.aaload, 82) := by decide +kernel
theorem d132_82 : dc 132 82 = some (.aload_n 3, 83) := by decide +kernel
theorem d132_83 : dc 132 83 = some (.invokevirtual 111, 86) := by decide +kernel
theorem d132_86 : dc 132 86 = some (.aload_n 0, 87) := by decide +kernel
theorem d132_87 : dc 132 87 = some (.dload 769, 90) := by decide +kernel
theorem d132_90 : dc 132 90 = some (.dload 896, 93) := by decide +kernel
theorem d132_93 : dc 132 93 = some (.iload_n 2, 94) := by decide +kernel
theorem d132_94 : dc 132 94 = some (.aaload, 95) := by decide +kernel
theorem d132_95 : dc 132 95 = some (.aload_n 3, 96) := by decide +kernel
theorem d132_96 : dc 132 96 = some (.invokevirtual 134, 99) := by decide +kernel
theorem d132_99 : dc 132 99 = some (.return_, 100) := by decide +kernel
theorem d132_100 : dc 132 100 = some (.aload_n 0, 101) := by decide +kernel
theorem d132_101 : dc 132 101 = some (.dload 774, 104) := by decide +kernel
theorem d132_104 : dc 132 104 = some (.iload_n 2, 105) := by decide +kernel
theorem d132_105 : dc 132 105 = some (.iconst 2, 106) := by decide +kernel
theorem d132_106 : dc 132 106 = some (.iastore, 107) := by decide +kernel
theorem d132_107 : dc 132 107 = some (.aload_n 0, 108) := by decide +kernel
theorem d132_108 : dc 132 108 = some (.getfield 782, 111) := by decide +kernel
theorem d132_111 : dc 132 111 = some (.ifCond .lt ((122 : Nat) : Int), 114) := by decide +kernel
theorem d132_114 : dc 132 114 = some (.iload_n 2, 115) := by decide +kernel
theorem d132_115 : dc 132 115 = some (.aload_n 0, 116) := by decide +kernel
theorem d132_116 : dc 132 116 = some (.getfield 782, 119) := by decide +kernel
theorem d132_119 : dc 132 119 = some (.if_icmp .ge ((146 : Nat) : Int), 122) := by decide +kernel
theorem d132_122 : dc 132 122 = some (.aload_n 0, 123) := by decide +kernel
theorem d132_123 : dc 132 123 = some (.iload_n 2, 124) := by decide +kernel
theorem d132_124 : dc 132 124 = some (.putfield 782, 127) := by decide +kernel
theorem d132_127 : dc 132 127 = some (.aload_n 0, 128) := by decide +kernel
theorem d132_128 : dc 132 128 = some (.dload 784, 131) := by decide +kernel
theorem d132_131 : dc 132 131 = some (.aload_n 3, 132) := by decide +kernel
theorem d132_132 : dc 132 132 = some (.dload 259, 135) := by decide +kernel
theorem d132_135 : dc 132 135 = some (.iconst 0, 136) := by decide +kernel
theorem d132_136 : dc 132 136 = some (.aload_n 3, 137) := by decide +kernel
theorem d132_137 : dc 132 137 = some (.dload 259, 140) := by decide +kernel
theorem d132_140 : dc 132 140 = some (.invokevirtual 13, 143) := by decide +kernel
theorem d132_143 : dc 132 143 = some (.invokevirtual 17, 146) := by decide +kernel
theorem d132_146 : dc 132 146 = some (.return_, 147) := by decide +kernel
theorem k_Se_finish {S : Shp} {G : Nat → Option Nat} {d : Nat} {h : Hp} {Q : Option MV → Hp → Prop} {x : Nat} {w : Nat}  (ok : Ok S h) (h1 : 6 ≤ d) (hx : sK S x = 7) {P : PlV} {pu : Nat → OutV} {pp : Nat → List Int64} {re : Nat → OutV} {ed : Nat → Nat → Nat} {ra : Nat → Nat} {ks : List (Int64 × OutV)} {r : RunV} {nd : Nat → Nat} {g y : Bool} {k : Nat} (D : SesC S h x P pu pp re ed ra ks r nd g k y) {t : Nat} (hw : w < 2) (hh : rH r w = (t : Nat)) (ht : t < P.2.2.length) (hc : rC r (rW r w) < 2147483647)
    (kk : ∀ h', Mo S (U S x) h h' → SesC S h' x P (if (rB r w).1.1 = true then upO pu t (rB r w).1 else pu) (if (rB r w).1.1 = true then upO pp t (rB r w).2.1 else pp) re ed ra (if rW r w = 2 then ks else kpL (sL S (sT S 900 (sT S 769 x))) ks (rB r w).2.2 (rB r w).1) (fnR r w t) nd g k false → Q none h') : Cl G d 132 [vR (some x), vI (w : Nat)] h Q := by
  show Wp G d 132 0 [some (vR (some x)), some (vI (w : Nat)), none, none] [] h Q
  obtain ⟨sf, rc, dy⟩ := D.sf
  obtain ⟨d774, d775, d776, d777, d778, d780, d781, d782, d784, dl⟩ := id rc
  have l14 := D.1.2.2.2.1
  have ht14 : t < 14 := by omega
  have kb := kE778 ok hx hw
  have kst := kT769 ok hx
  have kpt := kE896 ok kst ht14
  have npb : (sE S (sT S 896 (sT S 769 x)) t) ≠ (sE S (sT S 778 x) w) := fun z => ok.so.sib (f := 769) (g := 778) (by decide) (by decide) (by decide) (ok.so.uE (by omega) (ok.so.uT (by decide) U_refl) : U S (sT S 769 x) (sE S (sT S 896 (sT S 769 x)) t)) (z ▸ ok.so.uE (by omega) U_refl)
  have uPT : ∀ z, OA S (sE S (sT S 896 (sT S 769 x)) t) z → U S (sT S 769 x) z := fun z q => U_trans (ok.so.uE (by omega) (ok.so.uT (by decide) U_refl)) (q.u ok.so)
  have w3 := (ra777 ok hx w).2
  rw [d777 w hw] at w3
  have w3n : rW r w < 3 := by omega
  refine w_aload_n d132_0 rfl ?_
  refine w_dloadS d132_1 (ok.kd hx) (fr775 ok hx) ?_
  refine w_iload_n d132_4 rfl ?_
  refine w_ialoadV (x := ((t : Nat) : Int)) d132_5 (gi775 ok hx (by omega)) ((d775 w hw).trans hh) ?_
  refine w_istore2 d132_6 rfl ?_
  refine w_aload_n d132_7 rfl ?_
  refine w_dloadS d132_8 (ok.kd hx) (fr778 ok hx) ?_
  refine w_iload_n d132_11 rfl ?_
  have k12 := kE778 ok hx (j := w) (by omega)
  refine w_aaloadSN d132_12 (gi778 ok hx (by omega)) (er778 ok hx (by omega)) ?_
  refine w_astore3 d132_13 rfl ?_
  refine w_aload_n d132_14 rfl ?_
  refine w_dloadS d132_15 (ok.kd hx) (fr775 ok hx) ?_
  refine w_iload_n d132_18 rfl ?_
  refine w_iconst d132_19 (by decide) ?_
  refine wa775 d132_20 ok hx (by omega) (by omega) (fun h20 e20 m20 => ?_)
  have e20 : h20 = sAI h (sT S 775 x) w (-1) := e20
  have ok20 := m20.ok
  have M20 := Mo.tr ok (Mo.refl (A := (fun ζ => U S x ζ)) ok) m20 (fun ζ e => (e ▸ (ok.so.uT (by decide) U_refl)))
  have s20 := sf.t ok m20 hx (by decide) (by decide)
  have r20 := rc.w775 (v := -1) ok hx e20 m20
  refine w_aload_n d132_21 rfl ?_
  refine w_iconst d132_22 (by decide) ?_
  refine wf783 d132_23 ok20 hx (Or.inl rfl) (fun h23 e23 m23 => ?_)
  have ok23 := m23.ok
  have M23 := Mo.tr ok M20 m23 (fun ζ e => (e ▸ U_refl))
  have s23 := s20.own ok20 m23 hx (by rw [e23, FI_sFI, if_neg (fun z => absurd z.1 (by decide))]) (by rw [e23, FI_sFI, if_neg (fun z => absurd z.1 (by decide))])
  have r23 := r20.own ok20 hx m23 (by rw [e23, FI_sFI, if_neg (fun z => absurd z.1 (by decide))]) (by rw [e23, FI_sFI, if_neg (fun z => absurd z.1 (by decide))])
  refine w_aload_n d132_26 rfl ?_
  refine w_dloadS d132_27 (ok23.kd hx) (fr781 ok23 hx) ?_
  refine w_aload_n d132_30 rfl ?_
  refine w_dloadS d132_31 (ok23.kd hx) (fr777 ok23 hx) ?_
  refine w_iload_n d132_34 rfl ?_
  refine w_ialoadV (x := ((rW r w : Nat) : Int)) d132_35 (gi777 ok23 hx (by omega)) (r23.2.2.2.1 w hw) ?_
  refine w_dup2 d132_36 ?_
  refine w_ialoadV (x := ((rC r (rW r w) : Nat) : Int)) d132_37 (gi781 ok23 hx (by omega)) (r23.2.2.2.2.2.2.1 (rW r w) w3n) ?_
  refine w_iconst d132_38 (by decide) ?_
  refine w_iadd d132_39 (by constructor <;> omega) ?_
  rw [show ((rC r (rW r w) : Nat) : Int) + 1 = ((rC r (rW r w) + 1 : Nat) : Int) by omega]
  refine wa781 d132_40 ok23 hx (by omega) (by omega) (fun h40 e40 m40 => ?_)
  have e40 : h40 = sAI h23 (sT S 781 x) (rW r w) ((rC r (rW r w) + 1 : Nat) : Int) := e40
  have ok40 := m40.ok
  have M40 := Mo.tr ok M23 m40 (fun ζ e => (e ▸ (ok.so.uT (by decide) U_refl)))
  have sf40 := s23.t ok23 m40 hx (by decide) (by decide)
  have r40 : RunC S h40 x (fn1 r w) := r23.w781 (v := rC r (rW r w) + 1) ok23 hx e40 m40
  have d40 : FI h40 783 x = 0 := by rw [m40.fi ok23 (by omega) (fun z => ok.so.pT (by decide) z.symm) 783, e23, FI_sFI, if_pos ⟨rfl, rfl⟩]
  have L59 : ∀ (m59 : Nat) (b : Hp) , 0 = m59 → Mo S (fun ζ => U S x ζ) h b → (SfC S b x P pu pp re ed ra (if rW r w = 2 then ks else kpL (sL S (sT S 900 (sT S 769 x))) ks (rB r w).2.2 (rB r w).1) nd g k) → (RunC S b x (fn1 r w)) → (FI b 783 x = 0) → Wp G d 132 59 [some (vR (some x)), some (vI (w : Nat)), some (vI (t : Nat)), some (vR (some (sE S (sT S 778 x) w)))] [] b Q := by
    intro m59
    induction m59 using Nat.strongRecOn with | ind m59 IH59 => ?_
    intro b  hm59 Mb sb rb db
    have okb := Mb.ok
    obtain ⟨f774, f775, f776, f777, f778, f780, f781, f782, f784, fl⟩ := id rb
    obtain ⟨⟨ob1, ob2, ob3, ob4, ob5⟩, pb, kyb⟩ := f778 w hw
    have ob6 : (oW (rB r w).1).length ≤ 600 := ob5.2.2
    refine w_aload_n d132_59 rfl ?_
    refine w_getI (x := (b2i (rB r w).1.1)) d132_60 (okb.kd kb) ob1 ?_
    refine w_ifeq d132_63 (fun c63 => ?_) (fun c63 => ?_)
    · have bf : ¬ (rB r w).1.1 = true := fun z => by have q : (b2i (rB r w).1.1) = 0 := c63; rw [z] at q; exact absurd q (by decide)
      refine w_aload_n d132_100 rfl ?_
      refine w_dloadS d132_101 (okb.kd hx) (fr774 okb hx) ?_
      refine w_iload_n d132_104 rfl ?_
      refine w_iconst d132_105 (by decide) ?_
      refine wa774 d132_106 okb hx (by omega) (by omega) (fun h106 e106 m106 => ?_)
      have e106 : h106 = sAI b (sT S 774 x) t 2 := e106
      have ok106 := m106.ok
      have M106 := Mo.tr ok Mb m106 (fun ζ e => (e ▸ (ok.so.uT (by decide) U_refl)))
      have s106 := sb.t okb m106 hx (by decide) (by decide)
      have r106 := rb.w774 (v := 2) okb hx e106 m106
      have ow106 : rl h106 (sT S 259 (sE S (sT S 778 x) w)) = oW (rB r w).1 := (m106.rb okb (kT259 okb kb) (by exact fun z => by have k5 := kT259 okb kb; rw [z] at k5; have k6 := kT774 ok hx; omega)).trans ob4
      refine w_aload_n d132_107 rfl ?_
      refine w_getI (x := (rF r)) d132_108 (ok106.kd hx) r106.2.2.2.2.2.2.2.1 ?_
      refine w_iflt d132_111 (fun c111 => ?_) (fun c111 => ?_)
      · have yf : rF r < 0 ∨ ((t : Nat) : Int) < rF r := by omega
        refine w_aload_n d132_122 rfl ?_
        refine w_iload_n d132_123 rfl ?_
        refine wf782 d132_124 ok106 hx (by omega) (fun h124 e124 m124 => ?_)
        have ok124 := m124.ok
        have M124 := Mo.tr ok M106 m124 (fun ζ e => (e ▸ U_refl))
        have ow124 : rl h124 (sT S 259 (sE S (sT S 778 x) w)) = oW (rB r w).1 := (m124.rb ok106 (kT259 ok106 kb) (fun z => by have k5 := kT259 ok106 kb; rw [z] at k5; omega)).trans ow106
        refine w_aload_n d132_127 rfl ?_
        refine w_dloadS d132_128 (ok124.kd hx) (fr784 ok124 hx) ?_
        refine w_aload_n d132_131 rfl ?_
        refine w_dloadS d132_132 (ok124.kd kb) (fr259 ok124 kb) ?_
        refine w_iconst d132_135 (by decide) ?_
        refine w_aload_n d132_136 rfl ?_
        refine w_dloadS d132_137 (ok124.kd kb) (fr259 ok124 kb) ?_
        refine w_callv1 d132_140 (by omega) rfl (ok124.kd (kT259 ok124 kb)) (by simp) (Nat.le_of_ble_eq_true rfl) ?_
        refine r_Row_size ok124 (kT259 ok124 kb) ?_
        rw [ow124]
        refine w_callv4 d132_143 (by omega) rfl (ok124.kd (kT784 ok124 hx)) (by simp) (Nat.le_of_ble_eq_true rfl) ?_
        refine r_Row_set (f := 0) (e := (oW (rB r w).1).length) (by omega) ok124 (kT784 ok124 hx) (kT259 ok124 kb) (fun z => ok.so.sib (f := 778) (g := 784) (by decide) (by decide) (by decide) (ok.so.uT (by decide) (ok.so.uE (by omega) U_refl) : U S (sT S 778 x) (sT S 259 (sE S (sT S 778 x) w))) (z ▸ U_refl)) ⟨by omega, by rw [ow124]; exact Nat.le_refl _⟩ (Or.inr (by omega)) (fun h143 m143 e143_1 => ?_)
        rw [ow124, sl_all] at e143_1
        have ok143 := m143.ok
        have M143 := Mo.tr ok M124 m143 (fun ζ e => (e ▸ (ok.so.uT (by decide) U_refl)))
        refine w_return d132_146 ?_
        rw [if_neg bf, if_neg bf] at kk
        have mm : Mo S (fun y => y = x ∨ y = sT S 784 x) h106 h143 := Mo.tr ok106 (Mo.tr ok106 (Mo.refl ok106) m124 (fun _ q => Or.inl q)) m143 (fun _ q => Or.inr q)
        have fx : ∀ f, f ≠ 641 → f ≠ 782 → FI h143 f x = FI h106 f x := fun f a b => by rw [m143.fi ok124 (by omega) (fun z => ok.so.pT (by decide) z.symm) f a, e124, FI_sFI, if_neg (fun z => b z.1)]
        have s124 := s106.own ok106 m124 hx (by rw [e124, FI_sFI, if_neg (fun z => absurd z.1 (by decide))]) (by rw [e124, FI_sFI, if_neg (fun z => absurd z.1 (by decide))])
        have s143 := s124.t ok124 m143 hx (by decide) (by decide)
        refine kk h143 M143 (s143.ses (by unfold fnR; rw [if_neg bf, if_pos yf]; exact r106.wF ok106 hx ob5.2.2 mm (by rw [m143.fi ok124 (by omega) (fun z => ok.so.pT (by decide) z.symm) 782, e124, FI_sFI, if_pos ⟨rfl, rfl⟩]) (fx 780 (by decide) (by decide)) e143_1) ?_)
        rw [fx 783 (by decide) (by decide), m106.fi okb (by omega) (fun z => ok.so.pT (by decide) z.symm) 783]
        exact db
      · refine w_iload_n d132_114 rfl ?_
        refine w_aload_n d132_115 rfl ?_
        refine w_getI (x := (rF r)) d132_116 (ok106.kd hx) r106.2.2.2.2.2.2.2.1 ?_
        refine w_icmpge d132_119 (fun c119 => ?_) (fun c119 => ?_)
        · have nf : ¬ (rF r < 0 ∨ ((t : Nat) : Int) < rF r) := by omega
          refine w_return d132_146 ?_
          rw [if_neg bf, if_neg bf] at kk
          refine kk h106 M106 (s106.ses (by unfold fnR; rw [if_neg bf, if_neg nf]; exact r106) ?_)
          rw [m106.fi okb (by omega) (fun z => ok.so.pT (by decide) z.symm) 783]
          exact db
        · have yf : rF r < 0 ∨ ((t : Nat) : Int) < rF r := by omega
          refine w_aload_n d132_122 rfl ?_
          refine w_iload_n d132_123 rfl ?_
          refine wf782 d132_124 ok106 hx (by omega) (fun h124 e124 m124 => ?_)
          have ok124 := m124.ok
          have M124 := Mo.tr ok M106 m124 (fun ζ e => (e ▸ U_refl))
          have ow124 : rl h124 (sT S 259 (sE S (sT S 778 x) w)) = oW (rB r w).1 := (m124.rb ok106 (kT259 ok106 kb) (fun z => by have k5 := kT259 ok106 kb; rw [z] at k5; omega)).trans ow106
          refine w_aload_n d132_127 rfl ?_
          refine w_dloadS d132_128 (ok124.kd hx) (fr784 ok124 hx) ?_
          refine w_aload_n d132_131 rfl ?_
          refine w_dloadS d132_132 (ok124.kd kb) (fr259 ok124 kb) ?_
          refine w_iconst d132_135 (by decide) ?_
          refine w_aload_n d132_136 rfl ?_
          refine w_dloadS d132_137 (ok124.kd kb) (fr259 ok124 kb) ?_
          refine w_callv1 d132_140 (by omega) rfl (ok124.kd (kT259 ok124 kb)) (by simp) (Nat.le_of_ble_eq_true rfl) ?_
          refine r_Row_size ok124 (kT259 ok124 kb) ?_
          rw [ow124]
          refine w_callv4 d132_143 (by omega) rfl (ok124.kd (kT784 ok124 hx)) (by simp) (Nat.le_of_ble_eq_true rfl) ?_
          refine r_Row_set (f := 0) (e := (oW (rB r w).1).length) (by omega) ok124 (kT784 ok124 hx) (kT259 ok124 kb) (fun z => ok.so.sib (f := 778) (g := 784) (by decide) (by decide) (by decide) (ok.so.uT (by decide) (ok.so.uE (by omega) U_refl) : U S (sT S 778 x) (sT S 259 (sE S (sT S 778 x) w))) (z ▸ U_refl)) ⟨by omega, by rw [ow124]; exact Nat.le_refl _⟩ (Or.inr (by omega)) (fun h143 m143 e143_1 => ?_)
          rw [ow124, sl_all] at e143_1
          have ok143 := m143.ok
          have M143 := Mo.tr ok M124 m143 (fun ζ e => (e ▸ (ok.so.uT (by decide) U_refl)))
          refine w_return d132_146 ?_
          rw [if_neg bf, if_neg bf] at kk
          have mm : Mo S (fun y => y = x ∨ y = sT S 784 x) h106 h143 := Mo.tr ok106 (Mo.tr ok106 (Mo.refl ok106) m124 (fun _ q => Or.inl q)) m143 (fun _ q => Or.inr q)
          have fx : ∀ f, f ≠ 641 → f ≠ 782 → FI h143 f x = FI h106 f x := fun f a b => by rw [m143.fi ok124 (by omega) (fun z => ok.so.pT (by decide) z.symm) f a, e124, FI_sFI, if_neg (fun z => b z.1)]
          have s124 := s106.own ok106 m124 hx (by rw [e124, FI_sFI, if_neg (fun z => absurd z.1 (by decide))]) (by rw [e124, FI_sFI, if_neg (fun z => absurd z.1 (by decide))])
          have s143 := s124.t ok124 m143 hx (by decide) (by decide)
          refine kk h143 M143 (s143.ses (by unfold fnR; rw [if_neg bf, if_pos yf]; exact r106.wF ok106 hx ob5.2.2 mm (by rw [m143.fi ok124 (by omega) (fun z => ok.so.pT (by decide) z.symm) 782, e124, FI_sFI, if_pos ⟨rfl, rfl⟩]) (fx 780 (by decide) (by decide)) e143_1) ?_)
          rw [fx 783 (by decide) (by decide), m106.fi okb (by omega) (fun z => ok.so.pT (by decide) z.symm) 783]
          exact db
    · have bt : (rB r w).1.1 = true := by cases z : (rB r w).1.1 with
        | true => rfl
        | false => exact absurd (show b2i (rB r w).1.1 = 0 by rw [z]; rfl) c63
      refine w_aload_n d132_66 rfl ?_
      refine w_dloadS d132_67 (okb.kd hx) (fr774 okb hx) ?_
      refine w_iload_n d132_70 rfl ?_
      refine w_iconst d132_71 (by decide) ?_
      refine wa774 d132_72 okb hx (by omega) (by omega) (fun h72 e72 m72 => ?_)
      have e72 : h72 = sAI b (sT S 774 x) t 1 := e72
      have ok72 := m72.ok
      have M72 := Mo.tr ok Mb m72 (fun ζ e => (e ▸ (ok.so.uT (by decide) U_refl)))
      have s72 := sb.t okb m72 hx (by decide) (by decide)
      have r72 := rb.w774 (v := 1) okb hx e72 m72
      have o72 : OuC S h72 (sE S (sT S 778 x) w) (rB r w).1 := (f778 w hw).1.f okb m72 kb (OFr.t ok.so (by decide) (Or.inr (by decide)) (by omega))
      have p72 : PaC S h72 (sE S (sT S 778 x) w) (rB r w).2.1 := (f778 w hw).2.1.f okb m72 kb (OFr.t ok.so (by decide) (Or.inr (by decide)) (by omega))
      refine w_aload_n d132_73 rfl ?_
      refine w_dloadS d132_74 (ok72.kd hx) (fr769 ok72 hx) ?_
      refine w_dloadS d132_77 (ok72.kd (kT769 ok72 hx)) (fr896 ok72 (kT769 ok72 hx)) ?_
      refine w_iload_n d132_80 rfl ?_
      have k81 := kE896 ok72 (kT769 ok72 hx) (j := t) (by omega)
      refine w_aaloadSN d132_81 (gi896 ok72 (kT769 ok72 hx) (by omega)) (er896 ok72 (kT769 ok72 hx) (by omega)) ?_
      refine w_aload_n d132_82 rfl ?_
      refine w_callv2 d132_83 (by omega) rfl (ok72.kd k81) (by simp) (Nat.le_of_ble_eq_true rfl) ?_
      refine k_Ou_takeResult ok72 (by omega) kpt kb o72 npb (fun h83 m83 e83_1 e83_2 e83_3 => ?_)
      have ok83 := m83.ok
      have M83 := Mo.tr ok M72 m83 (fun x q => (U_trans (ok.so.uE (by omega) (ok.so.uT (by decide) (ok.so.uT (by decide) U_refl))) (q.u ok.so)))
      have st83 := s72.2.1.put ok72 kst ht14 m83 e83_1 e83_2
      have s83 := s72.st ok72 m83 hx uPT st83
      have r83 := r72.sib ok72 m83 hx ⟨(by decide : 769 < 4096), by decide⟩ uPT
      have p83 : PaC S h83 (sE S (sT S 778 x) w) (rB r w).2.1 := p72.f ok72 m83 kb (OFr.oa ok72 kpt kb npb)
      refine w_aload_n d132_86 rfl ?_
      refine w_dloadS d132_87 (ok83.kd hx) (fr769 ok83 hx) ?_
      refine w_dloadS d132_90 (ok83.kd (kT769 ok83 hx)) (fr896 ok83 (kT769 ok83 hx)) ?_
      refine w_iload_n d132_93 rfl ?_
      have k94 := kE896 ok83 (kT769 ok83 hx) (j := t) (by omega)
      refine w_aaloadSN d132_94 (gi896 ok83 (kT769 ok83 hx) (by omega)) (er896 ok83 (kT769 ok83 hx) (by omega)) ?_
      refine w_aload_n d132_95 rfl ?_
      refine w_callv2 d132_96 (by omega) rfl (ok83.kd k94) (by simp) (Nat.le_of_ble_eq_true rfl) ?_
      refine k_Ou_takeParts ok83 (by omega) kpt kb p83 npb (fun h96 m96 e96_1 e96_2 e96_3 => ?_)
      have ok96 := m96.ok
      have M96 := Mo.tr ok M83 m96 (fun x q => (U_trans (ok.so.uE (by omega) (ok.so.uT (by decide) (ok.so.uT (by decide) U_refl))) (q.u ok.so)))
      have st96 := s83.2.1.par ok83 kst ht14 m96 e96_1 e96_2
      have s96 := s83.st ok83 m96 hx uPT st96
      have r96 := r83.sib ok83 m96 hx ⟨(by decide : 769 < 4096), by decide⟩ uPT
      refine w_return d132_99 ?_
      rw [if_pos bt, if_pos bt] at kk
      refine kk h96 M96 (s96.ses (by unfold fnR; rw [if_pos bt]; exact r96) ?_)
      rw [m96.fi ok83 (by omega) (OA.no ok83 kpt (by omega)) 783, m83.fi ok72 (by omega) (OA.no ok72 kpt (by omega)) 783, m72.fi okb (by omega) (fun z => ok.so.pT (by decide) z.symm) 783]
      exact db
  refine w_aload_n d132_41 rfl ?_
  refine w_dloadS d132_42 (ok40.kd hx) (fr777 ok40 hx) ?_
  refine w_iload_n d132_45 rfl ?_
  refine w_ialoadV (x := ((rW r w : Nat) : Int)) d132_46 (gi777 ok40 hx (by omega)) (r40.2.2.2.1 w hw) ?_
  refine w_iconst d132_47 (by decide) ?_
  refine w_icmpeq d132_48 (fun c48 => ?_) (fun c48 => ?_)
  · have w2 : rW r w = 2 := by have q : ((rW r w : Nat) : Int) = 2 := c48; omega
    refine w_less ?_ (L59 _ h40  rfl M40 (by rw [if_pos w2]; exact sf40) r40 d40)
    exact ⟨Or.inr rfl, Or.inr rfl, Or.inr rfl, Or.inr rfl, trivial⟩
  · have w2 : ¬ rW r w = 2 := fun z => c48 (by show ((rW r w : Nat) : Int) = 2; omega)
    refine w_aload_n d132_51 rfl ?_
    refine w_dloadS d132_52 (ok40.kd hx) (fr769 ok40 hx) ?_
    refine w_aload_n d132_55 rfl ?_
    refine w_callv2 d132_56 (by omega) rfl (ok40.kd (kT769 ok40 hx)) (by simp) (Nat.le_of_ble_eq_true rfl) ?_
    have b40 := r40.2.2.2.2.1 w hw
    refine k_St_keep ok40 (by omega) kst kb sf40.2.1 b40.1 b40.2.2 (fun u => ok.so.sib (f := 769) (g := 778) (by decide) (by decide) (by decide) u (ok.so.uE (by omega) U_refl)) (fun h56 m56 e56_1 => ?_)
    have ok56 := m56.ok
    have M56 := Mo.tr ok M40 m56 (fun ζ u => (U_trans (ok.so.uT (by decide) U_refl) u))
    refine w_less ?_ (L59 _ h56  rfl M56 (by rw [if_neg w2]; exact sf40.st ok40 m56 hx (fun _ u => u) e56_1) (r40.sib ok40 m56 hx ⟨(by decide : 769 < 4096), by decide⟩ (fun _ u => u)) (by rw [m56.fi ok40 (by omega) (ok.so.nU (by decide)) 783]; exact d40))
    exact ⟨Or.inr rfl, Or.inr rfl, Or.inr rfl, Or.inr rfl, trivial⟩
