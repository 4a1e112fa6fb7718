/-! the reference: one frame for what its methods change -/
/-- m itself, and what lies below its fields in F -/
def MA (S : Shp) (m : Nat) (F : List Nat) (y : Nat) : Prop := y = m ∨ ∃ g, g ∈ F ∧ U S (sT S g m) y
/-- of the object m the numbers in the fields F, and what lies below the fields F, may have changed; nothing else -/
def Fr (S : Shp) (m : Nat) (F : List Nat) (h h' : Hp) : Prop := Ok S h ∧ Mo S (MA S m F) h h' ∧ FK F m h h'
section FRM
variable {S : Shp} {m : Nat} {F F' : List Nat} {h h1 h' : Hp}
theorem Fr.refl (ok : Ok S h) : Fr S m F h h := ⟨ok, Mo.refl ok, FK.refl⟩
theorem Fr.ok (f : Fr S m F h h') : Ok S h' := f.2.1.ok
theorem Fr.mo (f : Fr S m F h h') : Mo S (MA S m F) h h' := f.2.1
theorem MA.le (hs : ∀ g ∈ F', g ∈ F) {y : Nat} (q : MA S m F' y) : MA S m F y := q.elim Or.inl (fun ⟨g, a, b⟩ => Or.inr ⟨g, hs g a, b⟩)
theorem Fr.tr (a : Fr S m F h h1) (b : Fr S m F' h1 h') (hs : ∀ g ∈ F', g ∈ F) (_ : True := trivial) : Fr S m F h h' := ⟨a.1, Mo.tr a.1 a.2.1 b.2.1 (fun _ q => MA.le hs q), FK.tr a.2.2 b.2.2 hs⟩
theorem Fr.le (b : Fr S m F' h h') (hs : ∀ g ∈ F', g ∈ F) : Fr S m F h h' := ⟨b.1, b.2.1.mono (fun _ q => MA.le hs q), FK.tr FK.refl b.2.2 hs⟩
theorem Fr.mk {A : Nat → Prop} {F' : List Nat} (ok : Ok S h) (mo : Mo S A h h') (hA : ∀ y, A y → MA S m F y) (q : FK F' m h h') (hs : ∀ g ∈ F', g ∈ F) : Fr S m F h h' := ⟨ok, mo.mono hA, FK.tr FK.refl q hs⟩
theorem Fr.wF (ok : Ok S h) (mo : Mo S (fun y => y = m) h h') (q : FK F m h h') : Fr S m F h h' := ⟨ok, mo.mono (fun _ e => Or.inl e), q⟩
theorem Fr.wB {A : Nat → Prop} (ok : Ok S h) (hm : sK S m = 14) (mo : Mo S A h h') (hA : ∀ y, A y → ∃ g, g < 4096 ∧ g ∈ F ∧ U S (sT S g m) y) : Fr S m F h h' := ⟨ok, mo.mono (fun y q => by obtain ⟨g, -, a, b⟩ := hA y q; exact Or.inr ⟨g, a, b⟩), FK.tr FK.refl (FK.of ok mo hm (fun q => by
  obtain ⟨g, g4, a, b⟩ := hA m q
  have := ok.so.uLe b
  have := ok.so.ltT (f := g) (a := m) g4
  omega)) (fun _ z => absurd z List.not_mem_nil)⟩
theorem Fr.i (f : Fr S m F h h') (g : Nat) (hg : g ∉ F := by decide) (h0 : 1408 ≤ g := by decide) : FI h' g m = FI h g m := f.2.2.i g hg h0
theorem Fr.l (f : Fr S m F h h') (g : Nat) (hg : g ∉ F := by decide) (h0 : 1408 ≤ g := by decide) : FL h' g m = FL h g m := f.2.2.l g hg h0
/-- below another field nothing lies that may have changed -/
theorem MA.no (so : SOk S) {g y : Nat} (g4 : g < 4096) (hg : g ∉ F) (hF : ∀ x ∈ F, x < 4096) (u : U S (sT S g m) y) : ¬ MA S m F y := by
  rintro (e | ⟨x, hx, v⟩)
  · have := so.uLe u
    have := so.ltT (f := g) (a := m) g4
    omega
  · rcases U_tree u v with w | w
    · rcases (so.U_T (hF x hx)).mp w with z | z
      · exact hg ((so.inj g4 (hF x hx)).mp z |>.1 ▸ hx)
      · have := so.uLe z
        have := so.ltT (f := g) (a := m) g4
        omega
    · rcases (so.U_T g4).mp w with z | z
      · exact hg ((so.inj (hF x hx) g4).mp z |>.1 ▸ hx)
      · have := so.uLe z
        have := so.ltT (f := x) (a := m) (hF x hx)
        omega
/-- fields are below 4096: of a frame that stands -/
abbrev ltF4 (F : List Nat) : Prop := ∀ x ∈ F, x < 4096
theorem Fr.no (f : Fr S m F h h') {g y : Nat} (g4 : g < 4096) (hg : g ∉ F) (hF : ltF4 F) (u : U S (sT S g m) y) : ¬ MA S m F y := MA.no f.1.so g4 hg hF u
theorem Fr.ai (f : Fr S m F h h') {g : Nat} (hk : sK S (sT S g m) ≠ 0 ∧ sK S (sT S g m) ≠ 6) (g4 : g < 4096) (hg : g ∉ F) (hF : ltF4 F) : AI h' (sT S g m) = AI h (sT S g m) := f.mo.ai f.1 hk (f.no g4 hg hF U_refl)
theorem Fr.al (f : Fr S m F h h') {g : Nat} (hk : sK S (sT S g m) ≠ 0 ∧ sK S (sT S g m) ≠ 6) (g4 : g < 4096) (hg : g ∉ F) (hF : ltF4 F) : AL h' (sT S g m) = AL h (sT S g m) := f.mo.al f.1 hk (f.no g4 hg hF U_refl)
theorem Fr.sg {g i : Nat} {l : List Nat} (f : Fr S m F h h') (g4 : g < 4096) (hg : g ∉ F) (hF : ltF4 F) (D : SgC S h (sT S g m) i l) : SgC S h' (sT S g m) i l := D.mo f.1 f.mo (f.no g4 hg hF U_refl)
theorem hdK {f : Nat} (ok : Ok S h) (hm : sK S m = 14) (hfd : f = 1664 ∨ f = 1665) : sK S (sT S f m) = 12 := by rcases hfd with rfl | rfl; exact kT1664 ok hm; exact kT1665 ok hm
theorem fd4 {f : Nat} (hfd : f = 1664 ∨ f = 1665) : f < 4096 := by omega
theorem DfC.r {f : Nat} {P : PlV} (fr : Fr S m F h h') (hm : sK S m = 14) (hF : (f = 1664 ∨ f = 1665) ∧ f ∉ F ∧ ltF4 F) (D : DfC S h (sT S f m) P) : DfC S h' (sT S f m) P := D.u fr.1 fr.mo (hdK fr.1 hm hF.1) (fun _ u => fr.no (fd4 hF.1) hF.2.1 hF.2.2 u)
theorem OmS.r {f : Nat} {bu : Nat → OmV} (fr : Fr S m F h h') (hm : sK S m = 14) (hof : f = 1668 ∨ f = 1669) (hF : f ∉ F ∧ ltF4 F) (D : OmS S h (sT S f m) bu) : OmS S h' (sT S f m) bu := D.u fr.1 fr.mo (fun j hj => (oth fr.1 hm hof hj).2.2.1) (fun _ u => fr.no (by omega) hF.1 hF.2 u)
theorem DgC.r {l : List Nat} (D : DgC h m l) (fr : Fr S m F h h') (_ : sK S m = 14) (hF : 1677 ∉ F := by decide) : DgC h' m l := D.f fr.2.2 hF
theorem TeR.r {l : List Nat} (D : TeR S h m l) (fr : Fr S m F h h') (hm : sK S m = 14) (h1 : 1732 ∉ F ∧ 1733 ∉ F ∧ ltF4 F := by decide) : TeR S h' m l := ⟨(fr.i 1733 h1.2.1).trans D.1, D.2.1, fun i hi => by rw [fr.ai (by have := kT1732 fr.1 hm; omega) (by decide) h1.1 h1.2.2]; exact D.2.2 i hi⟩
theorem PaR.r {ps : List Int64} (D : PaR S h m ps) (fr : Fr S m F h h') (hm : sK S m = 14) (h1 : 1678 ∉ F ∧ 1679 ∉ F ∧ ltF4 F := by decide) : PaR S h' m ps := ⟨(fr.i 1679 h1.2.1).trans D.1, D.2.1, fun i hi => by rw [fr.al (by have := kT1678 fr.1 hm; omega) (by decide) h1.1 h1.2.2]; exact D.2.2 i hi⟩
/-- what is gathered -/
def AlR (S : Shp) (h : Hp) (m : Nat) (l : List Nat) : Prop := FI h 1682 m = l.length ∧ SgC S h (sT S 1681 m) 0 l
theorem AlR.r {l : List Nat} (D : AlR S h m l) (fr : Fr S m F h h') (_ : sK S m = 14) (h1 : 1681 ∉ F ∧ 1682 ∉ F ∧ ltF4 F := by decide) : AlR S h' m l := ⟨(fr.i 1682 h1.2.1).trans D.1, fr.sg (by decide) h1.1 h1.2.2 D.2⟩
/-- where the inputs begin -/
def BgR (S : Shp) (h : Hp) (m : Nat) (g : Nat → Nat) (n : Nat) : Prop := ∀ i, i < n → AI h (sT S 1684 m) i = (g i : Nat)
theorem BgR.r {g : Nat → Nat} {n : Nat} (D : BgR S h m g n) (fr : Fr S m F h h') (hm : sK S m = 14) (h1 : 1684 ∉ F ∧ ltF4 F := by decide) : BgR S h' m g n := fun i hi => by rw [fr.ai (by have := kT1684 fr.1 hm; omega) (by decide) h1.1 h1.2]; exact D i hi
theorem BgR.w {g : Nat → Nat} {n : Nat} (D : BgR S h m g n) (e : h' = sAI h (sT S 1684 m) n (g n : Nat)) : BgR S h' m g (n + 1) := fun i hi => by
  rw [e]
  show up2 (AI h) (sT S 1684 m) n _ (sT S 1684 m) i = _
  unfold up2
  by_cases q : i = n
  · rw [if_pos ⟨rfl, q⟩, q]
  · rw [if_neg (fun z => q z.2)]; exact D i (by omega)
end FRM
theorem d267_0 : dc 267 0 = some (.aload_n 0, 1) := by decide +kernel
theorem d267_1 : dc 267 1 = some (.dload 1681, 4) := by decide +kernel
theorem d267_4 : dc 267 4 = some (.aload_n 0, 5) := by decide +kernel
theorem d267_5 : dc 267 5 = some (.getfield 1682, 8) := by decide +kernel
theorem d267_8 : dc 267 8 = some (.iload_n 1, 9) := by decide +kernel
theorem d267_9 : dc 267 9 = some (.iastore, 10) := by decide +kernel
theorem d267_10 : dc 267 10 = some (.aload_n 0, 11) := by decide +kernel
theorem d267_11 : dc 267 11 = some (.dup, 12) := by decide +kernel
theorem d267_12 : dc 267 12 = some (.getfield 1682, 15) := by decide +kernel
theorem d267_15 : dc 267 15 = some (.iconst 1, 16) := by decide +kernel
theorem d267_16 : dc 267 16 = some (.iadd, 17) := by decide +kernel
theorem d267_17 : dc 267 17 = some (.putfield 1682, 20) := by decide +kernel
theorem d267_20 : dc 267 20 = some (.return_, 21) := by decide +kernel
theorem k_M_addByte {S : Shp} {G : Nat → Option Nat} {d : Nat} {h : Hp} {Q : Option MV → Hp → Prop} {m : Nat} {c : Nat} {l : List Nat} (ok : Ok S h) (h1 : 0 ≤ d) (hm : sK S m = 14) (AL : AlR S h m l) (hl : l.length < 3600) (hc : c ≤ 255)
    (kk : ∀ h', Fr S m [1681, 1682] h h' → AlR S h' m (l ++ [c]) → Q none h') : Cl G d 267 [vR (some m), vI (c : Nat)] h Q := by
  show Wp G d 267 0 [some (vR (some m)), some (vI (c : Nat))] [] h Q
  have AL_0 := AL
  have sl := sLT ok (f := 1681) (n := 3600) hm (by decide) rfl (by decide)
  have nO : ¬ m = sT S 1681 m := fun z => ok.so.pT (f := 1681) (by decide) z.symm
  refine w_aload_n d267_0 rfl ?_
  refine w_dloadS d267_1 (ok.kd hm) (fr1681 ok hm) ?_
  refine w_aload_n d267_4 rfl ?_
  refine w_getI (x := ((l.length : Nat) : Int)) d267_5 (ok.kd hm) AL.1 ?_
  refine w_iload_n d267_8 rfl ?_
  refine wa1681 d267_9 ok hm (by omega) (by omega) (fun h9 e9 m9 => ?_)
  have e9 : h9 = sAI h (sT S 1681 m) l.length ((c : Nat) : Int) := e9
  have f9 : Fr S m [1681] _ _ := Fr.wB ok hm m9 (fun ζ e => ⟨1681, by decide, by decide, e ▸ U_refl⟩)
  have ok9 := f9.ok
  have FR9 := Fr.le (F := [1681, 1682]) f9 (by decide)
  refine w_aload_n d267_10 rfl ?_
  refine w_dupR d267_11 ?_
  refine w_getI (x := ((l.length : Nat) : Int)) d267_12 (ok9.kd hm) ((f9.i 1682).trans AL_0.1) ?_
  refine w_iconst d267_15 (by decide) ?_
  refine w_iadd d267_16 (by constructor <;> omega) ?_
  refine wf1682 d267_17 ok9 hm (by omega) (fun h17 e17 m17 => ?_)
  have f17 : Fr S m [1682] _ _ := Fr.wF ok9 m17 (FK.pI e17)
  have ok17 := f17.ok
  have FR17 := Fr.tr (F := [1681, 1682]) FR9 f17 (by decide) (by decide)
  refine w_return d267_20 ?_
  have w9 : SgC S h9 (sT S 1681 m) 0 (l ++ [c]) := AL_0.2.snoc (by rw [e9, Nat.zero_add]) (by omega)
  refine kk h17 FR17 ⟨?_, f17.sg (by decide) (by decide) (by decide) w9⟩
  rw [e17, FI_sFI, if_pos ⟨rfl, rfl⟩]; simp
theorem flt_succ {ins : List (List Nat)} {k : Nat} (h : k < ins.length) : (ins.take (k + 1)).flatten = (ins.take k).flatten ++ ins.getD k [] := by
  rw [List.take_succ, List.flatten_append, List.getElem?_eq_getElem h, List.getD_eq_getElem?_getD, List.getElem?_eq_getElem h]
  simp
theorem flt_le {ins : List (List Nat)} {n : Nat} (h : ∀ i, i < ins.length → (ins.getD i []).length ≤ n) : ∀ k, k ≤ ins.length → (ins.take k).flatten.length ≤ n * k
  | 0, _ => by simp
  | k + 1, hk => by
    have := flt_le h k (by omega)
    have := h k (by omega)
    rw [flt_succ (by omega), List.length_append, Nat.mul_succ]
    omega
/-- the inputs of a target, as the reference reads them -/
def inR (fs : List (List Nat × List Nat)) (ts : List (Bool × TgV)) (bu : Nat → OmV) (t : Nat) : List (List Nat) := inpL fs ts (fun u => oV (bu u)) (tD ts t)
theorem inR_len {fs : List (List Nat × List Nat)} {ts : List (Bool × TgV)} {bu : Nat → OmV} {t : Nat} : (inR fs ts bu t).length = (tgI (tD ts t)).length := by unfold inR inpL; rw [List.length_map]
theorem taT_lt {ts : List (Bool × TgV)} {n : List Nat} : tat ts n < ts.length := by
  have := tat_rg ts n
  omega
theorem fix_lt {fs : List (List Nat × List Nat)} {n : List Nat} : fix fs n < fs.length := by
  have fr : fix fs n = -1 ∨ ∃ j, 0 ≤ j ∧ j < fs.length ∧ fix fs n = (j : Int) ∧ _ := srF_rg (p := fun i => fP fs i == n) (n := fs.length) (i := 0)
  rcases fr with z | ⟨j, j1, j2, j3, j4⟩ <;> omega
theorem inR_le {S : Shp} {h : Hp} {m of fd t k : Nat} {P0 : PlV} {bu : Nat → OmV} (ok : Ok S h) (hm : sK S m = 14) (hof : of = 1668 ∨ of = 1669) (OS : OmS S h (sT S of m) bu) (DP : DfC S h (sT S fd m) P0) (nom : noMis P0.1 P0.2.2 (tD P0.2.2 t)) (hk : k < (tgI (tD P0.2.2 t)).length) : ((inR P0.1 P0.2.2 bu t).getD k []).length ≤ 600 := by
  have nm := nom.at hk
  unfold inR
  rw [inpR_at nom hk]
  split
  · rename_i q
    rw [if_pos q] at nm
    have l1 := taT_lt (ts := P0.2.2) (n := inN (tgI (tD P0.2.2 t)) k)
    have l2 := DP.2.2.2.1
    have hu : (tat P0.2.2 (inN (tgI (tD P0.2.2 t)) k)).toNat < 14 := by omega
    have le := (OS _ hu).le ok (oth ok hm hof hu).2.2.1
    split
    · exact le.2.1
    · exact le.1
  · rename_i q
    rw [if_neg q] at nm
    have l1 := fix_lt (fs := P0.1) (n := inN (tgI (tD P0.2.2 t)) k)
    have l2 := DP.1.2.1
    have := (DP.1.2.2 (fix P0.1 (inN (tgI (tD P0.2.2 t)) k)).toNat (by omega)).2.2.2.2.1
    omega
theorem d266_0 : dc 266 0 = some (.aload_n 0, 1) := by decide +kernel
theorem d266_1 : dc 266 1 = some (.iconst 0, 2) := by decide +kernel
theorem d266_2 : dc 266 2 = some (.putfield 1682, 5) := by decide +kernel
theorem d266_5 : dc 266 5 = some (.iconst 0, 6) := by decide +kernel
theorem d266_6 : dc 266 6 = some (.istore 4, 8) := by decide +kernel
theorem d266_8 : dc 266 8 = some (.iload 4, 10) := by decide +kernel
theorem d266_10 : dc 266 10 = some (.aload_n 1, 11) := by decide +kernel
theorem d266_11 : dc 266 11 = some (.dload 1424, 14) := by decide +kernel
theorem d266_14 : dc 266 14 = some (.iload_n 2, 15) := by decide +kernel
theorem d266_15 : dc 266 15 = some (.iaload, 16) := by decide +kernel
theorem d266_16 : dc 266 16 = some (.if_icmp .ge ((179 : Nat) : Int), 19) := by decide +kernel
theorem d266_19 : dc 266 19 = some (.aload_n 0, 20) := by decide +kernel
theorem d266_20 : dc 266 20 = some (.dload 1684, 23) := by decide +kernel
theorem d266_23 : dc 266 23 = some (.iload 4, 25) := by decide +kernel
theorem d266_25 : dc 266 25 = some (.aload_n 0, 26) := by decide +kernel
theorem d266_26 : dc 266 26 = some (.getfield 1682, 29) := by decide +kernel
theorem d266_29 : dc 266 29 = some (.iastore, 30) := by decide +kernel
theorem d266_30 : dc 266 30 = some (.aload_n 1, 31) := by decide +kernel
theorem d266_31 : dc 266 31 = some (.iload_n 2, 32) := by decide +kernel
theorem d266_32 : dc 266 32 = some (.iload 4, 34) := by decide +kernel
theorem d266_34 : dc 266 34 = some (.invokevirtual 251, 37) := by decide +kernel
theorem d266_37 : dc 266 37 = some (.istore 5, 39) := by decide +kernel
theorem d266_39 : dc 266 39 = some (.iload 5, 41) := by decide +kernel
theorem d266_41 : dc 266 41 = some (.ifCond .lt ((86 : Nat) : Int), 44) := by decide +kernel
theorem d266_44 : dc 266 44 = some (.iconst 0, 45) := by decide +kernel
theorem d266_45 : dc 266 45 = some (.istore 6, 47) := by decide +kernel
theorem d266_47 : dc 266 47 = some (.iload 6, 49) := by decide +kernel
theorem d266_49 : dc 266 49 = some (.aload_n 1, 50) := by decide +kernel
theorem d266_50 : dc 266 50 = some (.dload 1412, 53) := by decide +kernel
theorem d266_53 : dc 266 53 = some (.iload 5, 55) := by decide +kernel
theorem d266_55 : dc 266 55 = some (.iaload, 56) := by decide +kernel
theorem d266_56 : dc 266 56 = some (.if_icmp .ge ((83 : Nat) : Int), 59) := by decide +kernel
theorem d266_59 : dc 266 59 = some (.aload_n 0, 60) := by decide +kernel
theorem d266_60 : dc 266 60 = some (.aload_n 1, 61) := by decide +kernel
theorem d266_61 : dc 266 61 = some (.dload 1411, 64) := by decide +kernel
theorem d266_64 : dc 266 64 = some (.sipush 160, 67) := by decide +kernel
theorem d266_67 : dc 266 67 = some (.iload 5, 69) := by decide +kernel
theorem d266_69 : dc 266 69 = some (.imul, 70) := by decide +kernel
theorem d266_70 : dc 266 70 = some (.iload 6, 72) := by decide +kernel
theorem d266_72 : dc 266 72 = some (.iadd, 73) := by decide +kernel
theorem d266_73 : dc 266 73 = some (.iaload, 74) := by decide +kernel
theorem d266_74 : dc 266 74 = some (.invokevirtual 267, 77) := by decide +kernel
theorem d266_77 : dc 266 77 = some (.iinc 6 1, 80) := by decide +kernel
theorem d266_80 : dc 266 80 = some (.goto ((47 : Nat) : Int), 83) := by decide +kernel
theorem d266_83 : dc 266 83 = some (.goto ((173 : Nat) : Int), 86) := by decide +kernel
theorem d266_86 : dc 266 86 = some (.aload_n 3, 87) := by decide +kernel
theorem d266_87 : dc 266 87 = some (.aload_n 1, 88) := by decide +kernel
theorem d266_88 : dc 266 88 = some (.iload_n 2, 89) := by decide +kernel
theorem d266_89 : dc 266 89 = some (.iload 4, 91) := by decide +kernel
theorem d266_91 : dc 266 91 = some (.invokevirtual 231, 94) := by decide +kernel
theorem d266_94 : dc 266 94 = some (.aaload, 95) := by decide +kernel
theorem d266_95 : dc 266 95 = some (.astore 6, 97) := by decide +kernel
theorem d266_97 : dc 266 97 = some (.aload_n 1, 98) := by decide +kernel
theorem d266_98 : dc 266 98 = some (.dload 1421, 101) := by decide +kernel
theorem d266_101 : dc 266 101 = some (.iload_n 2, 102) := by decide +kernel
theorem d266_102 : dc 266 102 = some (.iaload, 103) := by decide +kernel
theorem d266_103 : dc 266 103 = some (.bipush 7, 105) := by decide +kernel
theorem d266_105 : dc 266 105 = some (.if_icmp .ne ((116 : Nat) : Int), 108) := by decide +kernel
theorem d266_108 : dc 266 108 = some (.aload 6, 110) := by decide +kernel
theorem d266_110 : dc 266 110 = some (.getfield 1539, 113) := by decide +kernel
theorem d266_113 : dc 266 113 = some (.goto ((121 : Nat) : Int), 116) := by decide +kernel
theorem d266_116 : dc 266 116 = some (.aload 6, 118) := by decide +kernel
theorem d266_118 : dc 266 118 = some (.getfield 1537, 121) := by decide +kernel
theorem d266_121 : dc 266 121 = some (.istore 7, 123) := by decide +kernel
theorem d266_123 : dc 266 123 = some (.iconst 0, 124) := by decide +kernel
theorem d266_124 : dc 266 124 = some (.istore 8, 126) := by decide +kernel
theorem d266_126 : dc 266 126 = some (.iload 8, 128) := by decide +kernel
theorem d266_128 : dc 266 128 = some (.iload 7, 130) := by decide +kernel
theorem d266_130 : dc 266 130 = some (.if_icmp .ge ((173 : Nat) : Int), 133) := by decide +kernel
theorem d266_133 : dc 266 133 = some (.aload_n 0, 134) := by decide +kernel
theorem d266_134 : dc 266 134 = some (.aload_n 1, 135) := by decide +kernel
theorem d266_135 : dc 266 135 = some (.dload 1421, 138) := by decide +kernel
theorem d266_138 : dc 266 138 = some (.iload_n 2, 139) := by decide +kernel
theorem d266_139 : dc 266 139 = some (.iaload, 140) := by decide +kernel
theorem d266_140 : dc 266 140 = some (.bipush 7, 142) := by decide +kernel
theorem d266_142 : dc 266 142 = some (.if_icmp .ne ((156 : Nat) : Int), 145) := by decide +kernel
theorem d266_145 : dc 266 145 = some (.aload 6, 147) := by decide +kernel
theorem d266_147 : dc 266 147 = some (.dload 1538, 150) := by decide +kernel
theorem d266_150 : dc 266 150 = some (.iload 8, 152) := by decide +kernel
theorem d266_152 : dc 266 152 = some (.iaload, 153) := by decide +kernel
theorem d266_153 : dc 266 153 = some (.goto ((164 : Nat) : Int), 156) := by decide +kernel
theorem d266_156 : dc 266 156 = some (.aload 6, 158) := by decide +kernel
theorem d266_158 : dc 266 158 = some (.dload 1536, 161) := by decide +kernel
theorem d266_161 : dc 266 161 = some (.iload 8, 163) := by decide +kernel
theorem d266_163 : dc 266 163 = some (.iaload, 164) := by decide +kernel
theorem d266_164 : dc 266 164 = some (.invokevirtual 267, 167) := by decide +kernel
theorem d266_167 : dc 266 167 = some (.iinc 8 1, 170) := by decide +kernel
theorem d266_170 : dc 266 170 = some (.goto ((126 : Nat) : Int), 173) := by decide +kernel
theorem d266_173 : dc 266 173 = some (.iinc 4 1, 176) := by decide +kernel
theorem d266_176 : dc 266 176 = some (.goto ((8 : Nat) : Int), 179) := by decide +kernel
theorem d266_179 : dc 266 179 = some (.aload_n 0, 180) := by decide +kernel
theorem d266_180 : dc 266 180 = some (.dload 1684, 183) := by decide +kernel
theorem d266_183 : dc 266 183 = some (.aload_n 1, 184) := by decide +kernel
theorem d266_184 : dc 266 184 = some (.dload 1424, 187) := by decide +kernel
theorem d266_187 : dc 266 187 = some (.iload_n 2, 188) := by decide +kernel
theorem d266_188 : dc 266 188 = some (.iaload, 189) := by decide +kernel
theorem d266_189 : dc 266 189 = some (.aload_n 0, 190) := by decide +kernel
theorem d266_190 : dc 266 190 = some (.getfield 1682, 193) := by decide +kernel
theorem d266_193 : dc 266 193 = some (.iastore, 194) := by decide +kernel
theorem d266_194 : dc 266 194 = some (.return_, 195) := by decide +kernel
theorem k_M_gather {S : Shp} {G : Nat → Option Nat} {d : Nat} {h : Hp} {Q : Option MV → Hp → Prop} {m : Nat} {t : Nat} {of fd : Nat} {P0 : PlV} {bu : Nat → OmV} (ok : Ok S h) (h1 : 3 ≤ d) (hm : sK S m = 14) (DP : DfC S h (sT S fd m) P0) (OS : OmS S h (sT S of m) bu) (hfd : fd = 1664 ∨ fd = 1665) (hof : of = 1668 ∨ of = 1669) (ht : t < P0.2.2.length) (nom : noMis P0.1 P0.2.2 (tD P0.2.2 t))
    (kk : ∀ h', Fr S m [1681, 1682, 1684] h h' → AlR S h' m (inR P0.1 P0.2.2 bu t).flatten → BgR S h' m (fun k => ((inR P0.1 P0.2.2 bu t).take k).flatten.length) ((tgI (tD P0.2.2 t)).length + 1) → Q none h') : Cl G d 266 [vR (some m), vR (some (sT S fd m)), vI (t : Nat), vR (some (sT S of m))] h Q := by
  show Wp G d 266 0 [some (vR (some m)), some (vR (some (sT S fd m))), some (vI (t : Nat)), some (vR (some (sT S of m))), none, none, none, none, none] [] h Q
  have DP_0 := DP
  have OS_0 := OS
  have ht14 : t < 14 := by have := DP.2.2.2.1; omega
  have n6 : (tgI (tD P0.2.2 t)).length ≤ 6 := (DP.2.2.2.2 t ht).2.2.2.2.2.2.2.2.2.2.1
  refine w_aload_n d266_0 rfl ?_
  refine w_iconst d266_1 (by decide) ?_
  refine wf1682 d266_2 ok hm (by omega) (fun h2 e2 m2 => ?_)
  have f2 : Fr S m [1682] _ _ := Fr.wF ok m2 (FK.pI e2)
  have ok2 := f2.ok
  have FR2 := Fr.le (F := [1681, 1682, 1684]) f2 (by decide)
  have DP := DfC.r (f := fd) f2 hm (by rcases hfd with rfl | rfl <;> decide) DP
  have OS := OmS.r (f := of) f2 hm hof (by rcases hof with rfl | rfl <;> decide) OS
  have AL : AlR S h2 m [] := ⟨by rw [e2, FI_sFI, if_pos ⟨rfl, rfl⟩]; rfl, SgC.nil (kT1681 ok2 hm) (Nat.zero_le _) (by have := sLT ok (f := 1681) (n := 3600) hm (by decide) rfl (by decide); omega)⟩
  refine w_iconst d266_5 (by decide) ?_
  refine w_istore4 d266_6 rfl ?_
  have L8 : ∀ (m8 : Nat) (g8 : Hp) (k : Nat), (tgI (tD P0.2.2 t)).length - k = m8 → Fr S m [1681, 1682, 1684] h g8 → (k ≤ (tgI (tD P0.2.2 t)).length) → (AlR S g8 m ((inR P0.1 P0.2.2 bu t).take k).flatten) → (BgR S g8 m (fun k => ((inR P0.1 P0.2.2 bu t).take k).flatten.length) k) → (DfC S g8 (sT S fd m) P0) → (OmS S g8 (sT S of m) bu) → Wp G d 266 8 [some (vR (some m)), some (vR (some (sT S fd m))), some (vI (t : Nat)), some (vR (some (sT S of m))), some (vI (k : Nat)), none, none, none, none] [] g8 Q := by
    intro m8
    induction m8 using Nat.strongRecOn with | ind m8 IH8 => ?_
    intro g8 k hm8 FRg8 kl AL BG DP OS
    have okg8 := FRg8.ok
    have BG_g := BG
    refine w_iload d266_8 rfl ?_
    refine w_aload_n d266_10 rfl ?_
    refine w_dloadS d266_11 (okg8.kd (hdK ok hm hfd)) (fr1424 okg8 (hdK ok hm hfd)) ?_
    refine w_iload_n d266_14 rfl ?_
    refine w_ialoadV (x := ((tgI (tD P0.2.2 t)).length : Int)) d266_15 (gi1424 okg8 (hdK ok hm hfd) (by omega)) (DP.2.2.2.2 t ht).2.2.2.2.2.2.2.2.2.1 ?_
    refine w_icmpge d266_16 (fun c16 => ?_) (fun c16 => ?_)
    · have ek : k = (tgI (tD P0.2.2 t)).length := by omega
      have lk := flt_le (n := 600) (fun i hi => inR_le ok hm hof OS_0 DP_0 nom (k := i) (by rw [inR_len] at hi; exact hi)) k (by rw [inR_len]; omega)
      refine w_aload_n d266_179 rfl ?_
      refine w_dloadS d266_180 (okg8.kd hm) (fr1684 okg8 hm) ?_
      refine w_aload_n d266_183 rfl ?_
      refine w_dloadS d266_184 (okg8.kd (hdK ok hm hfd)) (fr1424 okg8 (hdK ok hm hfd)) ?_
      refine w_iload_n d266_187 rfl ?_
      refine w_ialoadV (x := ((tgI (tD P0.2.2 t)).length : Int)) d266_188 (gi1424 okg8 (hdK ok hm hfd) (by omega)) (DP.2.2.2.2 t ht).2.2.2.2.2.2.2.2.2.1 ?_
      refine w_aload_n d266_189 rfl ?_
      refine w_getI (x := ((((inR P0.1 P0.2.2 bu t).take k).flatten.length : Nat) : Int)) d266_190 (okg8.kd hm) AL.1 ?_
      refine wa1684 d266_193 okg8 hm (by omega) (by omega) (fun h193 e193 m193 => ?_)
      have f193 : Fr S m [1684] _ _ := Fr.wB okg8 hm m193 (fun ζ e => ⟨1684, by decide, by decide, e ▸ U_refl⟩)
      have ok193 := f193.ok
      have FR193 := Fr.tr (F := [1681, 1682, 1684]) FRg8 f193 (by decide) (by decide)
      have DP := DfC.r (f := fd) f193 hm (by rcases hfd with rfl | rfl <;> decide) DP
      have OS := OmS.r (f := of) f193 hm hof (by rcases hof with rfl | rfl <;> decide) OS
      have AL := AL.r f193 hm
      refine w_return d266_194 ?_
      have BG := BG.w (h' := h193) (by rw [e193, ek]; rfl)
      rw [ek] at BG
      rw [ek, List.take_of_length_le (by rw [inR_len]; exact Nat.le_refl _)] at AL
      exact kk h193 FR193 AL BG
    · have hk : k < (tgI (tD P0.2.2 t)).length := by omega
      have nm := nom.at hk
      have ia := inpR_at (pu := fun u => oV (bu u)) nom hk
      have ile := inR_le ok hm hof OS_0 DP_0 nom hk
      have lk := flt_le (n := 600) (fun i hi => inR_le ok hm hof OS_0 DP_0 nom (k := i) (by rw [inR_len] at hi; exact hi)) k (by rw [inR_len]; omega)
      have fs1 := flt_succ (ins := (inR P0.1 P0.2.2 bu t)) (k := k) (by rw [inR_len]; omega)
      refine w_aload_n d266_19 rfl ?_
      refine w_dloadS d266_20 (okg8.kd hm) (fr1684 okg8 hm) ?_
      refine w_iload d266_23 rfl ?_
      refine w_aload_n d266_25 rfl ?_
      refine w_getI (x := ((((inR P0.1 P0.2.2 bu t).take k).flatten.length : Nat) : Int)) d266_26 (okg8.kd hm) AL.1 ?_
      refine wa1684 d266_29 okg8 hm (by omega) (by omega) (fun h29 e29 m29 => ?_)
      have e29 : h29 = sAI g8 (sT S 1684 m) k ((((inR P0.1 P0.2.2 bu t).take k).flatten.length : Nat) : Int) := e29
      have f29 : Fr S m [1684] _ _ := Fr.wB okg8 hm m29 (fun ζ e => ⟨1684, by decide, by decide, e ▸ U_refl⟩)
      have ok29 := f29.ok
      have FR29 := Fr.tr (F := [1681, 1682, 1684]) FRg8 f29 (by decide) (by decide)
      have DP := DfC.r (f := fd) f29 hm (by rcases hfd with rfl | rfl <;> decide) DP
      have OS := OmS.r (f := of) f29 hm hof (by rcases hof with rfl | rfl <;> decide) OS
      have AL := AL.r f29 hm
      have BG := BG_g.w e29
      refine w_aload_n d266_30 rfl ?_
      refine w_iload_n d266_31 rfl ?_
      refine w_iload d266_32 rfl ?_
      refine w_callv3 d266_34 (by omega) rfl (ok29.kd (hdK ok hm hfd)) (by simp) (Nat.le_of_ble_eq_true rfl) ?_
      refine k_D_fileAt ok29 (by omega) (hdK ok hm hfd) DP.1 DP.2.2 ht hk ?_
      refine w_istore5 d266_37 rfl ?_
      refine w_iload d266_39 rfl ?_
      refine w_iflt d266_41 (fun c41 => ?_) (fun c41 => ?_)
      · have q : inB (tgI (tD P0.2.2 t)) k = true := by
          by_cases z : inB (tgI (tD P0.2.2 t)) k = true
          · exact z
          · unfold fiT at c41; rw [if_neg z] at c41 nm; omega
        rw [if_pos q] at nm ia
        have tr := taT_lt (ts := P0.2.2) (n := inN (tgI (tD P0.2.2 t)) k)
        obtain ⟨u, hu⟩ : ∃ u : Nat, tat P0.2.2 (inN (tgI (tD P0.2.2 t)) k) = (u : Int) := ⟨(tat P0.2.2 (inN (tgI (tD P0.2.2 t)) k)).toNat, by omega⟩
        rw [hu] at ia tr
        rw [show ((u : Nat) : Int).toNat = u by omega] at ia
        have htl := DP.2.2.2.1
        have hu14 : u < 14 := by omega
        change (inR P0.1 P0.2.2 bu t).getD k [] = _ at ia
        refine w_aload_n d266_86 rfl ?_
        refine w_aload_n d266_87 rfl ?_
        refine w_iload_n d266_88 rfl ?_
        refine w_iload d266_89 rfl ?_
        refine w_callv3 d266_91 (by omega) rfl (ok29.kd (hdK ok hm hfd)) (by simp) (Nat.le_of_ble_eq_true rfl) ?_
        refine k_D_targetAt ok29 (by omega) (hdK ok hm hfd) DP.2.2 ht hk ?_
        rw [show taT P0.2.2 t k = tat P0.2.2 (inN (tgI (tD P0.2.2 t)) k) from if_pos q, hu]
        refine w_aaloadSN d266_94 (oth ok29 hm hof hu14).1 (oth ok29 hm hof hu14).2.1 ?_
        refine w_astore6 d266_95 rfl ?_
        refine w_aload_n d266_97 rfl ?_
        refine w_dloadS d266_98 (ok29.kd (hdK ok hm hfd)) (fr1421 ok29 (hdK ok hm hfd)) ?_
        refine w_iload_n d266_101 rfl ?_
        refine w_ialoadV (x := (rix (tgR (tD P0.2.2 t)))) d266_102 (gi1421 ok29 (hdK ok hm hfd) (by omega)) (DP.2.2.2.2 t ht).2.2.2.2.1 ?_
        refine w_bipush d266_103 (by decide) ?_
        refine w_icmpne d266_105 (fun c105 => ?_) (fun c105 => ?_)
        · have q7 : ¬ rix (tgR (tD P0.2.2 t)) = 7 := by omega
          rw [if_neg q7] at ia
          change (inR P0.1 P0.2.2 bu t).getD k [] = (bu u).1 at ia
          rw [ia] at fs1 ile
          have ole := (OS u hu14).le ok29 (oth ok hm hof hu14).2.2.1
          refine w_aload d266_116 rfl ?_
          refine w_getI (x := (((bu u).1.length : Nat) : Int)) d266_118 (ok29.kd (oth ok hm hof hu14).2.2.1) (OS u hu14).1 ?_
          refine w_istore7 d266_121 rfl ?_
          refine w_iconst d266_123 (by decide) ?_
          refine w_istore8 d266_124 rfl ?_
          have L126 : ∀ (m126 : Nat) (g126 : Hp) (i : Nat), (bu u).1.length - i = m126 → Fr S m [1681, 1682, 1684] h g126 → (i ≤ (bu u).1.length) → (AlR S g126 m (((inR P0.1 P0.2.2 bu t).take k).flatten ++ (bu u).1.take i)) → (BgR S g126 m (fun k => ((inR P0.1 P0.2.2 bu t).take k).flatten.length) (k + 1)) → (DfC S g126 (sT S fd m) P0) → (OmS S g126 (sT S of m) bu) → Wp G d 266 126 [some (vR (some m)), some (vR (some (sT S fd m))), some (vI (t : Nat)), some (vR (some (sT S of m))), some (vI (k : Nat)), some (vI (fiT P0.1 P0.2.2 t k)), some (vR (some (sE S (sT S of m) u))), some (vI ((bu u).1.length : Nat)), some (vI (i : Nat))] [] g126 Q := by
            intro m126
            induction m126 using Nat.strongRecOn with | ind m126 IH126 => ?_
            intro g126 i hm126 FRg126 il AL BG DP OS
            have okg126 := FRg126.ok
            refine w_iload d266_126 rfl ?_
            refine w_iload d266_128 rfl ?_
            refine w_icmpge d266_130 (fun c130 => ?_) (fun c130 => ?_)
            · rw [List.take_of_length_le (show (bu u).1.length ≤ i by omega), ← fs1] at AL
              refine w_iinc4 d266_173 rfl (by constructor <;> omega) ?_
              refine w_goto d266_176 ?_
              rw [show ((k : Nat) : Int) + 1 = ((k + 1 : Nat) : Int) by omega]
              refine w_less ?_ (IH8 _ (by omega) g126 (k + 1) rfl FRg126 (by omega) AL BG DP OS)
              exact ⟨Or.inr rfl, Or.inr rfl, Or.inr rfl, Or.inr rfl, Or.inr rfl, Or.inl rfl, Or.inl rfl, Or.inl rfl, Or.inl rfl, trivial⟩
            · have hi : i < (bu u).1.length := by omega
              have rb := ra1536 okg126 (oth ok hm hof hu14).2.2.1 i
              rw [(OS u hu14).2.2.2.1.at0 hi] at rb
              refine w_aload_n d266_133 rfl ?_
              refine w_aload_n d266_134 rfl ?_
              refine w_dloadS d266_135 (okg126.kd (hdK ok hm hfd)) (fr1421 okg126 (hdK ok hm hfd)) ?_
              refine w_iload_n d266_138 rfl ?_
              refine w_ialoadV (x := (rix (tgR (tD P0.2.2 t)))) d266_139 (gi1421 okg126 (hdK ok hm hfd) (by omega)) (DP.2.2.2.2 t ht).2.2.2.2.1 ?_
              refine w_bipush d266_140 (by decide) ?_
              refine w_icmpne d266_142 (fun c142 => ?_) (fun c142 => ?_)
              · refine w_aload d266_156 rfl ?_
                refine w_dloadS d266_158 (okg126.kd (oth ok hm hof hu14).2.2.1) (fr1536 okg126 (oth ok hm hof hu14).2.2.1) ?_
                refine w_iload d266_161 rfl ?_
                refine w_ialoadV (x := (((bu u).1.getD i 0 : Nat) : Int)) d266_163 (gi1536 okg126 (oth ok hm hof hu14).2.2.1 (by omega)) ((OS u hu14).2.2.2.1.at0 hi) ?_
                refine w_callv2 d266_164 (by omega) rfl (okg126.kd hm) (by simp) (Nat.le_of_ble_eq_true rfl) ?_
                refine k_M_addByte okg126 (by omega) hm AL (by rw [List.length_append, List.length_take]; omega) (by omega) (fun h164 f164 AL => ?_)
                have ok164 := f164.ok
                have FR164 := Fr.tr (F := [1681, 1682, 1684]) FRg126 f164 (by decide) (by decide)
                have BG := BG.r f164 hm
                have DP := DfC.r (f := fd) f164 hm (by rcases hfd with rfl | rfl <;> decide) DP
                have OS := OmS.r (f := of) f164 hm hof (by rcases hof with rfl | rfl <;> decide) OS
                refine w_iinc8 d266_167 rfl (by constructor <;> omega) ?_
                refine w_goto d266_170 ?_
                rw [show ((i : Nat) : Int) + 1 = ((i + 1 : Nat) : Int) by omega]
                rw [List.append_assoc, ← take_succ hi] at AL
                refine w_less ?_ (IH126 _ (by omega) h164 (i + 1) rfl FR164 (by omega) AL BG DP OS)
                exact ⟨Or.inr rfl, Or.inr rfl, Or.inr rfl, Or.inr rfl, Or.inr rfl, Or.inr rfl, Or.inr rfl, Or.inr rfl, Or.inr rfl, trivial⟩
              · omega
          refine w_less ?_ (L126 _ h29 0 rfl FR29 (Nat.zero_le _) (by rw [List.take_zero, List.append_nil]; exact AL) BG DP OS)
          exact ⟨Or.inr rfl, Or.inr rfl, Or.inr rfl, Or.inr rfl, Or.inr rfl, Or.inr rfl, Or.inr rfl, Or.inr rfl, Or.inr rfl, trivial⟩
        · have q7 : rix (tgR (tD P0.2.2 t)) = 7 := by omega
          rw [if_pos q7] at ia
          change (inR P0.1 P0.2.2 bu t).getD k [] = (bu u).2.1 at ia
          rw [ia] at fs1 ile
          have ole := (OS u hu14).le ok29 (oth ok hm hof hu14).2.2.1
          refine w_aload d266_108 rfl ?_
          refine w_getI (x := (((bu u).2.1.length : Nat) : Int)) d266_110 (ok29.kd (oth ok hm hof hu14).2.2.1) (OS u hu14).2.1 ?_
          refine w_goto d266_113 ?_
          refine w_istore7 d266_121 rfl ?_
          refine w_iconst d266_123 (by decide) ?_
          refine w_istore8 d266_124 rfl ?_
          have L126 : ∀ (m126 : Nat) (g126 : Hp) (i : Nat), (bu u).2.1.length - i = m126 → Fr S m [1681, 1682, 1684] h g126 → (i ≤ (bu u).2.1.length) → (AlR S g126 m (((inR P0.1 P0.2.2 bu t).take k).flatten ++ (bu u).2.1.take i)) → (BgR S g126 m (fun k => ((inR P0.1 P0.2.2 bu t).take k).flatten.length) (k + 1)) → (DfC S g126 (sT S fd m) P0) → (OmS S g126 (sT S of m) bu) → Wp G d 266 126 [some (vR (some m)), some (vR (some (sT S fd m))), some (vI (t : Nat)), some (vR (some (sT S of m))), some (vI (k : Nat)), some (vI (fiT P0.1 P0.2.2 t k)), some (vR (some (sE S (sT S of m) u))), some (vI ((bu u).2.1.length : Nat)), some (vI (i : Nat))] [] g126 Q := by
            intro m126
            induction m126 using Nat.strongRecOn with | ind m126 IH126 => ?_
            intro g126 i hm126 FRg126 il AL BG DP OS
            have okg126 := FRg126.ok
            refine w_iload d266_126 rfl ?_
            refine w_iload d266_128 rfl ?_
            refine w_icmpge d266_130 (fun c130 => ?_) (fun c130 => ?_)
            · rw [List.take_of_length_le (show (bu u).2.1.length ≤ i by omega), ← fs1] at AL
              refine w_iinc4 d266_173 rfl (by constructor <;> omega) ?_
              refine w_goto d266_176 ?_
              rw [show ((k : Nat) : Int) + 1 = ((k + 1 : Nat) : Int) by omega]
              refine w_less ?_ (IH8 _ (by omega) g126 (k + 1) rfl FRg126 (by omega) AL BG DP OS)
              exact ⟨Or.inr rfl, Or.inr rfl, Or.inr rfl, Or.inr rfl, Or.inr rfl, Or.inl rfl, Or.inl rfl, Or.inl rfl, Or.inl rfl, trivial⟩
            · have hi : i < (bu u).2.1.length := by omega
              have rb := ra1538 okg126 (oth ok hm hof hu14).2.2.1 i
              rw [(OS u hu14).2.2.2.2.1.at0 hi] at rb
              refine w_aload_n d266_133 rfl ?_
              refine w_aload_n d266_134 rfl ?_
              refine w_dloadS d266_135 (okg126.kd (hdK ok hm hfd)) (fr1421 okg126 (hdK ok hm hfd)) ?_
              refine w_iload_n d266_138 rfl ?_
              refine w_ialoadV (x := (rix (tgR (tD P0.2.2 t)))) d266_139 (gi1421 okg126 (hdK ok hm hfd) (by omega)) (DP.2.2.2.2 t ht).2.2.2.2.1 ?_
              refine w_bipush d266_140 (by decide) ?_
              refine w_icmpne d266_142 (fun c142 => ?_) (fun c142 => ?_)
              · omega
              · refine w_aload d266_145 rfl ?_
                refine w_dloadS d266_147 (okg126.kd (oth ok hm hof hu14).2.2.1) (fr1538 okg126 (oth ok hm hof hu14).2.2.1) ?_
                refine w_iload d266_150 rfl ?_
                refine w_ialoadV (x := (((bu u).2.1.getD i 0 : Nat) : Int)) d266_152 (gi1538 okg126 (oth ok hm hof hu14).2.2.1 (by omega)) ((OS u hu14).2.2.2.2.1.at0 hi) ?_
                refine w_goto d266_153 ?_
                refine w_callv2 d266_164 (by omega) rfl (okg126.kd hm) (by simp) (Nat.le_of_ble_eq_true rfl) ?_
                refine k_M_addByte okg126 (by omega) hm AL (by rw [List.length_append, List.length_take]; omega) (by omega) (fun h164 f164 AL => ?_)
                have ok164 := f164.ok
                have FR164 := Fr.tr (F := [1681, 1682, 1684]) FRg126 f164 (by decide) (by decide)
                have BG := BG.r f164 hm
                have DP := DfC.r (f := fd) f164 hm (by rcases hfd with rfl | rfl <;> decide) DP
                have OS := OmS.r (f := of) f164 hm hof (by rcases hof with rfl | rfl <;> decide) OS
                refine w_iinc8 d266_167 rfl (by constructor <;> omega) ?_
                refine w_goto d266_170 ?_
                rw [show ((i : Nat) : Int) + 1 = ((i + 1 : Nat) : Int) by omega]
                rw [List.append_assoc, ← take_succ hi] at AL
                refine w_less ?_ (IH126 _ (by omega) h164 (i + 1) rfl FR164 (by omega) AL BG DP OS)
                exact ⟨Or.inr rfl, Or.inr rfl, Or.inr rfl, Or.inr rfl, Or.inr rfl, Or.inr rfl, Or.inr rfl, Or.inr rfl, Or.inr rfl, trivial⟩
          refine w_less ?_ (L126 _ h29 0 rfl FR29 (Nat.zero_le _) (by rw [List.take_zero, List.append_nil]; exact AL) BG DP OS)
          exact ⟨Or.inr rfl, Or.inr rfl, Or.inr rfl, Or.inr rfl, Or.inr rfl, Or.inr rfl, Or.inr rfl, Or.inr rfl, Or.inr rfl, trivial⟩
      · have q : ¬ inB (tgI (tD P0.2.2 t)) k = true := fun z => by unfold fiT at c41; rw [if_pos z] at c41; omega
        have ef : fiT P0.1 P0.2.2 t k = fix P0.1 (inN (tgI (tD P0.2.2 t)) k) := if_neg q
        have l1 := fix_lt (fs := P0.1) (n := inN (tgI (tD P0.2.2 t)) k)
        obtain ⟨u, hu⟩ : ∃ u : Nat, fix P0.1 (inN (tgI (tD P0.2.2 t)) k) = (u : Int) := ⟨(fix P0.1 (inN (tgI (tD P0.2.2 t)) k)).toNat, by omega⟩
        have hul : u < P0.1.length := by omega
        rw [if_neg q, hu] at ia
        rw [show ((u : Nat) : Int).toNat = u by omega] at ia
        change (inR P0.1 P0.2.2 bu t).getD k [] = _ at ia
        rw [ia] at fs1 ile
        rw [ef, hu]
        have hfl := DP.1.2.1
        refine w_iconst d266_44 (by decide) ?_
        refine w_istore6 d266_45 rfl ?_
        have L47 : ∀ (m47 : Nat) (g47 : Hp) (i : Nat), (fB P0.1 u).length - i = m47 → Fr S m [1681, 1682, 1684] h g47 → (i ≤ (fB P0.1 u).length) → (AlR S g47 m (((inR P0.1 P0.2.2 bu t).take k).flatten ++ (fB P0.1 u).take i)) → (BgR S g47 m (fun k => ((inR P0.1 P0.2.2 bu t).take k).flatten.length) (k + 1)) → (DfC S g47 (sT S fd m) P0) → (OmS S g47 (sT S of m) bu) → Wp G d 266 47 [some (vR (some m)), some (vR (some (sT S fd m))), some (vI (t : Nat)), some (vR (some (sT S of m))), some (vI (k : Nat)), some (vI (u : Nat)), some (vI (i : Nat)), none, none] [] g47 Q := by
          intro m47
          induction m47 using Nat.strongRecOn with | ind m47 IH47 => ?_
          intro g47 i hm47 FRg47 il AL BG DP OS
          have okg47 := FRg47.ok
          refine w_iload d266_47 rfl ?_
          refine w_aload_n d266_49 rfl ?_
          refine w_dloadS d266_50 (okg47.kd (hdK ok hm hfd)) (fr1412 okg47 (hdK ok hm hfd)) ?_
          refine w_iload d266_53 rfl ?_
          refine w_ialoadV (x := ((fB P0.1 u).length : Int)) d266_55 (gi1412 okg47 (hdK ok hm hfd) (by omega)) (DP.1.2.2 u hul).2.2.2.1 ?_
          refine w_icmpge d266_56 (fun c56 => ?_) (fun c56 => ?_)
          · rw [List.take_of_length_le (show (fB P0.1 u).length ≤ i by omega), ← fs1] at AL
            refine w_goto d266_83 ?_
            refine w_iinc4 d266_173 rfl (by constructor <;> omega) ?_
            refine w_goto d266_176 ?_
            rw [show ((k : Nat) : Int) + 1 = ((k + 1 : Nat) : Int) by omega]
            refine w_less ?_ (IH8 _ (by omega) g47 (k + 1) rfl FRg47 (by omega) AL BG DP OS)
            exact ⟨Or.inr rfl, Or.inr rfl, Or.inr rfl, Or.inr rfl, Or.inr rfl, Or.inl rfl, Or.inl rfl, Or.inl rfl, Or.inl rfl, trivial⟩
          · have hi : i < (fB P0.1 u).length := by omega
            have bg := (DP.1.2.2 u hul).2.2.2.2.2
            have rb := ra1411 okg47 (hdK okg47 hm hfd) (160 * u + i)
            rw [bg.2.2.2 i hi] at rb
            refine w_aload_n d266_59 rfl ?_
            refine w_aload_n d266_60 rfl ?_
            refine w_dloadS d266_61 (okg47.kd (hdK ok hm hfd)) (fr1411 okg47 (hdK ok hm hfd)) ?_
            refine w_sipush d266_64 (by decide) ?_
            refine w_iload d266_67 rfl ?_
            refine w_imul d266_69 (by constructor <;> omega) ?_
            rw [show (160 : Int) * ((u : Nat) : Int) = ((160 * u : Nat) : Int) by omega]
            refine w_iload d266_70 rfl ?_
            refine w_iadd d266_72 (by constructor <;> omega) ?_
            refine w_ialoadV (x := (((fB P0.1 u).getD i 0 : Nat) : Int)) d266_73 (bg.g okg47 hi) (bg.at hi) ?_
            refine w_callv2 d266_74 (by omega) rfl (okg47.kd hm) (by simp) (Nat.le_of_ble_eq_true rfl) ?_
            refine k_M_addByte okg47 (by omega) hm AL (by rw [List.length_append, List.length_take]; omega) (by omega) (fun h74 f74 AL => ?_)
            have ok74 := f74.ok
            have FR74 := Fr.tr (F := [1681, 1682, 1684]) FRg47 f74 (by decide) (by decide)
            have BG := BG.r f74 hm
            have DP := DfC.r (f := fd) f74 hm (by rcases hfd with rfl | rfl <;> decide) DP
            have OS := OmS.r (f := of) f74 hm hof (by rcases hof with rfl | rfl <;> decide) OS
            refine w_iinc6 d266_77 rfl (by constructor <;> omega) ?_
            refine w_goto d266_80 ?_
            rw [show ((i : Nat) : Int) + 1 = ((i + 1 : Nat) : Int) by omega]
            rw [List.append_assoc, ← take_succ hi] at AL
            refine w_less ?_ (IH47 _ (by omega) h74 (i + 1) rfl FR74 (by omega) AL BG DP OS)
            exact ⟨Or.inr rfl, Or.inr rfl, Or.inr rfl, Or.inr rfl, Or.inr rfl, Or.inr rfl, Or.inr rfl, Or.inl rfl, Or.inl rfl, trivial⟩
        refine w_less ?_ (L47 _ h29 0 rfl FR29 (Nat.zero_le _) (by rw [List.take_zero, List.append_nil]; exact AL) BG DP OS)
        exact ⟨Or.inr rfl, Or.inr rfl, Or.inr rfl, Or.inr rfl, Or.inr rfl, Or.inr rfl, Or.inr rfl, Or.inl rfl, Or.inl rfl, trivial⟩
  refine w_less ?_ (L8 _ h2 0 rfl FR2 (Nat.zero_le _) AL (fun i hi => absurd hi (Nat.not_lt_zero _)) DP OS)
  exact ⟨Or.inr rfl, Or.inr rfl, Or.inr rfl, Or.inr rfl, Or.inr rfl, Or.inl rfl, Or.inl rfl, Or.inl rfl, Or.inl rfl, trivial⟩
