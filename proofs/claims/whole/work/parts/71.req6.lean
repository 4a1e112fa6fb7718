/-! requests: parts by their forms, verbs -/
theorem w_tsw {G : Nat → Option Nat} {d k pc pc' : Nat} {ls : List (Option MV)} {st : List MV} {h : Hp} {Q : Option MV → Hp → Prop} {dd lo hi x : Int} {offs : Array Int} (t : Nat) (hd : dc k pc = some (.tableswitch dd lo hi offs, pc')) (ht : (if x < lo ∨ hi < x then dd else offs[(x - lo).toNat]?.getD (-1)) = (t : Int)) (kk : Wp G d k t ls st h Q) : Wp G d k pc ls (vI x :: st) h Q :=
  w_step (z := (t, ls, st, h)) hd (by
    show grd _ _ = _
    rw [ht, grd_yes (by omega)]
    rfl) rfl rfl kk
/-- is a part of the form c right at a? where does it end? -/
def pOk (l : List Nat) (c a : Nat) : Bool :=
  if c = 97 then pWord l 8 48 a else if c = 112 then pWord l 12 46 a else if c = 110 then pNum l a else if c = 116 then (if pSign l 60 a = true then pSign l 62 (txE l a) else false) else if c = 100 then (pDef l a).1 else if c = 118 then (pVer l 4096 a).1 else if c = 114 then (pTr l 4096 1 a).1 else pSign l c a
def pEnd (l : List Nat) (c a : Nat) : Nat :=
  if c = 97 then wordE l a 8 48 else if c = 112 then wordE l a 12 46 else if c = 110 then numE l a else if c = 116 then (if pSign l 60 a = true then (if pSign l 62 (txE l a) = true then txE l a + 1 else txE l a) else a) else if c = 100 then (pDef l a).2.1 else if c = 118 then (pVer l 4096 a).2.1 else if c = 114 then (pTr l 4096 1 a).2 else if pSign l c a = true then a + 1 else a
def pWs (l : List Nat) (c a : Nat) (ws : List (List Nat)) : List (List Nat) :=
  if c = 97 then (if pWord l 8 48 a = true then wPush ws (sl l a (wordE l a 8 48)) else ws) else if c = 112 then (if pWord l 12 46 a = true then wPush ws (sl l a (wordE l a 12 46)) else ws) else ws
def pNs (l : List Nat) (c a : Nat) (ns : List Nat) : List Nat :=
  if c = 110 then (if pNum l a = true then ns ++ [numV (sl l a (numE l a))] else ns) else if c = 118 then ns ++ (pVer l 4096 a).2.2 else ns
/-- what a part leaves besides words and numbers -/
def pMore (S : Shp) (h : Hp) (q : Nat) (l : List Nat) (c a : Nat) : Prop := (c = 116 → FI h 522 q = ((a + 1 : Nat) : Int) ∧ FI h 523 q = (txE l a : Nat)) ∧ (c = 100 → DefC S h (sT S 524 q) (pDef l a).2.2 (sl l a (pDef l a).2.1))
theorem tswF : ∀ i : Fin 22, i.val ∈ [0, 3, 13, 15, 17, 19, 21] ∨ (#[((104 : Nat) : Int), ((139 : Nat) : Int), ((139 : Nat) : Int), ((124 : Nat) : Int), ((139 : Nat) : Int), ((139 : Nat) : Int), ((139 : Nat) : Int), ((139 : Nat) : Int), ((139 : Nat) : Int), ((139 : Nat) : Int), ((139 : Nat) : Int), ((139 : Nat) : Int), ((139 : Nat) : Int), ((114 : Nat) : Int), ((139 : Nat) : Int), ((109 : Nat) : Int), ((139 : Nat) : Int), ((134 : Nat) : Int), ((139 : Nat) : Int), ((119 : Nat) : Int), ((139 : Nat) : Int), ((129 : Nat) : Int)] : Array Int)[i.val]?.getD (-1) = 139 := by decide
theorem tswD (c : Nat) (hc : c < 256) (s97 : c ≠ 97) (s112 : c ≠ 112) (s110 : c ≠ 110) (s116 : c ≠ 116) (s100 : c ≠ 100) (s118 : c ≠ 118) (s114 : c ≠ 114) : (if ((c : Nat) : Int) < 97 ∨ (118 : Int) < ((c : Nat) : Int) then ((139 : Nat) : Int) else (#[((104 : Nat) : Int), ((139 : Nat) : Int), ((139 : Nat) : Int), ((124 : Nat) : Int), ((139 : Nat) : Int), ((139 : Nat) : Int), ((139 : Nat) : Int), ((139 : Nat) : Int), ((139 : Nat) : Int), ((139 : Nat) : Int), ((139 : Nat) : Int), ((139 : Nat) : Int), ((139 : Nat) : Int), ((114 : Nat) : Int), ((139 : Nat) : Int), ((109 : Nat) : Int), ((139 : Nat) : Int), ((134 : Nat) : Int), ((139 : Nat) : Int), ((119 : Nat) : Int), ((139 : Nat) : Int), ((129 : Nat) : Int)] : Array Int)[(((c : Nat) : Int) - 97).toNat]?.getD (-1)) = ((139 : Nat) : Int) := by
  split
  · rfl
  · rename_i q
    have e : (((c : Nat) : Int) - 97).toNat = c - 97 := by omega
    rw [e]
    refine (tswF ⟨c - 97, by omega⟩).resolve_left (fun z => ?_)
    simp at z
    omega
theorem d29_0 : dc 29 0 = some (.iload_n 1, 1) := by decide +kernel
theorem d29_1 : dc 29 1 = some (.tableswitch ((139 : Nat) : Int) 97 118 #[((104 : Nat) : Int), ((139 : Nat) : Int), ((139 : Nat) : Int), ((124 : Nat) : Int), ((139 : Nat) : Int), ((139 : Nat) : Int), ((139 : Nat) : Int), ((139 : Nat) : Int), ((139 : Nat) : Int), ((139 : Nat) : Int), ((139 : Nat) : Int), ((139 : Nat) : Int), ((139 : Nat) : Int), ((114 : Nat) : Int), ((139 : Nat) : Int), ((109 : Nat) : Int), ((139 : Nat) : Int), ((134 : Nat) : Int), ((139 : Nat) : Int), ((119 : Nat) : Int), ((139 : Nat) : Int), ((129 : Nat) : Int)], 104) := by decide +kernel
theorem d29_104 : dc 29 104 = some (.aload_n 0, 105) := by decide +kernel
theorem d29_105 : dc 29 105 = some (.invokevirtual 30, 108) := by decide +kernel
theorem d29_108 : dc 29 108 = some (.freturn, 109) := by decide +kernel
theorem d29_109 : dc 29 109 = some (.aload_n 0, 110) := by decide +kernel
theorem d29_110 : dc 29 110 = some (.invokevirtual 34, 113) := by decide +kernel
theorem d29_113 : dc 29 113 = some (.freturn, 114) := by decide +kernel
theorem d29_114 : dc 29 114 = some (.aload_n 0, 115) := by decide +kernel
theorem d29_115 : dc 29 115 = some (.invokevirtual 35, 118) := by decide +kernel
theorem d29_118 : dc 29 118 = some (.freturn, 119) := by decide +kernel
theorem d29_119 : dc 29 119 = some (.aload_n 0, 120) := by decide +kernel
theorem d29_120 : dc 29 120 = some (.invokevirtual 39, 123) := by decide +kernel
theorem d29_123 : dc 29 123 = some (.freturn, 124) := by decide +kernel
theorem d29_124 : dc 29 124 = some (.aload_n 0, 125) := by decide +kernel
theorem d29_125 : dc 29 125 = some (.invokevirtual 41, 128) := by decide +kernel
theorem d29_128 : dc 29 128 = some (.freturn, 129) := by decide +kernel
theorem d29_129 : dc 29 129 = some (.aload_n 0, 130) := by decide +kernel
theorem d29_130 : dc 29 130 = some (.invokevirtual 48, 133) := by decide +kernel
theorem d29_133 : dc 29 133 = some (.freturn, 134) := by decide +kernel
theorem d29_134 : dc 29 134 = some (.aload_n 0, 135) := by decide +kernel
theorem d29_135 : dc 29 135 = some (.invokevirtual 49, 138) := by decide +kernel
theorem d29_138 : dc 29 138 = some (.freturn, 139) := by decide +kernel
theorem d29_139 : dc 29 139 = some (.aload_n 0, 140) := by decide +kernel
theorem d29_140 : dc 29 140 = some (.iload_n 1, 141) := by decide +kernel
theorem d29_141 : dc 29 141 = some (.invokevirtual 40, 144) := by decide +kernel
theorem d29_144 : dc 29 144 = some (.freturn, 145) := by decide +kernel
theorem k_Rq_readPart {S : Shp} {G : Nat → Option Nat} {d : Nat} {h : Hp} {Q : Option MV → Hp → Prop} {q : Nat} {c : Nat}  (ok : Ok S h) (h1 : 7 ≤ d) (hq : sK S q = 5) (tg : Tg S G) {vb : Option Nat} {l : List Nat} {a : Nat} {ws : List (List Nat)} {ns : List Nat} (R : RqC S h q l a ws ns vb) (hc : c < 256) (hns : c = 100 → ns = [])
    (kk : ∀ h' v a' ws' ns', Mo S (fun x => U S q x) h h' → RqC S h' q l a' ws' ns' vb → (v = pOk l c a ∧ a' = pEnd l c a) → (c ≠ 100 → ws' = pWs l c a ws ∧ ns' = pNs l c a ns) → (v = true → pMore S h' q l c a) → Q (some (vI (b2i v))) h') : Cl G d 29 [vR (some q), vI (c : Nat)] h Q := by
  show Wp G d 29 0 [some (vR (some q)), some (vI (c : Nat))] [] h Q
  have nT : ∀ f, f < 4096 → sT S f q ≠ q := fun f hf => ok.so.pT hf
  refine w_iload_n d29_0 rfl ?_
  by_cases s97 : c = 97
  · refine w_tsw 104 d29_1 (by rw [s97]; decide) ?_
    refine w_aload_n d29_104 rfl ?_
    refine w_callv1 d29_105 (by omega) rfl (ok.kd hq) (by simp) (Nat.le_of_ble_eq_true rfl) ?_
    refine k_Rq_readName ok (by omega) hq R (fun h105 v105 a105 m105 e105 R => ?_)
    have ok105 := m105.ok
    have M105 := Mo.tr ok (Mo.refl (A := (fun x => U S q x)) ok) m105 (fun x q => q.elim ((fun x e => (e ▸ U_refl)) x) ((fun x q => q.elim ((fun x e => (e ▸ (ok.so.uT (by decide) U_refl))) x) ((fun x q => q.elim ((fun x e => (e ▸ (ok.so.uT (by decide) U_refl))) x) ((fun x e => (e ▸ (ok.so.uT (by decide) U_refl))) x)) x)) x))
    refine w_zreturn d29_108 (b2i_01 _) ?_
    subst s97
    exact kk _ v105 a105 (pWs l 97 a ws) ns M105 (by rw [e105.1, e105.2] at R; rw [e105.2]; simpa [pWs] using R) ⟨e105.1, e105.2⟩ (fun _ => ⟨rfl, by simp [pNs]⟩) (fun _ => ⟨(fun z => by cases z), (fun z => by cases z)⟩)
  by_cases s112 : c = 112
  · refine w_tsw 109 d29_1 (by rw [s112]; decide) ?_
    refine w_aload_n d29_109 rfl ?_
    refine w_callv1 d29_110 (by omega) rfl (ok.kd hq) (by simp) (Nat.le_of_ble_eq_true rfl) ?_
    refine k_Rq_readPath ok (by omega) hq R (fun h110 v110 a110 m110 e110 R => ?_)
    have ok110 := m110.ok
    have M110 := Mo.tr ok (Mo.refl (A := (fun x => U S q x)) ok) m110 (fun x q => q.elim ((fun x e => (e ▸ U_refl)) x) ((fun x q => q.elim ((fun x e => (e ▸ (ok.so.uT (by decide) U_refl))) x) ((fun x q => q.elim ((fun x e => (e ▸ (ok.so.uT (by decide) U_refl))) x) ((fun x e => (e ▸ (ok.so.uT (by decide) U_refl))) x)) x)) x))
    refine w_zreturn d29_113 (b2i_01 _) ?_
    subst s112
    exact kk _ v110 a110 (pWs l 112 a ws) ns M110 (by rw [e110.1, e110.2] at R; rw [e110.2]; simpa [pWs] using R) ⟨e110.1, e110.2⟩ (fun _ => ⟨rfl, by simp [pNs]⟩) (fun _ => ⟨(fun z => by cases z), (fun z => by cases z)⟩)
  by_cases s110 : c = 110
  · refine w_tsw 114 d29_1 (by rw [s110]; decide) ?_
    refine w_aload_n d29_114 rfl ?_
    refine w_callv1 d29_115 (by omega) rfl (ok.kd hq) (by simp) (Nat.le_of_ble_eq_true rfl) ?_
    refine k_Rq_readNumber ok (by omega) hq R (fun h115 v115 a115 m115 e115 R => ?_)
    have ok115 := m115.ok
    have M115 := Mo.tr ok (Mo.refl (A := (fun x => U S q x)) ok) m115 (fun x q => q.elim ((fun x e => (e ▸ U_refl)) x) ((fun x q => q.elim ((fun x e => (e ▸ (ok.so.uT (by decide) U_refl))) x) ((fun x q => q.elim ((fun x e => (e ▸ (ok.so.uT (by decide) U_refl))) x) ((fun x e => (e ▸ (ok.so.uT (by decide) U_refl))) x)) x)) x))
    refine w_zreturn d29_118 (b2i_01 _) ?_
    subst s110
    exact kk _ v115 a115 ws (pNs l 110 a ns) M115 (by rw [e115.1, e115.2] at R; rw [e115.2]; simpa [pNs] using R) ⟨e115.1, e115.2⟩ (fun _ => ⟨by simp [pWs], rfl⟩) (fun _ => ⟨(fun z => by cases z), (fun z => by cases z)⟩)
  by_cases s116 : c = 116
  · refine w_tsw 119 d29_1 (by rw [s116]; decide) ?_
    refine w_aload_n d29_119 rfl ?_
    refine w_callv1 d29_120 (by omega) rfl (ok.kd hq) (by simp) (Nat.le_of_ble_eq_true rfl) ?_
    refine k_Rq_readText ok (by omega) hq R (fun h120 v120 a120 m120 R e120 f120 => ?_)
    have ok120 := m120.ok
    have M120 := Mo.tr ok (Mo.refl (A := (fun x => U S q x)) ok) m120 (fun x e => (e ▸ U_refl))
    refine w_zreturn d29_123 (b2i_01 _) ?_
    subst s116
    refine kk _ v120 a120 ws ns M120 R ?_ (fun _ => ⟨by simp [pWs], by simp [pNs]⟩) (fun z => ?_)
    · cases p : pSign l 60 a with
      | false => have e := e120 p; exact ⟨by simp [pOk, p, e.1], by simp [pEnd, p, e.2]⟩
      | true =>
        have e := f120 p
        refine ⟨by simp [pOk, p, e.1], ?_⟩
        have e2 := e.2.1
        rw [e.1] at e2
        simp [pEnd, p, e2]
    · cases p : pSign l 60 a with
      | false => have e := e120 p; rw [e.1] at z; cases z
      | true => exact ⟨fun _ => ⟨(f120 p).2.2.1, (f120 p).2.2.2⟩, (fun z => by cases z)⟩
  by_cases s100 : c = 100
  · refine w_tsw 124 d29_1 (by rw [s100]; decide) ?_
    refine w_aload_n d29_124 rfl ?_
    refine w_callv1 d29_125 (by omega) rfl (ok.kd hq) (by simp) (Nat.le_of_ble_eq_true rfl) ?_
    refine k_Rq_readDefinition ok (by omega) hq tg (by rw [hns s100] at R; exact R) (fun h125 v125 a125 ws125 ns125 m125 R e125 f125 => ?_)
    have ok125 := m125.ok
    have M125 := Mo.tr ok (Mo.refl (A := (fun x => U S q x)) ok) m125 (fun x u => (U_trans U_refl u))
    refine w_zreturn d29_128 (b2i_01 _) ?_
    subst s100
    exact kk _ v125 a125 ws125 ns125 M125 R ⟨e125.1, e125.2⟩ (fun z => absurd rfl z) (fun z => ⟨(fun z => by cases z), fun _ => by rw [← e125.2]; exact f125 z⟩)
  by_cases s118 : c = 118
  · refine w_tsw 129 d29_1 (by rw [s118]; decide) ?_
    refine w_aload_n d29_129 rfl ?_
    refine w_callv1 d29_130 (by omega) rfl (ok.kd hq) (by simp) (Nat.le_of_ble_eq_true rfl) ?_
    refine k_Rq_readVersions ok (by omega) hq R (fun h130 v130 a130 ns130 m130 R e130 => ?_)
    have ok130 := m130.ok
    have M130 := Mo.tr ok (Mo.refl (A := (fun x => U S q x)) ok) m130 (fun x q => q.elim ((fun x e => (e ▸ U_refl)) x) ((fun x q => q.elim ((fun x e => (e ▸ (ok.so.uT (by decide) U_refl))) x) ((fun x q => q.elim ((fun x e => (e ▸ (ok.so.uT (by decide) U_refl))) x) ((fun x e => (e ▸ (ok.so.uT (by decide) U_refl))) x)) x)) x))
    refine w_zreturn d29_133 (b2i_01 _) ?_
    subst s118
    exact kk _ v130 a130 ws ns130 M130 R ⟨e130.1, e130.2.1⟩ (fun _ => ⟨by simp [pWs], by simp [pNs, e130.2.2]⟩) (fun _ => ⟨(fun z => by cases z), (fun z => by cases z)⟩)
  by_cases s114 : c = 114
  · refine w_tsw 134 d29_1 (by rw [s114]; decide) ?_
    refine w_aload_n d29_134 rfl ?_
    refine w_callv1 d29_135 (by omega) rfl (ok.kd hq) (by simp) (Nat.le_of_ble_eq_true rfl) ?_
    refine k_Rq_readTree ok (by omega) hq R (fun h135 v135 a135 m135 R e135 => ?_)
    have ok135 := m135.ok
    have M135 := Mo.tr ok (Mo.refl (A := (fun x => U S q x)) ok) m135 (fun x e => (e ▸ U_refl))
    refine w_zreturn d29_138 (b2i_01 _) ?_
    subst s114
    exact kk _ v135 a135 ws ns M135 R ⟨e135.1, e135.2⟩ (fun _ => ⟨by simp [pWs], by simp [pNs]⟩) (fun _ => ⟨(fun z => by cases z), (fun z => by cases z)⟩)
  refine w_tsw 139 d29_1 (tswD c (by omega) s97 s112 s110 s116 s100 s118 s114) ?_
  refine w_aload_n d29_139 rfl ?_
  refine w_iload_n d29_140 rfl ?_
  refine w_callv2 d29_141 (by omega) rfl (ok.kd hq) (by simp) (Nat.le_of_ble_eq_true rfl) ?_
  refine k_Rq_readSign ok (by omega) hq R (fun h141 v141 a141 m141 R e141 => ?_)
  have ok141 := m141.ok
  have M141 := Mo.tr ok (Mo.refl (A := (fun x => U S q x)) ok) m141 (fun x e => (e ▸ U_refl))
  refine w_zreturn d29_144 (b2i_01 _) ?_
  have e := e141
  rw [e.1] at e
  exact kk _ v141 a141 ws ns M141 R ⟨by simp [pOk, s97, s112, s110, s116, s100, s118, s114, e141.1], by simp only [pEnd, s97, s112, s110, s116, s100, s118, s114, if_false]; exact e.2⟩ (fun _ => ⟨by simp [pWs, s97, s112], by simp [pNs, s110, s118]⟩) (fun _ => ⟨fun z => absurd z s116, fun z => absurd z s100⟩)
