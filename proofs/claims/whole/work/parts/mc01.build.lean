/-! what is made: a list of objects in the order of their making, each with its kind, its length, and who holds it where -/
abbrev ObE : Type := Nat × Nat × Nat × Nat
/-- the first of a list: no one of the list holds it -/
def ronE (kd ln : Nat) : List ObE := [(kd, ln, 0, 10000)]
def shE (m : Nat) (T : List ObE) : List ObE := T.map fun e => (e.1, e.2.1, e.2.2.1 + m, e.2.2.2)
def attE (m par place : Nat) : List ObE → List ObE
  | [] => []
  | e :: r => (e.1, e.2.1, par, place) :: shE m r
/-- T is made, and held by par at place -/
def putE (L : List ObE) (par place : Nat) (T : List ObE) : List ObE := L ++ attE L.length par place T
def sltE (L : List ObE) : Nat := (L.map fun e => if e.1 < 40 then mN (e.1 - 1) else e.2.1).sum
def freE (L : List ObE) (par place : Nat) : Bool := L.all fun e => !(e.2.2.1 == par && e.2.2.2 == place)
def lkE (h : Hp) (p par place k : Nat) : Prop := if place < 4096 then FR h place (p + par) = some (p + k) else AR h (p + par) (place - 4096) = some (p + k)
def wlE (h : Hp) (a place : Nat) (v : Option Nat) : Hp := if place < 4096 then sFR h place a v else sAR h a (place - 4096) v
def iF (kd f : Nat) : Int := if kFld f = kd ∧ (f = 131 ∨ f = 2 ∨ f = 515 ∨ f = 782 ∨ f = 1737) then -1 else 0
def iA (place j : Nat) : Int := if (place = 775 ∨ place = 1713) ∧ j < 2 then -1 else 0
/-- the object at place k of the list -/
def EnE (h : Hp) (p k : Nat) (e : ObE) : Prop := KD h (p + k) = e.1 ∧ LN h (p + k) = e.2.1 ∧ (e.2.2.2 ≠ 1288 → lkE h p e.2.2.1 e.2.2.2 k) ∧ (∀ f, FI h f (p + k) = iF e.1 f ∧ FL h f (p + k) = 0) ∧ ∀ j, AI h (p + k) j = iA e.2.2.2 j ∧ AL h (p + k) j = 0
/-- the list L is made from p on; the first has the numbers rI, rA, and holds zv at the places zs -/
def Bl (kd ln p s0 : Nat) (L : List ObE) (zs : List Nat) (zv : Nat → Option Nat) (rI rA : Nat → Int) (h : Hp) : Prop :=
  NX h = p + L.length ∧ SL h = s0 + sltE L ∧ L[0]? = some (kd, ln, 0, 10000) ∧ (KD h p = kd ∧ LN h p = ln ∧ (∀ f, FI h f p = rI f ∧ FL h f p = 0) ∧ ∀ j, AI h p j = rA j ∧ AL h p j = 0) ∧ (∀ k e, 0 < k → L[k]? = some e → EnE h p k e ∧ e.2.2.1 < k) ∧ ∀ f ∈ zs, FR h f p = zv f
/-- all that was there but A is as it was -/
def SmA (h h' : Hp) (x : Nat) : Prop := KD h' x = KD h x ∧ LN h' x = LN h x ∧ (∀ f, FI h' f x = FI h f x ∧ FL h' f x = FL h f x ∧ FR h' f x = FR h f x) ∧ AI h' x = AI h x ∧ AL h' x = AL h x ∧ AR h' x = AR h x
def Fx (A : Nat → Prop) (h h' : Hp) : Prop := (NX h ≤ NX h' ∧ (Cln h → Cln h')) ∧ ∀ x, x < NX h → ¬ A x → SmA h h' x
theorem SmA.refl {h : Hp} {x : Nat} : SmA h h x := ⟨rfl, rfl, fun _ => ⟨rfl, rfl, rfl⟩, rfl, rfl, rfl⟩
theorem SmA.tr {h h1 h2 : Hp} {x : Nat} (a : SmA h h1 x) (b : SmA h1 h2 x) : SmA h h2 x :=
  ⟨b.1.trans a.1, b.2.1.trans a.2.1, fun f => ⟨(b.2.2.1 f).1.trans (a.2.2.1 f).1, (b.2.2.1 f).2.1.trans (a.2.2.1 f).2.1, (b.2.2.1 f).2.2.trans (a.2.2.1 f).2.2⟩, b.2.2.2.1.trans a.2.2.2.1, b.2.2.2.2.1.trans a.2.2.2.2.1, b.2.2.2.2.2.trans a.2.2.2.2.2⟩
theorem Fx.refl {A : Nat → Prop} {h : Hp} : Fx A h h := ⟨⟨Nat.le_refl _, id⟩, fun _ _ _ => SmA.refl⟩
theorem Fx.tr {A : Nat → Prop} {h h1 h2 : Hp} (a : Fx A h h1) (b : Fx A h1 h2) : Fx A h h2 := ⟨⟨Nat.le_trans a.1.1 b.1.1, fun c => b.1.2 (a.1.2 c)⟩, fun x hx hA => (a.2 x hx hA).tr (b.2 x (Nat.lt_of_lt_of_le hx a.1.1) hA)⟩
theorem Fx.mono {A B : Nat → Prop} {h h' : Hp} (a : Fx A h h') (hAB : ∀ x, x < NX h → A x → B x) : Fx B h h' := ⟨a.1, fun x hx hB => a.2 x hx (fun y => hB (hAB x hx y))⟩
theorem Fx.nO (h : Hp) (c : Nat) : Fx (fun _ => False) h (nwO h c) := ⟨⟨Nat.le_succ _, fun c x hx => by
  have hx : NX h + 1 ≤ x := hx
  have n : ¬ x = NX h := by omega
  obtain ⟨c1, c2, c3, c4⟩ := c x (by omega)
  exact ⟨(if_neg n).trans c1, (if_neg n).trans c2, fun f => ⟨(if_neg n).trans (c3 f).1, (if_neg n).trans (c3 f).2.1, (if_neg n).trans (c3 f).2.2⟩, fun j => ⟨(if_neg n).trans (c4 j).1, (if_neg n).trans (c4 j).2.1, (if_neg n).trans (c4 j).2.2⟩⟩⟩, fun x hx _ => by
  have n : ¬ x = NX h := by omega
  exact ⟨if_neg n, if_neg n, fun f => ⟨if_neg n, if_neg n, if_neg n⟩, funext fun j => if_neg n, funext fun j => if_neg n, funext fun j => if_neg n⟩⟩
theorem Fx.nA (h : Hp) (k n : Nat) : Fx (fun _ => False) h (nwA h k n) := ⟨⟨Nat.le_succ _, fun c x hx => by
  have hx : NX h + 1 ≤ x := hx
  have n : ¬ x = NX h := by omega
  obtain ⟨c1, c2, c3, c4⟩ := c x (by omega)
  exact ⟨(if_neg n).trans c1, (if_neg n).trans c2, fun f => ⟨(if_neg n).trans (c3 f).1, (if_neg n).trans (c3 f).2.1, (if_neg n).trans (c3 f).2.2⟩, fun j => ⟨(if_neg n).trans (c4 j).1, (if_neg n).trans (c4 j).2.1, (if_neg n).trans (c4 j).2.2⟩⟩⟩, fun x hx _ => by
  have n : ¬ x = NX h := by omega
  exact ⟨if_neg n, if_neg n, fun f => ⟨if_neg n, if_neg n, if_neg n⟩, funext fun j => if_neg n, funext fun j => if_neg n, funext fun j => if_neg n⟩⟩
theorem Fx.nC (h : Hp) (b k : Nat) : Fx (fun _ => False) h (nwC h b k) := ⟨⟨Nat.le_succ _, fun c x hx => by
  have hx : NX h + 1 ≤ x := hx
  have n : ¬ x = NX h := by omega
  obtain ⟨c1, c2, c3, c4⟩ := c x (by omega)
  exact ⟨(if_neg n).trans c1, (if_neg n).trans c2, fun f => ⟨(if_neg n).trans (c3 f).1, (if_neg n).trans (c3 f).2.1, (if_neg n).trans (c3 f).2.2⟩, fun j => ⟨(if_neg n).trans (c4 j).1, (if_neg n).trans (c4 j).2.1, (if_neg n).trans (c4 j).2.2⟩⟩⟩, fun x hx _ => by
  have n : ¬ x = NX h := by omega
  exact ⟨if_neg n, if_neg n, fun f => ⟨if_neg n, if_neg n, if_neg n⟩, funext fun j => if_neg n, funext fun j => if_neg n, funext fun j => if_neg n⟩⟩
theorem Fx.nM (h : Hp) (n k : Nat) : Fx (fun _ => False) h (nwM h n k) := ⟨⟨by show NX h ≤ NX h + 1 + n; omega, fun c x hx => by
  have hx : NX h + 1 + n ≤ x := hx
  have n0 : ¬ x = NX h := by omega
  have n1 : ¬ (NX h ≤ x ∧ x ≤ NX h + n) := by omega
  obtain ⟨c1, c2, c3, c4⟩ := c x (by omega)
  exact ⟨((if_neg n0).trans (if_neg n1)).trans c1, ((if_neg n0).trans (if_neg n1)).trans c2, fun f => ⟨(if_neg n1).trans (c3 f).1, (if_neg n1).trans (c3 f).2.1, (if_neg n1).trans (c3 f).2.2⟩, fun j => ⟨(if_neg n1).trans (c4 j).1, (if_neg n1).trans (c4 j).2.1, ((if_neg n0).trans (if_neg n1)).trans (c4 j).2.2⟩⟩⟩, fun x hx _ => by
  have n0 : ¬ x = NX h := by omega
  have n1 : ¬ (NX h ≤ x ∧ x ≤ NX h + n) := by omega
  exact ⟨(if_neg n0).trans (if_neg n1), (if_neg n0).trans (if_neg n1), fun f => ⟨if_neg n1, if_neg n1, if_neg n1⟩, funext fun j => if_neg n1, funext fun j => if_neg n1, funext fun j => (if_neg n0).trans (if_neg n1)⟩⟩
theorem wlE_F {h : Hp} {f a : Nat} {v : Option Nat} (hf : f < 4096) : wlE h a f v = sFR h f a v := if_pos hf
theorem wlE_A {h : Hp} {i a : Nat} {v : Option Nat} : wlE h a (4096 + i) v = sAR h a i v := by
  unfold wlE
  rw [if_neg (by omega), show 4096 + i - 4096 = i by omega]
/-- what a link's writing leaves -/
theorem wlE_kp (h : Hp) (a place : Nat) (v : Option Nat) : KD (wlE h a place v) = KD h ∧ LN (wlE h a place v) = LN h ∧ FI (wlE h a place v) = FI h ∧ FL (wlE h a place v) = FL h ∧ AI (wlE h a place v) = AI h ∧ AL (wlE h a place v) = AL h ∧ NX (wlE h a place v) = NX h ∧ SL (wlE h a place v) = SL h ∧ (∀ f x, (f ≠ place ∨ x ≠ a) → FR (wlE h a place v) f x = FR h f x) ∧ (∀ x j, (4096 + j ≠ place ∨ x ≠ a) → AR (wlE h a place v) x j = AR h x j) := by
  unfold wlE
  split
  · refine ⟨rfl, rfl, rfl, rfl, rfl, rfl, rfl, rfl, fun f x q => ?_, fun x j _ => rfl⟩
    rw [FR_sFR, if_neg (fun z => q.elim (fun y => y z.1) (fun y => y z.2))]
  · refine ⟨rfl, rfl, rfl, rfl, rfl, rfl, rfl, rfl, fun f x _ => rfl, fun x j q => ?_⟩
    rw [AR_sAR, if_neg (fun z => q.elim (fun y => y (by omega)) (fun y => y z.1))]
theorem wlE_lk (h : Hp) (p par place k : Nat) : lkE (wlE h (p + par) place (some (p + k))) p par place k := by
  unfold lkE wlE
  by_cases q : place < 4096
  · rw [if_pos q, if_pos q, FR_sFR, if_pos ⟨rfl, rfl⟩]
  · rw [if_neg q, if_neg q, AR_sAR, if_pos ⟨rfl, rfl⟩]
theorem Fx.wl {h : Hp} {a place : Nat} {v : Option Nat} (ha : a < NX h) : Fx (fun x => x = a) h (wlE h a place v) := by
  obtain ⟨e1, e2, e3, e4, e5, e6, e7, e8, e9, e10⟩ := wlE_kp h a place v
  refine ⟨⟨by rw [e7]; exact Nat.le_refl _, fun c x hx => by
    rw [e7] at hx
    obtain ⟨c1, c2, c3, c4⟩ := c x hx
    have n : x ≠ a := by omega
    exact ⟨by rw [e1]; exact c1, by rw [e2]; exact c2, fun f => ⟨by rw [e3]; exact (c3 f).1, by rw [e4]; exact (c3 f).2.1, (e9 f x (Or.inr n)).trans (c3 f).2.2⟩, fun j => ⟨by rw [e5]; exact (c4 j).1, by rw [e6]; exact (c4 j).2.1, (e10 x j (Or.inr n)).trans (c4 j).2.2⟩⟩⟩, fun x _ hA => ⟨by rw [e1], by rw [e2], fun f => ⟨by rw [e3], by rw [e4], e9 f x (Or.inr hA)⟩, by rw [e5], by rw [e6], funext fun j => e10 x j (Or.inr hA)⟩⟩
theorem shE_get {m k : Nat} {T : List ObE} {e : ObE} (h : (shE m T)[k]? = some e) : ∃ e0, T[k]? = some e0 ∧ e = (e0.1, e0.2.1, e0.2.2.1 + m, e0.2.2.2) := by
  unfold shE at h
  rw [List.getElem?_map] at h
  cases q : T[k]? with
  | none => rw [q] at h; cases h
  | some e0 => rw [q] at h; cases h; exact ⟨e0, rfl, rfl⟩
theorem attE_len {m par place : Nat} : ∀ {T : List ObE}, (attE m par place T).length = T.length
  | [] => rfl
  | e :: r => by show (shE m r).length + 1 = r.length + 1; unfold shE; rw [List.length_map]
theorem sltE_att {m par place : Nat} : ∀ {T : List ObE}, sltE (attE m par place T) = sltE T
  | [] => rfl
  | e :: r => by
    unfold sltE attE shE
    rw [List.map_cons, List.map_cons, List.map_map]
    rfl
theorem sltE_app {L T : List ObE} : sltE (L ++ T) = sltE L + sltE T := by
  unfold sltE
  rw [List.map_append, List.sum_append]
theorem freE_no {L : List ObE} {par place k : Nat} {e : ObE} (h : freE L par place = true) (he : L[k]? = some e) : ¬ (e.2.2.1 = par ∧ e.2.2.2 = place) := by
  have g := List.all_eq_true.mp h e (List.mem_of_getElem? he)
  rintro ⟨a, b⟩
  rw [a, b] at g
  simp at g
theorem En_fx {h h' : Hp} {p k : Nat} {e : ObE} (a : SmA h h' (p + k)) (b : SmA h h' (p + e.2.2.1)) (E : EnE h p k e) : EnE h' p k e := by
  obtain ⟨e1, e2, e3, e4, e5⟩ := E
  refine ⟨a.1.trans e1, a.2.1.trans e2, fun q => ?_, fun f => ⟨(a.2.2.1 f).1.trans (e4 f).1, (a.2.2.1 f).2.1.trans (e4 f).2⟩, fun j => ⟨by rw [a.2.2.2.1]; exact (e5 j).1, by rw [a.2.2.2.2.1]; exact (e5 j).2⟩⟩
  have g := e3 q
  unfold lkE at g ⊢
  split
  · rename_i z
    rw [if_pos z] at g
    rw [(b.2.2.1 _).2.2]; exact g
  · rename_i z
    rw [if_neg z] at g
    rw [b.2.2.2.2.2]; exact g
/-- one more is made, by what fills a list T, and comes to be held -/
theorem Bl.add {kd ln p s0 : Nat} {L : List ObE} {zs : List Nat} {zv : Nat → Option Nat} {rI rA : Nat → Int} {h h2 : Hp} {kd' ln' par place : Nat} {T : List ObE} {zs' : List Nat} {zv' : Nat → Option Nat} {rI' rA' : Nat → Int}
    (B : Bl kd ln p s0 L zs zv rI rA h) (fx : Fx (fun _ => False) h h2) (b : Bl kd' ln' (NX h) (SL h) T zs' zv' rI' rA' h2) (hr : ∀ f, rI' f = iF kd' f) (ha : ∀ j, rA' j = iA place j) (fr : freE L par place = true) (hz : par = 0 → place ∉ zs) (hp : par < L.length) :
    Bl kd ln p s0 (putE L par place T) zs zv rI rA (wlE h2 (p + par) place (some (NX h))) ∧ Fx (fun x => x = p + par) h (wlE h2 (p + par) place (some (NX h))) := by
  obtain ⟨b1, b2, b3, ⟨b4, b5, b6, b7⟩, b8, b9⟩ := B
  obtain ⟨c1, c2, c3, ⟨c4, c5, c6, c7⟩, c8, c9⟩ := b
  obtain ⟨e1, e2, e3, e4, e5, e6, e7, e8, e9, e10⟩ := wlE_kp h2 (p + par) place (some (NX h))
  have ll : (putE L par place T).length = L.length + T.length := by unfold putE; rw [List.length_append, attE_len]
  have l0 : 0 < L.length := by omega
  obtain ⟨r, hT⟩ : ∃ r, T = (kd', ln', 0, 10000) :: r := by
    cases T with
    | nil => cases c3
    | cons x r => cases c3; exact ⟨r, rfl⟩
  have sp := fx.2 p (by omega) (fun z => z)
  refine ⟨⟨?_, ?_, ?_, ⟨?_, ?_, fun f => ⟨?_, ?_⟩, fun j => ⟨?_, ?_⟩⟩, fun k e hk he => ?_, fun f hf => ?_⟩, (fx.mono (fun _ _ z => z.elim)).tr (Fx.wl (by have := fx.1.1; omega))⟩
  · rw [e7, c1, ll, b1]; omega
  · rw [e8, c2, b2]; unfold putE; rw [sltE_app, sltE_att]; omega
  · unfold putE; rw [List.getElem?_append_left l0]; exact b3
  · rw [e1, sp.1, b4]
  · rw [e2, sp.2.1, b5]
  · rw [e3, (sp.2.2.1 f).1]; exact (b6 f).1
  · rw [e4, (sp.2.2.1 f).2.1]; exact (b6 f).2
  · rw [e5, sp.2.2.2.1]; exact (b7 j).1
  · rw [e6, sp.2.2.2.2.1]; exact (b7 j).2
  · rcases Nat.lt_or_ge k L.length with q | q
    · have he' : L[k]? = some e := by unfold putE at he; rw [List.getElem?_append_left q] at he; exact he
      obtain ⟨E, ep⟩ := b8 k e hk he'
      have no := freE_no fr he'
      have E2 := En_fx (fx.2 (p + k) (by omega) (fun z => z)) (fx.2 (p + e.2.2.1) (by omega) (fun z => z)) E
      obtain ⟨g1, g2, g3, g4, g5⟩ := E2
      refine ⟨⟨by rw [e1]; exact g1, by rw [e2]; exact g2, fun z => ?_, fun f => ⟨by rw [e3]; exact (g4 f).1, by rw [e4]; exact (g4 f).2⟩, fun j => ⟨by rw [e5]; exact (g5 j).1, by rw [e6]; exact (g5 j).2⟩⟩, ep⟩
      have g := g3 z
      have no2 : e.2.2.2 ≠ place ∨ p + e.2.2.1 ≠ p + par := by
        by_cases y : e.2.2.1 = par
        · exact Or.inl (fun w => no ⟨y, w⟩)
        · exact Or.inr (by omega)
      unfold lkE at g ⊢
      split
      · rename_i y
        rw [if_pos y] at g
        rw [e9 _ _ no2]; exact g
      · rename_i y
        rw [if_neg y] at g
        rw [e10 _ _ (by rw [show 4096 + (e.2.2.2 - 4096) = e.2.2.2 by omega]; exact no2)]; exact g
    · unfold putE at he
      rw [List.getElem?_append_right q] at he
      subst hT
      unfold attE at he
      have pk : p + k = NX h + (k - L.length) := by omega
      generalize hi : k - L.length = i at he pk
      have k2 : k = L.length + i := by omega
      cases i with
      | zero =>
        rw [List.getElem?_cons_zero] at he
        cases he
        refine ⟨⟨?_, ?_, fun _ => ?_, fun f => ⟨?_, ?_⟩, fun j => ⟨?_, ?_⟩⟩, by show par < k; omega⟩
        · rw [pk, e1]; exact c4
        · rw [pk, e2]; exact c5
        · rw [show NX h = p + k by omega]; exact wlE_lk h2 p par place k
        · rw [pk, e3]; exact (c6 f).1.trans (hr f)
        · rw [pk, e4]; exact (c6 f).2
        · rw [pk, e5]; exact (c7 j).1.trans (ha j)
        · rw [pk, e6]; exact (c7 j).2
      | succ i =>
        rw [List.getElem?_cons_succ] at he
        obtain ⟨e0, h0, rfl⟩ := shE_get he
        obtain ⟨⟨g1, g2, g3, g4, g5⟩, gp⟩ := c8 (i + 1) e0 (by omega) (by rw [List.getElem?_cons_succ]; exact h0)
        refine ⟨⟨?_, ?_, fun z => ?_, fun f => ⟨?_, ?_⟩, fun j => ⟨?_, ?_⟩⟩, by show e0.2.2.1 + L.length < k; omega⟩
        · rw [pk, e1]; exact g1
        · rw [pk, e2]; exact g2
        · have g := g3 z
          have pp : p + (e0.2.2.1 + L.length) = NX h + e0.2.2.1 := by omega
          have ne : NX h + e0.2.2.1 ≠ p + par := by omega
          unfold lkE at g ⊢
          show if e0.2.2.2 < 4096 then FR _ e0.2.2.2 (p + (e0.2.2.1 + L.length)) = some (p + k) else AR _ (p + (e0.2.2.1 + L.length)) (e0.2.2.2 - 4096) = some (p + k)
          rw [pp, pk]
          split
          · rename_i y
            rw [if_pos y] at g
            rw [e9 _ _ (Or.inr ne)]; exact g
          · rename_i y
            rw [if_neg y] at g
            rw [e10 _ _ (Or.inr ne)]; exact g
        · rw [pk, e3]; exact (g4 f).1
        · rw [pk, e4]; exact (g4 f).2
        · rw [pk, e5]; exact (g5 j).1
        · rw [pk, e6]; exact (g5 j).2
  · rw [e9 f p ?_, (sp.2.2.1 f).2.2]
    · exact b9 f hf
    · by_cases y : par = 0
      · exact Or.inl (fun w => hz y (w ▸ hf))
      · exact Or.inr (by omega)
/-- a new object, a new array: lists of one -/
theorem Bl.nO (h : Hp) (c : Nat) (hc : c < 14) (zv : Nat → Option Nat) : Bl (1 + c) 0 (NX h) (SL h) (ronE (1 + c) 0) [] zv (fun _ => 0) (fun _ => 0) (nwO h c) := by
  refine ⟨rfl, ?_, rfl, ⟨if_pos rfl, if_pos rfl, fun f => ⟨if_pos rfl, if_pos rfl⟩, fun j => ⟨if_pos rfl, if_pos rfl⟩⟩, fun k e hk he => ?_, fun f hf => absurd hf List.not_mem_nil⟩
  · unfold sltE ronE
    show SL h + mN c = SL h + ((if 1 + c < 40 then mN (1 + c - 1) else 0) + 0)
    rw [if_pos (by omega), show 1 + c - 1 = c by omega]; rfl
  · unfold ronE at he
    rw [List.getElem?_eq_none (by show 1 ≤ k; omega)] at he
    cases he
theorem Bl.nA (h : Hp) (kd n : Nat) (hk : 40 ≤ kd) (zv : Nat → Option Nat) : Bl kd n (NX h) (SL h) (ronE kd n) [] zv (fun _ => 0) (fun _ => 0) (nwA h kd n) := by
  refine ⟨rfl, ?_, rfl, ⟨if_pos rfl, if_pos rfl, fun f => ⟨if_pos rfl, if_pos rfl⟩, fun j => ⟨if_pos rfl, if_pos rfl⟩⟩, fun k e hk he => ?_, fun f hf => absurd hf List.not_mem_nil⟩
  · unfold sltE ronE
    show SL h + n = SL h + ((if kd < 40 then mN (kd - 1) else n) + 0)
    rw [if_neg (by omega)]; rfl
  · unfold ronE at he
    rw [List.getElem?_eq_none (by show 1 ≤ k; omega)] at he
    cases he
theorem Bl.nC (h : Hp) (b n : Nat) (hn : LN h b = n) (zv : Nat → Option Nat) : Bl 75 n (NX h) (SL h) (ronE 75 n) [] zv (fun _ => 0) (fun _ => 0) (nwC h b 75) := by
  refine ⟨rfl, ?_, rfl, ⟨if_pos rfl, (if_pos rfl).trans hn, fun f => ⟨if_pos rfl, if_pos rfl⟩, fun j => ⟨if_pos rfl, if_pos rfl⟩⟩, fun k e hk he => ?_, fun f hf => absurd hf List.not_mem_nil⟩
  · unfold sltE ronE
    show SL h + LN h b = SL h + ((if 75 < 40 then mN (75 - 1) else n) + 0)
    rw [if_neg (by omega), hn]; rfl
  · unfold ronE at he
    rw [List.getElem?_eq_none (by show 1 ≤ k; omega)] at he
    cases he
theorem iF_40 {kd : Nat} (h : 40 ≤ kd) (f : Nat) : (0 : Int) = iF kd f := by
  unfold iF
  rw [if_neg]
  rintro ⟨a, b⟩
  unfold kFld at a
  rcases b with b | b | b | b | b <;> subst b <;> simp at a <;> omega
theorem iF_at {g : Nat} (hg : g = 131 ∨ g = 2 ∨ g = 515 ∨ g = 782 ∨ g = 1737) (f : Nat) : (if f = g then -1 else (0 : Int)) = iF (kFld g) f := by
  unfold iF
  by_cases q : f = g
  · rw [if_pos q, if_pos ⟨by rw [q], by rw [q]; exact hg⟩]
  · rw [if_neg q, if_neg]
    rintro ⟨a, b⟩
    rcases hg with e | e | e | e | e <;> subst e <;> rcases b with b | b | b | b | b <;> subst b <;> first | exact q rfl | exact absurd a (by decide)
theorem iF_no {kd : Nat} (h : kd ≠ 2 ∧ kd ≠ 1 ∧ kd ≠ 5 ∧ kd ≠ 7 ∧ kd ≠ 14) (f : Nat) : (0 : Int) = iF kd f := by
  unfold iF
  rw [if_neg]
  rintro ⟨a, b⟩
  rcases b with b | b | b | b | b <;> subst b <;> rw [← a] at h <;> revert h <;> decide
theorem iA_no {place : Nat} (h : place ≠ 775 ∧ place ≠ 1713) (j : Nat) : (0 : Int) = iA place j := by
  unfold iA
  rw [if_neg (fun z => z.1.elim h.1 h.2)]
theorem iA_at {place : Nat} (h : place = 775 ∨ place = 1713) (j : Nat) : (if j < 2 then -1 else (0 : Int)) = iA place j := by
  unfold iA
  by_cases q : j < 2
  · rw [if_pos q, if_pos ⟨h, q⟩]
  · rw [if_neg q, if_neg (fun z => q z.2)]
theorem Bl.ri {kd ln p s0 : Nat} {L : List ObE} {zs : List Nat} {zv : Nat → Option Nat} {rI rA rI' rA' : Nat → Int} {h : Hp} (B : Bl kd ln p s0 L zs zv rI rA h) (e : ∀ f, rI f = rI' f) (e2 : ∀ j, rA j = rA' j) : Bl kd ln p s0 L zs zv rI' rA' h := by
  have a : rI = rI' := funext e
  have b : rA = rA' := funext e2
  subst a b
  exact B
/-- a field's number is set -/
theorem Bl.si {kd ln p s0 : Nat} {L : List ObE} {zs : List Nat} {zv : Nat → Option Nat} {rI rA : Nat → Int} {h : Hp} (B : Bl kd ln p s0 L zs zv rI rA h) (f : Nat) (v : Int) : Bl kd ln p s0 L zs zv (fun g => if g = f then v else rI g) rA (sFI h f p v) ∧ Fx (fun x => x = p) h (sFI h f p v) := by
  obtain ⟨b1, b2, b3, ⟨b4, b5, b6, b7⟩, b8, b9⟩ := B
  have np : p < NX h := by have := (List.getElem?_eq_some_iff.mp b3).1; omega
  have o : ∀ x, x ≠ p → SmA h (sFI h f p v) x := fun x hx => ⟨rfl, rfl, fun g => ⟨by rw [FI_sFI, if_neg (fun z => hx z.2)], rfl, rfl⟩, rfl, rfl, rfl⟩
  refine ⟨⟨b1, b2, b3, ⟨b4, b5, fun g => ⟨?_, (b6 g).2⟩, b7⟩, fun k e hk he => ?_, b9⟩, ⟨Nat.le_refl _, fun c x hx => ?_⟩, fun x _ hx => o x hx⟩
  · rw [FI_sFI]
    by_cases q : g = f
    · rw [if_pos ⟨q, rfl⟩]; exact (if_pos q).symm
    · rw [if_neg (fun z => q z.1)]; exact (b6 g).1.trans (if_neg q).symm
  · obtain ⟨⟨g1, g2, g3, g4, g5⟩, ep⟩ := b8 k e hk he
    exact ⟨⟨g1, g2, g3, fun g => ⟨by rw [FI_sFI, if_neg (fun z => by omega)]; exact (g4 g).1, (g4 g).2⟩, g5⟩, ep⟩
  · have hx : NX h ≤ x := hx
    obtain ⟨c1, c2, c3, c4⟩ := c x hx
    exact ⟨c1, c2, fun g => ⟨by rw [FI_sFI, if_neg (fun z => by omega)]; exact (c3 g).1, (c3 g).2⟩, c4⟩
/-- a reference to what is not of the list is set -/
theorem Bl.sr {kd ln p s0 : Nat} {L : List ObE} {zv : Nat → Option Nat} {rI rA : Nat → Int} {h : Hp} (B : Bl kd ln p s0 L [] zv rI rA h) (f : Nat) (v : Option Nat) (fr : freE L 0 f = true) : Bl kd ln p s0 L [f] (fun _ => v) rI rA (sFR h f p v) ∧ Fx (fun x => x = p) h (sFR h f p v) := by
  obtain ⟨b1, b2, b3, ⟨b4, b5, b6, b7⟩, b8, b9⟩ := B
  have np : p < NX h := by have := (List.getElem?_eq_some_iff.mp b3).1; omega
  have o : ∀ x, x ≠ p → SmA h (sFR h f p v) x := fun x hx => ⟨rfl, rfl, fun g => ⟨rfl, rfl, by rw [FR_sFR, if_neg (fun z => hx z.2)]⟩, rfl, rfl, rfl⟩
  refine ⟨⟨b1, b2, b3, ⟨b4, b5, b6, b7⟩, fun k e hk he => ?_, fun g hg => ?_⟩, ⟨Nat.le_refl _, fun c x hx => ?_⟩, fun x _ hx => o x hx⟩
  · obtain ⟨⟨g1, g2, g3, g4, g5⟩, ep⟩ := b8 k e hk he
    refine ⟨⟨g1, g2, fun z => ?_, g4, g5⟩, ep⟩
    have g := g3 z
    have no := freE_no fr he
    unfold lkE at g ⊢
    split
    · rename_i y
      rw [if_pos y] at g
      rw [FR_sFR, if_neg (fun w => no ⟨by omega, w.1⟩)]; exact g
    · rename_i y
      rw [if_neg y] at g
      exact g
  · rw [List.mem_singleton.mp hg, FR_sFR, if_pos ⟨rfl, rfl⟩]
  · have hx : NX h ≤ x := hx
    obtain ⟨c1, c2, c3, c4⟩ := c x hx
    exact ⟨c1, c2, fun g => ⟨(c3 g).1, (c3 g).2.1, by rw [FR_sFR, if_neg (fun z => by omega)]; exact (c3 g).2.2⟩, c4⟩
theorem Bl.hold (h : Hp) (zv : Nat → Option Nat) : Bl 40 2 (NX h) (SL h) (ronE 40 2) [] zv (fun _ => 0) (fun j => if j < 2 then -1 else 0) (sAI (sAI (nwA h 40 2) (NX h) 0 (-1)) (NX h) 1 (-1)) := by
  obtain ⟨b1, b2, b3, ⟨b4, b5, b6, b7⟩, b8, b9⟩ := Bl.nA h 40 2 (by decide) zv
  refine ⟨b1, b2, b3, ⟨b4, b5, b6, fun j => ⟨?_, (b7 j).2⟩⟩, fun k e hk he => ?_, b9⟩
  · rw [AI_sAI, AI_sAI]
    by_cases q1 : j = 1
    · rw [if_pos ⟨rfl, q1⟩]; exact (if_pos (by omega)).symm
    · rw [if_neg (fun z => q1 z.2)]
      by_cases q0 : j = 0
      · rw [if_pos ⟨rfl, q0⟩]; exact (if_pos (by omega)).symm
      · rw [if_neg (fun z => q0 z.2)]; exact (b7 j).1.trans (if_neg (by omega)).symm
  · unfold ronE at he
    rw [List.getElem?_eq_none (by show 1 ≤ k; omega)] at he
    cases he
theorem Fx.hold (h : Hp) : Fx (fun _ => False) h (sAI (sAI (nwA h 40 2) (NX h) 0 (-1)) (NX h) 1 (-1)) := by
  refine ⟨⟨Nat.le_succ _, fun c x hx => ?_⟩, fun x hx _ => ?_⟩
  · have hx : NX h + 1 ≤ x := hx
    obtain ⟨c1, c2, c3, c4⟩ := (Fx.nA h 40 2).1.2 c x hx
    exact ⟨c1, c2, c3, fun j => ⟨by rw [AI_sAI, AI_sAI, if_neg (fun z => by omega), if_neg (fun z => by omega)]; exact (c4 j).1, (c4 j).2⟩⟩
  obtain ⟨a1, a2, a3, a4, a5, a6⟩ := (Fx.nA h 40 2).2 x hx (fun z => z)
  refine ⟨a1, a2, a3, funext fun j => ?_, a5, a6⟩
  rw [AI_sAI, AI_sAI, if_neg (fun z => by omega), if_neg (fun z => by omega), a4]
/-- new int[14][3] -/
def muE : List ObE := (76, 14, 0, 10000) :: (List.range 14).map fun i => (40, 3, 0, 4096 + i)
theorem Bl.nM (h : Hp) (zv : Nat → Option Nat) : Bl 76 14 (NX h) (SL h) muE [] zv (fun _ => 0) (fun _ => 0) (nwM h 14 3) := by
  have i0 : NX h ≤ NX h ∧ NX h ≤ NX h + 14 := by omega
  refine ⟨rfl, by show SL h + (14 + 14 * 3) = _; rfl, rfl, ⟨if_pos rfl, if_pos rfl, fun f => ⟨if_pos i0, if_pos i0⟩, fun j => ⟨if_pos i0, if_pos i0⟩⟩, fun k e hk he => ?_, fun f hf => absurd hf List.not_mem_nil⟩
  cases k with
  | zero => omega
  | succ i =>
    unfold muE at he
    rw [List.getElem?_cons_succ, List.getElem?_map] at he
    have hi : i < 14 := by
      rcases Nat.lt_or_ge i 14 with q | q
      · exact q
      · rw [List.getElem?_eq_none (by rw [List.length_range]; exact q)] at he; cases he
    rw [List.getElem?_range hi] at he
    cases he
    have n0 : ¬ NX h + (i + 1) = NX h := by omega
    have n1 : NX h ≤ NX h + (i + 1) ∧ NX h + (i + 1) ≤ NX h + 14 := by omega
    refine ⟨⟨(if_neg n0).trans (if_pos n1), (if_neg n0).trans (if_pos n1), fun _ => ?_, fun f => ⟨(if_pos n1).trans (iF_40 (kd := 40) (by decide) f), if_pos n1⟩, fun j => ⟨(if_pos n1).trans (iA_no (by show 4096 + i ≠ 775 ∧ 4096 + i ≠ 1713; omega) j), if_pos n1⟩⟩, by show 0 < i + 1; omega⟩
    unfold lkE
    rw [if_neg (by show ¬ 4096 + i < 4096; omega)]
    show (if NX h + 0 = NX h then (if 4096 + i - 4096 < 14 then some (NX h + 1 + (4096 + i - 4096)) else none) else _) = some (NX h + (i + 1))
    rw [if_pos (by omega), if_pos (by omega)]
    exact congrArg some (by omega)
/-- elements, one behind another -/
def repE (L : List ObE) (q : Nat) (T : List ObE) : Nat → List ObE
  | 0 => L
  | i + 1 => putE (repE L q T i) q (4096 + i) T
def re2E (L : List ObE) (a b : Nat) (T : List ObE) : Nat → List ObE
  | 0 => L
  | i + 1 => putE (putE (re2E L a b T i) a (4096 + i) T) b (4096 + i) T
theorem Fx.any {A B : Nat → Prop} {h h' : Hp} (a : Fx A h h') (hAB : ∀ x, A x → B x) : Fx B h h' := a.mono (fun x _ => hAB x)
/-- an object made by its constructor: what was there stays -/
theorem Fx.made {h h2 : Hp} {c0 : Nat} {A : Nat → Prop} (a : Fx A (nwO h c0) h2) (hA : ∀ x, A x → NX h ≤ x) : Fx (fun _ => False) h h2 := by
  refine ⟨⟨Nat.le_trans (Nat.le_succ _) a.1.1, fun c => a.1.2 ((Fx.nO h c0).1.2 c)⟩, fun x hx _ => ((Fx.nO h c0).2 x hx (fun z => z)).tr (a.2 x (Nat.lt_succ_of_lt hx) (fun z => ?_))⟩
  have := hA x z
  omega
/-! what the walker of constructors takes -/
theorem Bl.kp {kd ln p s0 : Nat} {L : List ObE} {zs : List Nat} {zv : Nat → Option Nat} {rI rA : Nat → Int} {h : Hp} (B : Bl kd ln p s0 L zs zv rI rA h) : KD h p = kd := B.2.2.2.1.1
theorem Bl.dz {kd ln p s0 : Nat} {L : List ObE} {zs : List Nat} {zv zv2 : Nat → Option Nat} {rI rA : Nat → Int} {h : Hp} (B : Bl kd ln p s0 L zs zv rI rA h) : Bl kd ln p s0 L [] zv2 rI rA h := ⟨B.1, B.2.1, B.2.2.1, B.2.2.2.1, B.2.2.2.2.1, fun f hf => absurd hf List.not_mem_nil⟩
theorem Bl.kn {kd ln p s0 : Nat} {L : List ObE} {zs : List Nat} {zv : Nat → Option Nat} {rI rA : Nat → Int} {h : Hp} (B : Bl kd ln p s0 L zs zv rI rA h) {k a b c e : Nat} (hk : 0 < k) (he : L[k]? = some (a, b, c, e)) : KD h (p + k) = a ∧ LN h (p + k) = b := ⟨(B.2.2.2.2.1 k _ hk he).1.1, (B.2.2.2.2.1 k _ hk he).1.2.1⟩
theorem Bl.fr {kd ln p s0 : Nat} {L : List ObE} {zs : List Nat} {zv : Nat → Option Nat} {rI rA : Nat → Int} {h : Hp} (B : Bl kd ln p s0 L zs zv rI rA h) {k a b f : Nat} (hk : 0 < k) (he : L[k]? = some (a, b, 0, f)) (hf : f < 1288) : FR h f p = some (p + k) := by
  have g := (B.2.2.2.2.1 k _ hk he).1.2.2.1 (by show f ≠ 1288; omega)
  unfold lkE at g
  rw [if_pos (by show f < 4096; omega)] at g
  exact g
theorem KD_nO (h : Hp) (c : Nat) : KD (nwO h c) (NX h) = 1 + c := if_pos rfl
theorem KD_nA (h : Hp) (k n : Nat) : KD (nwA h k n) (NX h) = k := if_pos rfl
theorem LN_nA (h : Hp) (k n : Nat) : LN (nwA h k n) (NX h) = n := if_pos rfl
/-- the contract of a constructor: from a new object it makes the list T -/
def Mk (G : Nat → Option Nat) (d j : Nat) (args : List MV) (kd : Nat) (T : List ObE) (X : Hp → Nat → Prop) : Prop := ∀ (h : Hp) (p s0 : Nat) (Q : Option MV → Hp → Prop), Bl kd 0 p s0 (ronE kd 0) [] (fun _ => none) (fun _ => 0) (fun _ => 0) h → (∀ h', Bl kd 0 p s0 T [] (fun _ => none) (iF kd) (fun _ => 0) h' → Fx (fun x => p ≤ x) h h' → X h' p → Q none h') → Cl G d j (vR (some p) :: args) h Q
section CTOR
variable {G : Nat → Option Nat} {d k pc pc' : Nat} {ls : List (Option MV)} {st : List MV} {Q : Option MV → Hp → Prop} {kd ln p s0 : Nat} {L : List ObE} {zs : List Nat} {zv : Nat → Option Nat} {rI rA : Nat → Int} {h h2 : Hp} {kd' ln' : Nat} {T : List ObE} {zs' : List Nat} {zv' : Nat → Option Nat} {rI' rA' : Nat → Int}
theorem c_dst {f : Nat} (B : Bl kd ln p s0 L zs zv rI rA h) (fx : Fx (fun _ => False) h h2) (b : Bl kd' ln' (NX h) (SL h) T zs' zv' rI' rA' h2) (hr : ∀ g, rI' g = iF kd' g) (ha : ∀ j, rA' j = iA f j) (hd : dc k pc = some (.dstore f, pc')) (hk : kd = kFld f ∧ f / 128 < 14) (fr : freE L 0 f = true) (hz : f ∉ zs)
    (kk : ∀ h', Bl kd ln p s0 (putE L 0 f T) zs zv rI rA h' → Fx (fun x => x = p) h h' → Fx (fun x => x = p) h2 h' → Wp G d k pc' ls st h' Q) : Wp G d k pc ls (vR (some (NX h)) :: vR (some p) :: st) h2 Q := by
  have l0 : 0 < L.length := (List.getElem?_eq_some_iff.mp B.2.2.1).1
  have np : p < NX h := by have := B.1; omega
  refine w_dstore hd ⟨by rw [(fx.2 p np (fun z => z)).1, B.kp]; exact hk.1, hk.2⟩ ?_
  have f4 : f < 4096 := by omega
  have g := B.add (place := f) (par := 0) fx b hr ha fr (fun _ => hz) l0
  rw [wlE_F f4] at g
  refine kk _ g.1 g.2 ?_
  have w := Fx.wl (h := h2) (a := p) (place := f) (v := some (NX h)) (by have := fx.1.1; omega)
  rw [wlE_F f4] at w
  exact w
theorem c_ast {q i n par place : Nat} (B : Bl kd ln p s0 L zs zv rI rA h) (fx : Fx (fun _ => False) h h2) (b : Bl kd' ln' (NX h) (SL h) T zs' zv' rI' rA' h2) (hr : ∀ g, rI' g = iF kd' g) (ha : ∀ j, rA' j = 0) (hd : dc k pc = some (.aastore, pc')) (hq : 0 < q) (he : L[q]? = some (49 + kd', n, par, place)) (hk : 1 ≤ kd' ∧ kd' < 15) (hi : i < n) (fr : freE L q (4096 + i) = true)
    (kk : ∀ h', Bl kd ln p s0 (putE L q (4096 + i) T) zs zv rI rA h' → Fx (fun x => x = p + q) h h' → Wp G d k pc' ls st h' Q) : Wp G d k pc ls (vR (some (NX h)) :: vI (i : Nat) :: vR (some (p + q)) :: st) h2 Q := by
  have lq : q < L.length := (List.getElem?_eq_some_iff.mp he).1
  have nq : p + q < NX h := by have := B.1; omega
  have s := fx.2 (p + q) nq (fun z => z)
  have kn := B.kn hq he
  refine w_aastore hd ⟨⟨by rw [s.1, kn.1]; omega, by rw [s.1, kn.1]; omega, by rw [s.1, kn.1, b.kp]; omega⟩, by rw [s.2.1, kn.2]; exact ⟨Int.natCast_nonneg i, by omega⟩⟩ ?_
  have g := B.add (place := 4096 + i) (par := q) fx b hr (fun j => (ha j).trans (iA_no (by omega) j)) fr (fun z => by omega) lq
  rw [wlE_A] at g
  exact kk _ g.1 g.2
theorem Bl.sa (B : Bl kd ln p s0 L zs zv rI rA h) (q i : Nat) (v : Option Nat) (fr : freE L q (4096 + i) = true) (hq : 0 < q) (lq : q < L.length) : Bl kd ln p s0 L zs zv rI rA (sAR h (p + q) i v) ∧ Fx (fun x => x = p + q) h (sAR h (p + q) i v) := by
  obtain ⟨b1, b2, b3, ⟨b4, b5, b6, b7⟩, b8, b9⟩ := B
  have o : ∀ x, x ≠ p + q → SmA h (sAR h (p + q) i v) x := fun x hx => ⟨rfl, rfl, fun g => ⟨rfl, rfl, rfl⟩, rfl, rfl, funext fun j => by rw [AR_sAR, if_neg (fun z => hx z.1)]⟩
  refine ⟨⟨b1, b2, b3, ⟨b4, b5, b6, b7⟩, fun k e hk he => ?_, b9⟩, ⟨Nat.le_refl _, fun c x hx => by
    have hx : NX h ≤ x := hx
    obtain ⟨c1, c2, c3, c4⟩ := c x hx
    exact ⟨c1, c2, c3, fun j => ⟨(c4 j).1, (c4 j).2.1, by rw [AR_sAR, if_neg (fun z => by omega)]; exact (c4 j).2.2⟩⟩⟩, fun x _ hx => o x hx⟩
  obtain ⟨⟨g1, g2, g3, g4, g5⟩, ep⟩ := b8 k e hk he
  refine ⟨⟨g1, g2, fun z => ?_, g4, g5⟩, ep⟩
  have g := g3 z
  have no := freE_no fr he
  unfold lkE at g ⊢
  split
  · rename_i y
    rw [if_pos y] at g
    exact g
  · rename_i y
    rw [if_neg y] at g
    rw [AR_sAR, if_neg (fun w => no ⟨by omega, by omega⟩)]; exact g
/-- made, but held by a local alone: place 1288 -/
theorem Bl.ad0 (B : Bl kd ln p s0 L zs zv rI rA h) (fx : Fx (fun _ => False) h h2) (b : Bl kd' ln' (NX h) (SL h) T zs' zv' rI' rA' h2) (hr : ∀ g, rI' g = iF kd' g) (ha : ∀ j, rA' j = 0) (fr : freE L 0 1288 = true) (hz : 1288 ∉ zs) : Bl kd ln p s0 (putE L 0 1288 T) zs zv rI rA h2 := by
  have l0 : 0 < L.length := (List.getElem?_eq_some_iff.mp B.2.2.1).1
  obtain ⟨⟨b1, b2, b3, b4, b8, b9⟩, -⟩ := B.add (place := 1288) (par := 0) fx b hr (fun j => (ha j).trans (iA_no (by decide) j)) fr (fun _ => hz) l0
  obtain ⟨e1, e2, e3, e4, e5, e6, e7, e8, e9, e10⟩ := wlE_kp h2 (p + 0) 1288 (some (NX h))
  rw [e7] at b1
  rw [e8] at b2
  rw [e1, e2, e3, e4, e5, e6] at b4
  refine ⟨b1, b2, b3, b4, fun k e hk he => ?_, fun f hf => ?_⟩
  · obtain ⟨⟨g1, g2, g3, g4, g5⟩, ep⟩ := b8 k e hk he
    rw [e1] at g1
    rw [e2] at g2
    rw [e3, e4] at g4
    rw [e5, e6] at g5
    refine ⟨⟨g1, g2, fun z => ?_, g4, g5⟩, ep⟩
    have g := g3 z
    unfold lkE at g ⊢
    split
    · rename_i y
      rw [if_pos y, e9 _ _ (Or.inl z)] at g
      exact g
    · rename_i y
      rw [if_neg y, e10 _ _ (Or.inl (by omega))] at g
      exact g
  · have g := b9 f hf
    rw [e9 f p (Or.inl (fun z => hz (z ▸ hf)))] at g
    exact g
end CTOR
theorem putE_get {L T : List ObE} {a b q : Nat} {e : ObE} (h : L[q]? = some e) : (putE L a b T)[q]? = some e := by
  unfold putE
  rw [List.getElem?_append_left (List.getElem?_eq_some_iff.mp h).1]
  exact h
theorem repE_get {L T : List ObE} {q a : Nat} {e : ObE} (h : L[a]? = some e) : ∀ i, (repE L q T i)[a]? = some e
  | 0 => h
  | i + 1 => putE_get (repE_get h i)
theorem re2E_get {L T : List ObE} {x y a : Nat} {e : ObE} (h : L[a]? = some e) : ∀ i, (re2E L x y T i)[a]? = some e
  | 0 => h
  | i + 1 => putE_get (putE_get (re2E_get h i))
