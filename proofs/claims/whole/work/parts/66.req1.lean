/-! requests: their state, the smallest readers -/
theorem b2i_nz {b : Bool} (h : b2i b ≠ 0) : b = true := by
  cases b with
  | false => exact absurd rfl h
  | true => rfl
theorem scan_all {l : List Nat} {p : Nat → Bool} : ∀ {n i j : Nat}, i ≤ j → j < scan l p i n → p (l.getD j 0) = true ∧ j < l.length := by
  intro n
  induction n with
  | zero => intro i j h1 h2; rw [scan_stop (Or.inr (Or.inl rfl))] at h2; omega
  | succ n ih =>
    intro i j h1 h2
    rcases Nat.lt_or_ge i l.length with c | c
    · cases hp : p (l.getD i 0) with
      | true =>
        rw [scan_go c hp] at h2
        by_cases q : j = i
        · subst q; exact ⟨hp, c⟩
        · exact ih (by omega) h2
      | false => rw [scan_stop (Or.inr (Or.inr hp))] at h2; omega
    · rw [scan_stop (Or.inl c)] at h2; omega
theorem wordE_rg {l : List Nat} {a m lo : Nat} (ha : a ≤ l.length) : a ≤ wordE l a m lo ∧ wordE l a m lo ≤ l.length ∧ wordE l a m lo ≤ a + m := by
  unfold wordE
  split
  · rename_i q
    have h1 := scan_ge l (isLater lo) (a + 1) (m - 1)
    have h2 := scan_le (l := l) (p := isLater lo) (i := a + 1) (n := m - 1) (by omega)
    omega
  · omega
theorem wordE_all {l : List Nat} {a m lo j : Nat} (hlo : 1 ≤ lo) (h1 : a ≤ j) (h2 : j < wordE l a m lo) : 0 < l.getD j 0 ∧ l.getD j 0 < 128 := by
  unfold wordE at h2
  split at h2
  · rename_i q
    by_cases z : j = a
    · subst z
      have := isLet_t.mp q.2.2
      omega
    · have := isLater_t.mp (scan_all (by omega) h2).1
      omega
  · omega
theorem sl_mem {l : List Nat} {f e c : Nat} (hc : c ∈ sl l f e) : ∃ j, f ≤ j ∧ j < e ∧ l.getD j 0 = c := by
  obtain ⟨i, hi, e1⟩ := List.mem_iff_getElem.mp hc
  have hl : i < min (e - f) (l.length - f) := by unfold sl at hi; simpa using hi
  refine ⟨f + i, by omega, by omega, ?_⟩
  rw [← e1, List.getD_eq_getElem?_getD, List.getElem?_eq_getElem (by omega)]
  simp [sl]
theorem word_ok {l : List Nat} {a m lo : Nat} (ha : a ≤ l.length) (hlo : 1 ≤ lo) : okS (sl l a (wordE l a m lo)) m := by
  have r := wordE_rg (m := m) (lo := lo) ha
  refine ⟨by rw [sl_len ⟨r.1, r.2.1⟩]; omega, fun c hc => ?_⟩
  obtain ⟨j, j1, j2, j3⟩ := sl_mem hc
  rw [← j3]
  exact wordE_all hlo j1 j2
theorem numE_rg {l : List Nat} {a : Nat} (ha : a ≤ l.length) : a ≤ numE l a ∧ numE l a ≤ l.length ∧ numE l a ≤ a + 4 := by
  unfold numE
  have h1 := scan_ge l isDig a (if a < l.length ∧ l.getD a 0 = 48 then 1 else 4)
  have h2 := scan_le (l := l) (p := isDig) (i := a) (n := if a < l.length ∧ l.getD a 0 = 48 then 1 else 4) ha
  refine ⟨h1, h2.1, ?_⟩
  have := h2.2
  split at this <;> split <;> omega
theorem numE_all {l : List Nat} {a j : Nat} (h1 : a ≤ j) (h2 : j < numE l a) : isDig (l.getD j 0) = true := (scan_all h1 h2).1
theorem numV_le : ∀ (l : List Nat) (k : Nat), (∀ c ∈ l, isDig c = true) → l.length ≤ k → numV l ≤ 10 ^ k - 1 := by
  intro l k hd hk
  have key : ∀ (l : List Nat) (n : Nat), (∀ c ∈ l, isDig c = true) → l.foldl (fun n c => n * 10 + (c - 48)) n + 1 ≤ (n + 1) * 10 ^ l.length := by
    intro l
    induction l with
    | nil => intro n _; simp
    | cons c l ih =>
      intro n h
      have h1 := ih (n * 10 + (c - 48)) (fun x hx => h x (List.mem_cons_of_mem _ hx))
      have h2 := isDig_t.mp (h c List.mem_cons_self)
      refine Nat.le_trans h1 ?_
      rw [List.length_cons, Nat.pow_succ, Nat.mul_comm (10 ^ l.length) 10, ← Nat.mul_assoc]
      exact Nat.mul_le_mul_right _ (by omega)
  have h1 := key l 0 hd
  have h2 : 10 ^ l.length ≤ 10 ^ k := Nat.pow_le_pow_right (by decide) hk
  unfold numV
  omega
theorem num_ok {l : List Nat} {a : Nat} (ha : a ≤ l.length) : numV (sl l a (numE l a)) ≤ 9999 := by
  have r := numE_rg ha
  have := numV_le (sl l a (numE l a)) 4 (fun c hc => by
    obtain ⟨j, j1, j2, j3⟩ := sl_mem hc
    rw [← j3]; exact numE_all j1 j2) (by rw [sl_len ⟨r.1, r.2.1⟩]; omega)
  omega
/-- a request's state: its bytes, the place, the words and numbers read -/
def RqC (S : Shp) (h : Hp) (q : Nat) (l : List Nat) (a : Nat) (ws : List (List Nat)) (ns : List Nat) (vb : Option Nat) : Prop := rl h (sT S 512 q) = l ∧ l.length ≤ 4200 ∧ FI h 516 q = (a : Nat) ∧ a ≤ l.length ∧ FI h 519 q = ws.length ∧ ws.length ≤ 2 ∧
  (∀ i, i < ws.length → AL h (sT S 517 q) i = hd (ws.getD i []) ∧ AL h (sT S 518 q) i = tl (ws.getD i []) ∧ okP (ws.getD i [])) ∧ FI h 521 q = ns.length ∧ ns.length ≤ a ∧ (∀ i, i < ns.length → i < 5 → AI h (sT S 520 q) i = (ns.getD i 0 : Nat) ∧ ns.getD i 0 ≤ 9999) ∧ FR h 514 q = vb
/-- what changes nothing of the state -/
theorem RqC.fr {S : Shp} {h h' : Hp} {A : Nat → Prop} {q a : Nat} {vb : Option Nat} {l : List Nat} {ws : List (List Nat)} {ns : List Nat} (ok : Ok S h) (m : Mo S A h h') (hq : sK S q = 5) (h0 : ¬ A q) (hT : ∀ f, f = 512 ∨ f = 517 ∨ f = 518 ∨ f = 520 → ¬ A (sT S f q)) (R : RqC S h q l a ws ns vb) : RqC S h' q l a ws ns vb := by
  obtain ⟨r1, r2, r3, r4, r5, r6, r7, r8, r9, r10, r11⟩ := R
  have k7 := kT517 ok hq
  have k8 := kT518 ok hq
  have k0 := kT520 ok hq
  refine ⟨by rw [m.rb ok (kT512 ok hq) (hT 512 (by decide))]; exact r1, r2, by rw [m.fi ok (by omega) h0 516]; exact r3, r4, by rw [m.fi ok (by omega) h0 519]; exact r5, r6, fun i hi => ?_, by rw [m.fi ok (by omega) h0 521]; exact r8, r9, fun i hi h5 => ?_, by rw [m.fr ok (by omega) h0 514]; exact r11⟩
  · rw [m.al ok (by omega) (hT 517 (by decide)), m.al ok (by omega) (hT 518 (by decide))]; exact r7 i hi
  · rw [m.ai ok (by omega) (hT 520 (by decide))]; exact r10 i hi h5
def pSign (l : List Nat) (c a : Nat) : Bool := decide (a < l.length ∧ l.getD a 0 = c)
theorem RqC.at {S : Shp} {h h' : Hp} {q a b : Nat} {vb : Option Nat} {l : List Nat} {ws : List (List Nat)} {ns : List Nat} (ok : Ok S h) (hq : sK S q = 5) (R : RqC S h q l a ws ns vb) (e : h' = sFI h 516 q (b : Nat)) (m : Mo S (fun y => y = q) h h') (hb : a ≤ b ∧ b ≤ l.length) : RqC S h' q l b ws ns vb := by
  obtain ⟨r1, r2, r3, r4, r5, r6, r7, r8, r9, r10⟩ := R
  refine ⟨by rw [m.rb ok (kT512 ok hq) (ok.so.pT (by decide))]; exact r1, r2, by rw [e, FI_sFI, if_pos ⟨rfl, rfl⟩], hb.2, by rw [e, FI_sFI, if_neg (by simp)]; exact r5, r6, by rw [e]; exact r7, by rw [e, FI_sFI, if_neg (by simp)]; exact r8, by omega, by rw [e]; exact r10⟩
theorem RqC.w0 {S : Shp} {h h' : Hp} {q a : Nat} {vb : Option Nat} {l : List Nat} {ws : List (List Nat)} {ns : List Nat} (ok : Ok S h) (hq : sK S q = 5) (R : RqC S h q l a ws ns vb) (e : h' = sFI h 519 q 0) (m : Mo S (fun y => y = q) h h') : RqC S h' q l a [] ns vb := by
  obtain ⟨r1, r2, r3, r4, r5, r6, r7, r8, r9, r10⟩ := R
  exact ⟨by rw [m.rb ok (kT512 ok hq) (ok.so.pT (by decide))]; exact r1, r2, by rw [e, FI_sFI, if_neg (by simp)]; exact r3, r4, by rw [e, FI_sFI, if_pos ⟨rfl, rfl⟩]; rfl, by simp, fun i hi => absurd hi (by simp), by rw [e, FI_sFI, if_neg (by simp)]; exact r8, r9, by rw [e]; exact r10⟩
theorem d40_0 : dc 40 0 = some (.aload_n 0, 1) := by decide +kernel
theorem d40_1 : dc 40 1 = some (.dload 512, 4) := by decide +kernel
theorem d40_4 : dc 40 4 = some (.aload_n 0, 5) := by decide +kernel
theorem d40_5 : dc 40 5 = some (.getfield 516, 8) := by decide +kernel
theorem d40_8 : dc 40 8 = some (.invokevirtual 23, 11) := by decide +kernel
theorem d40_11 : dc 40 11 = some (.iload_n 1, 12) := by decide +kernel
theorem d40_12 : dc 40 12 = some (.if_icmp .eq ((17 : Nat) : Int), 15) := by decide +kernel
theorem d40_15 : dc 40 15 = some (.iconst 0, 16) := by decide +kernel
theorem d40_16 : dc 40 16 = some (.freturn, 17) := by decide +kernel
theorem d40_17 : dc 40 17 = some (.aload_n 0, 18) := by decide +kernel
theorem d40_18 : dc 40 18 = some (.dup, 19) := by decide +kernel
theorem d40_19 : dc 40 19 = some (.getfield 516, 22) := by decide +kernel
theorem d40_22 : dc 40 22 = some (.iconst 1, 23) := by decide +kernel
theorem d40_23 : dc 40 23 = some (.iadd, 24) := by decide +kernel
theorem d40_24 : dc 40 24 = some (.putfield 516, 27) := by decide +kernel
theorem d40_27 : dc 40 27 = some (.iconst 1, 28) := by decide +kernel
theorem d40_28 : dc 40 28 = some (.freturn, 29) := by decide +kernel
theorem k_Rq_readSign {S : Shp} {G : Nat → Option Nat} {d : Nat} {h : Hp} {Q : Option MV → Hp → Prop} {q : Nat} {c : Nat}  (ok : Ok S h) (h1 : 1 ≤ d) (hq : sK S q = 5) {vb : Option Nat} {l : List Nat} {a : Nat} {ws : List (List Nat)} {ns : List Nat} (R : RqC S h q l a ws ns vb)
    (kk : ∀ h' v a', Mo S (fun y => y = q) h h' → RqC S h' q l a' ws ns vb → (v = pSign l c a ∧ a' = if v = true then a + 1 else a) → Q (some (vI (b2i v))) h') : Cl G d 40 [vR (some q), vI (c : Nat)] h Q := by
  show Wp G d 40 0 [some (vR (some q)), some (vI (c : Nat))] [] h Q
  have R0 := R
  obtain ⟨r1, r2, r3, r4, r5, r6, r7, r8, r9, r10, r11⟩ := R
  have kR := kT512 ok hq
  have nT : ∀ f, f < 4096 → sT S f q ≠ q := fun f hf => ok.so.pT hf
  refine w_aload_n d40_0 rfl ?_
  refine w_dloadS d40_1 (ok.kd hq) (fr512 ok hq) ?_
  refine w_aload_n d40_4 rfl ?_
  refine w_getI (x := ((a : Nat) : Int)) d40_5 (ok.kd hq) r3 ?_
  refine w_callv2 d40_8 (by omega) rfl (ok.kd (kT512 ok hq)) (by simp) (Nat.le_of_ble_eq_true rfl) ?_
  refine r_Row_at ok (kT512 ok hq) ?_
  rw [r1]
  refine w_iload_n d40_11 rfl ?_
  refine w_icmpeq d40_12 (fun c12 => ?_) (fun c12 => ?_)
  · have hs : a < l.length ∧ l.getD a 0 = c := by
      by_cases z : a < l.length
      · rw [atvN z] at c12; exact ⟨z, by omega⟩
      · unfold atv at c12; rw [if_neg (by omega)] at c12; omega
    refine w_aload_n d40_17 rfl ?_
    refine w_dupR d40_18 ?_
    refine w_getI (x := ((a : Nat) : Int)) d40_19 (ok.kd hq) r3 ?_
    refine w_iconst d40_22 (by decide) ?_
    refine w_iadd d40_23 (by constructor <;> omega) ?_
    refine wf516 d40_24 ok hq (by omega) (fun h24 e24 m24 => ?_)
    have ok24 := m24.ok
    have M24 := Mo.tr ok (Mo.refl (A := (fun x => x = q)) ok) m24 (fun x e => e)
    refine w_iconst d40_27 (by decide) ?_
    refine w_zreturn d40_28 (by decide) ?_
    exact kk h24 true (a + 1) m24 (R0.at ok hq e24 m24 ⟨by omega, by omega⟩) ⟨by unfold pSign; rw [decide_eq_true hs], rfl⟩
  · have hs : ¬ (a < l.length ∧ l.getD a 0 = c) := fun z => by rw [atvN z.1] at c12; omega
    refine w_iconst d40_15 (by decide) ?_
    refine w_zreturn d40_16 (by decide) ?_
    exact kk h false a (Mo.refl ok) R0 ⟨by unfold pSign; rw [decide_eq_false hs], rfl⟩
def pDig (l : List Nat) (a : Nat) : Bool := decide (a < l.length ∧ 48 ≤ l.getD a 0 ∧ l.getD a 0 ≤ 57)
theorem d50_0 : dc 50 0 = some (.aload_n 0, 1) := by decide +kernel
theorem d50_1 : dc 50 1 = some (.dload 512, 4) := by decide +kernel
theorem d50_4 : dc 50 4 = some (.aload_n 0, 5) := by decide +kernel
theorem d50_5 : dc 50 5 = some (.getfield 516, 8) := by decide +kernel
theorem d50_8 : dc 50 8 = some (.invokevirtual 23, 11) := by decide +kernel
theorem d50_11 : dc 50 11 = some (.istore_n 1, 12) := by decide +kernel
theorem d50_12 : dc 50 12 = some (.iload_n 1, 13) := by decide +kernel
theorem d50_13 : dc 50 13 = some (.bipush 48, 15) := by decide +kernel
theorem d50_15 : dc 50 15 = some (.if_icmp .lt ((24 : Nat) : Int), 18) := by decide +kernel
theorem d50_18 : dc 50 18 = some (.iload_n 1, 19) := by decide +kernel
theorem d50_19 : dc 50 19 = some (.bipush 57, 21) := by decide +kernel
theorem d50_21 : dc 50 21 = some (.if_icmp .le ((26 : Nat) : Int), 24) := by decide +kernel
theorem d50_24 : dc 50 24 = some (.iconst 0, 25) := by decide +kernel
theorem d50_25 : dc 50 25 = some (.freturn, 26) := by decide +kernel
theorem d50_26 : dc 50 26 = some (.aload_n 0, 27) := by decide +kernel
theorem d50_27 : dc 50 27 = some (.dup, 28) := by decide +kernel
theorem d50_28 : dc 50 28 = some (.getfield 516, 31) := by decide +kernel
theorem d50_31 : dc 50 31 = some (.iconst 1, 32) := by decide +kernel
theorem d50_32 : dc 50 32 = some (.iadd, 33) := by decide +kernel
theorem d50_33 : dc 50 33 = some (.putfield 516, 36) := by decide +kernel
theorem d50_36 : dc 50 36 = some (.iconst 1, 37) := by decide +kernel
theorem d50_37 : dc 50 37 = some (.freturn, 38) := by decide +kernel
theorem k_Rq_readDigit {S : Shp} {G : Nat → Option Nat} {d : Nat} {h : Hp} {Q : Option MV → Hp → Prop} {q : Nat}  (ok : Ok S h) (h1 : 1 ≤ d) (hq : sK S q = 5) {vb : Option Nat} {l : List Nat} {a : Nat} {ws : List (List Nat)} {ns : List Nat} (R : RqC S h q l a ws ns vb)
    (kk : ∀ h' v a', Mo S (fun y => y = q) h h' → RqC S h' q l a' ws ns vb → (v = pDig l a ∧ a' = if v = true then a + 1 else a) → Q (some (vI (b2i v))) h') : Cl G d 50 [vR (some q)] h Q := by
  show Wp G d 50 0 [some (vR (some q)), none] [] h Q
  have R0 := R
  obtain ⟨r1, r2, r3, r4, r5, r6, r7, r8, r9, r10, r11⟩ := R
  have kR := kT512 ok hq
  have nT : ∀ f, f < 4096 → sT S f q ≠ q := fun f hf => ok.so.pT hf
  refine w_aload_n d50_0 rfl ?_
  refine w_dloadS d50_1 (ok.kd hq) (fr512 ok hq) ?_
  refine w_aload_n d50_4 rfl ?_
  refine w_getI (x := ((a : Nat) : Int)) d50_5 (ok.kd hq) r3 ?_
  refine w_callv2 d50_8 (by omega) rfl (ok.kd (kT512 ok hq)) (by simp) (Nat.le_of_ble_eq_true rfl) ?_
  refine r_Row_at ok (kT512 ok hq) ?_
  rw [r1]
  have no : (atv l ((a : Nat) : Int) < 48 ∨ 57 < atv l ((a : Nat) : Int)) → Q (some (vI 0)) h := fun z => kk h false a (Mo.refl ok) R0 ⟨by
    unfold pDig
    refine (decide_eq_false (fun w => ?_)).symm
    rw [atvN w.1] at z
    omega, rfl⟩
  refine w_istore1 d50_11 rfl ?_
  refine w_iload_n d50_12 rfl ?_
  refine w_bipush d50_13 (by decide) ?_
  refine w_icmplt d50_15 (fun c15 => ?_) (fun c15 => ?_)
  · refine w_iconst d50_24 (by decide) ?_
    refine w_zreturn d50_25 (by decide) ?_
    first | exact no (Or.inl (by omega)) | exact no (Or.inr (by omega))
  · refine w_iload_n d50_18 rfl ?_
    refine w_bipush d50_19 (by decide) ?_
    refine w_icmple d50_21 (fun c21 => ?_) (fun c21 => ?_)
    · have hs : a < l.length ∧ 48 ≤ l.getD a 0 ∧ l.getD a 0 ≤ 57 := by
        by_cases z : a < l.length
        · rw [atvN z] at c15 c21; exact ⟨z, by omega, by omega⟩
        · unfold atv at c15; rw [if_neg (by omega)] at c15; omega
      refine w_aload_n d50_26 rfl ?_
      refine w_dupR d50_27 ?_
      refine w_getI (x := ((a : Nat) : Int)) d50_28 (ok.kd hq) r3 ?_
      refine w_iconst d50_31 (by decide) ?_
      refine w_iadd d50_32 (by constructor <;> omega) ?_
      refine wf516 d50_33 ok hq (by omega) (fun h33 e33 m33 => ?_)
      have ok33 := m33.ok
      have M33 := Mo.tr ok (Mo.refl (A := (fun x => x = q)) ok) m33 (fun x e => e)
      refine w_iconst d50_36 (by decide) ?_
      refine w_zreturn d50_37 (by decide) ?_
      exact kk h33 true (a + 1) m33 (R0.at ok hq e33 m33 ⟨by omega, by omega⟩) ⟨by unfold pDig; rw [decide_eq_true hs], rfl⟩
    · refine w_iconst d50_24 (by decide) ?_
      refine w_zreturn d50_25 (by decide) ?_
      first | exact no (Or.inl (by omega)) | exact no (Or.inr (by omega))
/-- a request's own numbers and words -/
abbrev rqA (S : Shp) (q : Nat) : Nat → Prop := fun x => x = q ∨ x = (sT S 517 q) ∨ x = (sT S 518 q) ∨ x = (sT S 520 q)
theorem d38_0 : dc 38 0 = some (.aload_n 0, 1) := by decide +kernel
theorem d38_1 : dc 38 1 = some (.getfield 521, 4) := by decide +kernel
theorem d38_4 : dc 38 4 = some (.aload_n 0, 5) := by decide +kernel
theorem d38_5 : dc 38 5 = some (.dload 520, 8) := by decide +kernel
theorem d38_8 : dc 38 8 = some (.arraylength, 9) := by decide +kernel
theorem d38_9 : dc 38 9 = some (.if_icmp .ge ((22 : Nat) : Int), 12) := by decide +kernel
theorem d38_12 : dc 38 12 = some (.aload_n 0, 13) := by decide +kernel
theorem d38_13 : dc 38 13 = some (.dload 520, 16) := by decide +kernel
theorem d38_16 : dc 38 16 = some (.aload_n 0, 17) := by decide +kernel
theorem d38_17 : dc 38 17 = some (.getfield 521, 20) := by decide +kernel
theorem d38_20 : dc 38 20 = some (.iload_n 1, 21) := by decide +kernel
theorem d38_21 : dc 38 21 = some (.iastore, 22) := by decide +kernel
theorem d38_22 : dc 38 22 = some (.aload_n 0, 23) := by decide +kernel
theorem d38_23 : dc 38 23 = some (.dup, 24) := by decide +kernel
theorem d38_24 : dc 38 24 = some (.getfield 521, 27) := by decide +kernel
theorem d38_27 : dc 38 27 = some (.iconst 1, 28) := by decide +kernel
theorem d38_28 : dc 38 28 = some (.iadd, 29) := by decide +kernel
theorem d38_29 : dc 38 29 = some (.putfield 521, 32) := by decide +kernel
theorem d38_32 : dc 38 32 = some (.return_, 33) := by decide +kernel
theorem k_Rq_keepNumber {S : Shp} {G : Nat → Option Nat} {d : Nat} {h : Hp} {Q : Option MV → Hp → Prop} {q : Nat} {v : Nat}  (ok : Ok S h) (h1 : 0 ≤ d) (hq : sK S q = 5) {vb : Option Nat} {l : List Nat} {a : Nat} {ws : List (List Nat)} {ns : List Nat} (R : RqC S h q l a ws ns vb) (hv : v ≤ 9999)
    (kk : ∀ h', Mo S (rqA S q) h h' → (∀ b, a < b → b ≤ l.length → FI h' 516 q = (b : Nat) → RqC S h' q l b ws (ns ++ [v]) vb) → (∀ h2 b, Mo S (fun y => y = q) h' h2 → h2 = sFI h' 516 q (b : Nat) → a < b → b ≤ l.length → RqC S h2 q l b ws (ns ++ [v]) vb) → FI h' 516 q = (a : Nat) → rl h' (sT S 512 q) = l → (∀ f, f ≠ 520 → f ≠ 512 → AL h' (sT S f q) = AL h (sT S f q)) → Q none h') : Cl G d 38 [vR (some q), vI (v : Nat)] h Q := by
  show Wp G d 38 0 [some (vR (some q)), some (vI (v : Nat))] [] h Q
  have R0 := R
  obtain ⟨r1, r2, r3, r4, r5, r6, r7, r8, r9, r10, r11⟩ := R
  have kR := kT512 ok hq
  have nT : ∀ f, f < 4096 → sT S f q ≠ q := fun f hf => ok.so.pT hf
  have ne7 : sT S 517 q ≠ sT S 520 q := fun z => absurd ((ok.so.inj (by decide) (by decide)).mp z).1 (by decide)
  have ne8 : sT S 518 q ≠ sT S 520 q := fun z => absurd ((ok.so.inj (by decide) (by decide)).mp z).1 (by decide)
  have ne2 : sT S 512 q ≠ sT S 520 q := fun z => absurd ((ok.so.inj (by decide) (by decide)).mp z).1 (by decide)
  refine w_aload_n d38_0 rfl ?_
  refine w_getI (x := ((ns.length : Nat) : Int)) d38_1 (ok.kd hq) r8 ?_
  refine w_aload_n d38_4 rfl ?_
  refine w_dloadS d38_5 (ok.kd hq) (fr520 ok hq) ?_
  refine wl520 d38_8 ok hq ?_
  refine w_icmpge d38_9 (fun c9 => ?_) (fun c9 => ?_)
  · refine w_aload_n d38_22 rfl ?_
    refine w_dupR d38_23 ?_
    refine w_getI (x := ((ns.length : Nat) : Int)) d38_24 (ok.kd hq) (by first | exact r8 | (rw [e21]; exact r8)) ?_
    refine w_iconst d38_27 (by decide) ?_
    refine w_iadd d38_28 (by constructor <;> omega) ?_
    refine wf521 d38_29 ok hq (by omega) (fun h29 e29 m29 => ?_)
    have ok29 := m29.ok
    have M29 := Mo.tr ok (Mo.refl (A := (fun x => x = q ∨ x = (sT S 517 q) ∨ x = (sT S 518 q) ∨ x = (sT S 520 q))) ok) m29 (fun x e => (Or.inl e))
    refine w_return d38_32 ?_
    have base : ∀ h2 b, (h2 = h29 ∨ h2 = sFI h29 516 q (b : Nat)) → Ok S h2 → rl h2 (sT S 512 q) = l → FI h2 516 q = (b : Nat) → a < b → b ≤ l.length → RqC S h2 q l b ws (ns ++ [v]) vb := fun h2 b he o2 er ea hab hbl => by
      have fo : ∀ f, f ≠ 516 → FI h2 f q = FI h29 f q := fun f hf => by rcases he with he | he; rw [he]; rw [he, FI_sFI, if_neg (fun z => hf z.1)]
      have al : AL h2 = AL h29 := by rcases he with he | he <;> rw [he] <;> rfl
      have ai : AI h2 = AI h29 := by rcases he with he | he <;> rw [he] <;> rfl
      have fr2 : FR h2 514 q = FR h 514 q := by rcases he with he | he <;> rw [he, e29] <;> first | rfl | (rw [e21]; rfl)
      refine ⟨er, r2, ea, hbl, by rw [fo 519 (by decide), e29, FI_sFI, if_neg (by simp)]; exact r5, r6, by rw [al, e29]; exact r7, by rw [fo 521 (by decide), e29, FI_sFI, if_pos ⟨rfl, rfl⟩, List.length_append]; rfl, by rw [List.length_append]; simp; omega, fun i hi h5 => ?_, fr2.trans r11⟩
      rw [ai, e29]
      have hi2 : i < ns.length := by omega
      rw [getD_snoc, if_neg (by omega)]
      exact r10 i hi2 h5
    have er29 : rl h29 (sT S 512 q) = l := by rw [m29.rb ok kR (nT 512 (by decide))]; exact r1
    exact kk h29 M29 (fun b h1 h2 h3 => base h29 b (Or.inl rfl) ok29 er29 h3 h1 h2) (fun h2 b m e h3 h4 => base h2 b (Or.inr e) m.ok (by rw [m.rb ok29 kR (nT 512 (by decide))]; exact er29) (by rw [e, FI_sFI, if_pos ⟨rfl, rfl⟩]) h3 h4) (by rw [e29, FI_sFI, if_neg (by simp)]; exact r3) er29 (fun f _ _ => by rw [e29]; rfl)
  · refine w_aload_n d38_12 rfl ?_
    refine w_dloadS d38_13 (ok.kd hq) (fr520 ok hq) ?_
    refine w_aload_n d38_16 rfl ?_
    refine w_getI (x := ((ns.length : Nat) : Int)) d38_17 (ok.kd hq) r8 ?_
    refine w_iload_n d38_20 rfl ?_
    refine wa520 d38_21 ok hq (by omega) (by omega) (fun h21 e21 m21 => ?_)
    have e21 : h21 = sAI h (sT S 520 q) ns.length ((v : Nat) : Int) := e21
    have ok21 := m21.ok
    have M21 := Mo.tr ok (Mo.refl (A := (fun x => x = q ∨ x = (sT S 517 q) ∨ x = (sT S 518 q) ∨ x = (sT S 520 q))) ok) m21 (fun x e => (Or.inr (Or.inr (Or.inr e))))
    refine w_aload_n d38_22 rfl ?_
    refine w_dupR d38_23 ?_
    refine w_getI (x := ((ns.length : Nat) : Int)) d38_24 (ok21.kd hq) (by first | exact r8 | (rw [e21]; exact r8)) ?_
    refine w_iconst d38_27 (by decide) ?_
    refine w_iadd d38_28 (by constructor <;> omega) ?_
    refine wf521 d38_29 ok21 hq (by omega) (fun h29 e29 m29 => ?_)
    have ok29 := m29.ok
    have M29 := Mo.tr ok M21 m29 (fun x e => (Or.inl e))
    refine w_return d38_32 ?_
    have base : ∀ h2 b, (h2 = h29 ∨ h2 = sFI h29 516 q (b : Nat)) → Ok S h2 → rl h2 (sT S 512 q) = l → FI h2 516 q = (b : Nat) → a < b → b ≤ l.length → RqC S h2 q l b ws (ns ++ [v]) vb := fun h2 b he o2 er ea hab hbl => by
      have fo : ∀ f, f ≠ 516 → FI h2 f q = FI h29 f q := fun f hf => by rcases he with he | he; rw [he]; rw [he, FI_sFI, if_neg (fun z => hf z.1)]
      have al : AL h2 = AL h29 := by rcases he with he | he <;> rw [he] <;> rfl
      have ai : AI h2 = AI h29 := by rcases he with he | he <;> rw [he] <;> rfl
      have fr2 : FR h2 514 q = FR h 514 q := by rcases he with he | he <;> rw [he, e29] <;> first | rfl | (rw [e21]; rfl)
      refine ⟨er, r2, ea, hbl, by rw [fo 519 (by decide), e29, FI_sFI, if_neg (by simp), e21]; exact r5, r6, by rw [al, e29, e21]; exact r7, by rw [fo 521 (by decide), e29, FI_sFI, if_pos ⟨rfl, rfl⟩, List.length_append]; rfl, by rw [List.length_append]; simp; omega, fun i hi h5 => ?_, fr2.trans r11⟩
      rw [ai, e29]
      show AI h21 (sT S 520 q) i = _ ∧ _
      rw [e21, sArr, getD_snoc]
      by_cases z : i = ns.length
      · rw [if_pos z, if_pos z]; exact ⟨rfl, hv⟩
      · rw [if_neg z, if_neg z]; exact r10 i (by rw [List.length_append] at hi; simp at hi; omega) h5
    have er29 : rl h29 (sT S 512 q) = l := by rw [m29.rb ok21 kR (nT 512 (by decide)), m21.rb ok kR ne2]; exact r1
    exact kk h29 M29 (fun b h1 h2 h3 => base h29 b (Or.inl rfl) ok29 er29 h3 h1 h2) (fun h2 b m e h3 h4 => base h2 b (Or.inr e) m.ok (by rw [m.rb ok29 kR (nT 512 (by decide))]; exact er29) (by rw [e, FI_sFI, if_pos ⟨rfl, rfl⟩]) h3 h4) (by rw [e29, FI_sFI, if_neg (by simp), e21]; exact r3) er29 (fun f _ _ => by rw [e29, e21]; rfl)
