/-! the reference: its fields, the answer -/
/-- of the numbers in the object m the fields in F alone may have changed -/
def FK (F : List Nat) (m : Nat) (h h' : Hp) : Prop := ∀ f, 1408 ≤ f → f ∉ F → FI h' f m = FI h f m ∧ FL h' f m = FL h f m
theorem FK.refl {F : List Nat} {m : Nat} {h : Hp} : FK F m h h := fun _ _ _ => ⟨rfl, rfl⟩
theorem FK.tr {F F' : List Nat} {m : Nat} {h h1 h2 : Hp} (a : FK F m h h1) (b : FK F' m h1 h2) (hs : ∀ f ∈ F', f ∈ F) : FK F m h h2 := fun f h0 hf => ⟨(b f h0 (fun z => hf (hs f z))).1.trans (a f h0 hf).1, (b f h0 (fun z => hf (hs f z))).2.trans (a f h0 hf).2⟩
theorem FK.pI {f m : Nat} {x : Int} {h h' : Hp} (e : h' = sFI h f m x) : FK [f] m h h' := fun g _ hg => ⟨by rw [e, FI_sFI, if_neg (fun z => hg (by rw [z.1]; exact List.mem_cons_self))], by rw [e]; rfl⟩
theorem FK.pL {f m : Nat} {x : Int64} {h h' : Hp} (e : h' = sFL h f m x) : FK [f] m h h' := fun g _ hg => ⟨by rw [e]; rfl, by rw [e]; show up2 (FL h) f m x g m = FL h g m; unfold up2; rw [if_neg (fun z => hg (by rw [z.1]; exact List.mem_cons_self))]⟩
theorem FK.of {S : Shp} {A : Nat → Prop} {m : Nat} {h h' : Hp} (ok : Ok S h) (mo : Mo S A h h') (hm : sK S m = 14) (hn : ¬ A m) : FK [] m h h' := fun f h0 _ => ⟨mo.fi ok (by omega) hn f (by omega), mo.fl ok (by omega) hn f⟩
theorem FK.i {F : List Nat} {m : Nat} {h h' : Hp} (k : FK F m h h') (f : Nat) (hf : f ∉ F := by decide) (h0 : 1408 ≤ f := by decide) : FI h' f m = FI h f m := (k f h0 hf).1
theorem FK.l {F : List Nat} {m : Nat} {h h' : Hp} (k : FK F m h h') (f : Nat) (hf : f ∉ F := by decide) (h0 : 1408 ≤ f := by decide) : FL h' f m = FL h f m := (k f h0 hf).2
theorem Tg.al {S : Shp} {G : Nat → Option Nat} {h : Hp} (tg : Tg S G) (ok : Ok S h) (i : Nat) (hi : i < 89) : ∃ g, G (50 + i) = some g ∧ ∀ h', Ok S h' → St h' g (txt i) := by
  obtain ⟨g, e, s⟩ := tg.tx ok i hi
  refine ⟨g, e, fun h' ok' => ?_⟩
  obtain ⟨g', e', s'⟩ := tg.tx ok' i hi
  rw [e] at e'
  injection e' with e'
  subst e'
  exact s'
/-- the array b holds the numbers l from f on -/
def SgC (S : Shp) (h : Hp) (b f : Nat) (l : List Nat) : Prop := sK S b = 40 ∧ f + l.length ≤ sL S b ∧ sL S b ≤ 100000 ∧ ∀ i, i < l.length → AI h b (f + i) = (l.getD i 0 : Nat)
theorem SgC.mo {S : Shp} {A : Nat → Prop} {h h' : Hp} {b f : Nat} {l : List Nat} (ok : Ok S h) (m : Mo S A h h') (hn : ¬ A b) (D : SgC S h b f l) : SgC S h' b f l := ⟨D.1, D.2.1, D.2.2.1, fun i hi => by rw [m.ai ok (by have := D.1; omega) hn]; exact D.2.2.2 i hi⟩
theorem SgC.g {S : Shp} {h : Hp} {b f k : Nat} {l : List Nat} (ok : Ok S h) (D : SgC S h b f l) (hk : k < l.length) : isIA (KD h b) = true ∧ bnd (((f : Nat) : Int) + ((k : Nat) : Int)) (LN h b) := by
  have k0 := ok.kd D.1
  have l0 := ok.ln (x := b) (by have := D.1; omega) rfl
  have := D.2.1
  rw [k0, l0]
  exact ⟨rfl, by omega, by omega⟩
theorem SgC.at {S : Shp} {h : Hp} {b f k : Nat} {l : List Nat} (D : SgC S h b f l) (hk : k < l.length) : AI h b (((f : Nat) : Int) + ((k : Nat) : Int)).toNat = ((l.getD k 0 : Nat) : Int) := by
  rw [show (((f : Nat) : Int) + ((k : Nat) : Int)).toNat = f + k by omega]
  exact D.2.2.2 k hk
theorem dec_lt {v : Nat} (h : v < 10) : dec v = [48 + v] := dec1 h
/-- the answer so far -/
def TeR (S : Shp) (h : Hp) (m : Nat) (la : List Nat) : Prop := FI h 1733 m = la.length ∧ la.length ≤ 20000 ∧ ∀ i, i < la.length → AI h (sT S 1732 m) i = (la.getD i 0 : Nat)
theorem TeR.f {S : Shp} {A : Nat → Prop} {F : List Nat} {h h' : Hp} {m : Nat} {la : List Nat} (ok : Ok S h) (mo : Mo S A h h') (k : FK F m h h') (hm : sK S m = 14) (hA : ¬ A (sT S 1732 m)) (hF : 1733 ∉ F := by decide) (D : TeR S h m la) : TeR S h' m la := ⟨(k.i 1733 hF).trans D.1, D.2.1, fun i hi => by rw [mo.ai ok (by have := kT1732 ok hm; omega) hA]; exact D.2.2 i hi⟩
theorem d218_0 : dc 218 0 = some (.aload_n 0, 1) := by decide +kernel
theorem d218_1 : dc 218 1 = some (.getfield 1733, 4) := by decide +kernel
theorem d218_4 : dc 218 4 = some (.sipush 20000, 7) := by decide +kernel
theorem d218_7 : dc 218 7 = some (.if_icmp .ne ((11 : Nat) : Int), 10) := by decide +kernel
theorem d218_10 : dc 218 10 = some (.return_, 11) := by decide +kernel
theorem d218_11 : dc 218 11 = some (.aload_n 0, 12) := by decide +kernel
theorem d218_12 : dc 218 12 = some (.dload 1732, 15) := by decide +kernel
theorem d218_15 : dc 218 15 = some (.aload_n 0, 16) := by decide +kernel
theorem d218_16 : dc 218 16 = some (.getfield 1733, 19) := by decide +kernel
theorem d218_19 : dc 218 19 = some (.iload_n 1, 20) := by decide +kernel
theorem d218_20 : dc 218 20 = some (.iastore, 21) := by decide +kernel
theorem d218_21 : dc 218 21 = some (.aload_n 0, 22) := by decide +kernel
theorem d218_22 : dc 218 22 = some (.dup, 23) := by decide +kernel
theorem d218_23 : dc 218 23 = some (.getfield 1733, 26) := by decide +kernel
theorem d218_26 : dc 218 26 = some (.iconst 1, 27) := by decide +kernel
theorem d218_27 : dc 218 27 = some (.iadd, 28) := by decide +kernel
theorem d218_28 : dc 218 28 = some (.putfield 1733, 31) := by decide +kernel
theorem d218_31 : dc 218 31 = some (.return_, 32) := by decide +kernel
theorem k_M_put {S : Shp} {G : Nat → Option Nat} {d : Nat} {h : Hp} {Q : Option MV → Hp → Prop} {m : Nat} {c : Nat} {la : List Nat} (ok : Ok S h) (h1 : 0 ≤ d) (hm : sK S m = 14) (TE : TeR S h m la) (hc : c ≤ 255)
    (kk : ∀ h', Mo S (fun z => z = m ∨ z = (sT S 1732 m)) h h' → FK [1733] m h h' → TeR S h' m (addBs 20000 la [c]) → Q none h') : Cl G d 218 [vR (some m), vI (c : Nat)] h Q := by
  show Wp G d 218 0 [some (vR (some m)), some (vI (c : Nat))] [] h Q
  obtain ⟨t1, t2, t3⟩ := id TE
  have nmO : ¬ m = sT S 1732 m := fun z => ok.so.pT (f := 1732) (by decide) z.symm
  refine w_aload_n d218_0 rfl ?_
  refine w_getI (x := ((la.length : Nat) : Int)) d218_1 (ok.kd hm) t1 ?_
  refine w_sipush d218_4 (by decide) ?_
  refine w_icmpne d218_7 (fun c7 => ?_) (fun c7 => ?_)
  · have lt20 : la.length < 20000 := by omega
    have e : addBs 20000 la [c] = la ++ [c] := by rw [addBs_one]; unfold addB; rw [if_pos lt20]
    rw [e] at kk
    refine w_aload_n d218_11 rfl ?_
    refine w_dloadS d218_12 (ok.kd hm) (fr1732 ok hm) ?_
    refine w_aload_n d218_15 rfl ?_
    refine w_getI (x := ((la.length : Nat) : Int)) d218_16 (ok.kd hm) t1 ?_
    refine w_iload_n d218_19 rfl ?_
    refine wa1732 d218_20 ok hm (by omega) (by omega) (fun h20 e20 m20 => ?_)
    have e20 : h20 = sAI h (sT S 1732 m) la.length ((c : Nat) : Int) := e20
    have ok20 := m20.ok
    have M20 := Mo.tr ok (Mo.refl (A := (fun ζ => ζ = m ∨ ζ = (sT S 1732 m))) ok) m20 (fun ζ e => (Or.inr e))
    have K20 := FK.tr (F := [1733]) FK.refl (FK.of ok m20 hm (fun z => Nat.lt_irrefl _ (Nat.lt_of_lt_of_eq (ok.so.ltT (by decide)) z.symm))) (by decide)
    refine w_aload_n d218_21 rfl ?_
    refine w_dupR d218_22 ?_
    refine w_getI (x := ((la.length : Nat) : Int)) d218_23 (ok20.kd hm) ((m20.fi ok (by omega) nmO 1733).trans t1) ?_
    refine w_iconst d218_26 (by decide) ?_
    refine w_iadd d218_27 (by constructor <;> omega) ?_
    refine wf1733 d218_28 ok20 hm (by omega) (fun h28 e28 m28 => ?_)
    have ok28 := m28.ok
    have M28 := Mo.tr ok M20 m28 (fun ζ e => (Or.inl e))
    have K28 := FK.tr (F := [1733]) K20 (FK.pI e28) (by decide)
    refine w_return d218_31 ?_
    refine kk h28 M28 K28 ⟨?_, by simp; omega, fun i hi => ?_⟩
    · rw [e28, FI_sFI, if_pos ⟨rfl, rfl⟩]; simp
    · have n1 : ¬ (fun x => x = m) (sT S 1732 m) := fun z => nmO z.symm
      rw [m28.ai ok20 (by have := kT1732 ok hm; omega) n1, e20]
      show up2 (AI h) (sT S 1732 m) la.length c (sT S 1732 m) i = _
      unfold up2
      rw [List.length_append, List.length_singleton] at hi
      rw [getD_snoc]
      by_cases q : i = la.length
      · rw [if_pos ⟨rfl, q⟩, if_pos q]
      · rw [if_neg (fun z => q z.2), if_neg q]; exact t3 i (by omega)
  · have e : addBs 20000 la [c] = la := by rw [addBs_one]; unfold addB; rw [if_neg (by omega)]
    rw [e] at kk
    refine w_return d218_10 ?_
    exact kk h (Mo.refl ok) FK.refl TE
theorem kdF_spec {n : Nat} (hn : n < 10 ^ 10) : ∀ {m k : Nat}, k + m = 9 → (k = 0 ∨ 10 ^ k ≤ n) → k ≤ kdF n m k ∧ (kdF n m k = 0 ∨ 10 ^ kdF n m k ≤ n) ∧ n < 10 ^ (kdF n m k + 1)
  | 0, k, h, h0 => by
    have : k = 9 := by omega
    subst this
    exact ⟨Nat.le_refl _, h0, hn⟩
  | m + 1, k, h, h0 => by
    have p : 0 < 10 ^ k := Nat.pow_pos (by decide)
    unfold kdF
    split
    · rename_i q
      have r := kdF_spec hn (m := m) (k := k + 1) (by omega) (Or.inr (by
        have := (Nat.le_div_iff_mul_le p).mp q.2
        rw [Nat.pow_succ, Nat.mul_comm]
        exact this))
      exact ⟨by omega, r.2⟩
    · rename_i q
      refine ⟨Nat.le_refl _, h0, ?_⟩
      have q2 : ¬ 10 ≤ n / 10 ^ k := fun z => q ⟨by omega, z⟩
      rw [Nat.pow_succ, Nat.mul_comm]
      exact (Nat.div_lt_iff_lt_mul p).mp (by omega)
theorem dig_uni {n K K' : Nat} (a : (K = 0 ∨ 10 ^ K ≤ n) ∧ n < 10 ^ (K + 1)) (b : (K' = 0 ∨ 10 ^ K' ≤ n) ∧ n < 10 ^ (K' + 1)) : K = K' := by
  have f : ∀ {A B : Nat}, (A = 0 ∨ 10 ^ A ≤ n) → n < 10 ^ (B + 1) → A ≤ B := fun {A B} h1 h2 => by
    rcases h1 with h1 | h1
    · omega
    · have : 10 ^ A < 10 ^ (B + 1) := Nat.lt_of_le_of_lt h1 h2
      have := (Nat.pow_lt_pow_iff_right (by decide)).mp this
      omega
  have := f a.1 b.2
  have := f b.1 a.2
  omega
/-- a number's digits but the last are those of its tenth -/
theorem dec_rec {v : Nat} (h : 10 ≤ v) (hv : v < 10 ^ 10) : dec v = dec (v / 10) ++ [48 + v % 10] := by
  have a := kdF_spec hv (m := 9) (k := 0) rfl (Or.inl rfl)
  have b := kdF_spec (n := v / 10) (by omega) (m := 9) (k := 0) rfl (Or.inl rfl)
  have e : kdF v 9 0 = kdF (v / 10) 9 0 + 1 := by
    refine dig_uni a.2 ⟨Or.inr ?_, ?_⟩
    · rcases b.2.1 with z | z
      · rw [z]; omega
      · rw [Nat.pow_succ]; exact (Nat.le_div_iff_mul_le (by decide)).mp z
    · rw [Nat.pow_succ]; exact (Nat.div_lt_iff_lt_mul (by decide)).mp b.2.2
  unfold dec
  rw [e, dgs_snoc]
  congr 1
  · unfold dgs
    apply List.map_congr_left
    intro i hi
    have hi := List.mem_range.mp hi
    rw [show kdF (v / 10) 9 0 + 1 - i = (kdF (v / 10) 9 0 - i) + 1 by omega, Nat.pow_succ, Nat.mul_comm, Nat.div_div_eq_div_mul]
  · rw [Nat.sub_self]
    simp
theorem d219_0 : dc 219 0 = some (.iload_n 1, 1) := by decide +kernel
theorem d219_1 : dc 219 1 = some (.bipush 9, 3) := by decide +kernel
theorem d219_3 : dc 219 3 = some (.if_icmp .le ((14 : Nat) : Int), 6) := by decide +kernel
theorem d219_6 : dc 219 6 = some (.aload_n 0, 7) := by decide +kernel
theorem d219_7 : dc 219 7 = some (.iload_n 1, 8) := by decide +kernel
theorem d219_8 : dc 219 8 = some (.bipush 10, 10) := by decide +kernel
theorem d219_10 : dc 219 10 = some (.idiv, 11) := by decide +kernel
theorem d219_11 : dc 219 11 = some (.invokevirtual 219, 14) := by decide +kernel
theorem d219_14 : dc 219 14 = some (.aload_n 0, 15) := by decide +kernel
theorem d219_15 : dc 219 15 = some (.bipush 48, 17) := by decide +kernel
theorem d219_17 : dc 219 17 = some (.iload_n 1, 18) := by decide +kernel
theorem d219_18 : dc 219 18 = some (.bipush 10, 20) := by decide +kernel
theorem d219_20 : dc 219 20 = some (.irem, 21) := by decide +kernel
theorem d219_21 : dc 219 21 = some (.iadd, 22) := by decide +kernel
theorem d219_22 : dc 219 22 = some (.invokevirtual 218, 25) := by decide +kernel
theorem d219_25 : dc 219 25 = some (.return_, 26) := by decide +kernel
theorem k_M_number {S : Shp} {G : Nat → Option Nat} {d : Nat} {h : Hp} {Q : Option MV → Hp → Prop} {m : Nat} {v : Nat} {n : Nat} {la : List Nat} (ok : Ok S h) (h1 : 1 ≤ d) (hm : sK S m = 14) (hd : n + 1 ≤ d) (TE : TeR S h m la) (hv : v < 10 ^ (n + 1)) (hn : n ≤ 9)
    (kk : ∀ h', Mo S (fun z => z = m ∨ z = (sT S 1732 m)) h h' → FK [1733] m h h' → TeR S h' m (addBs 20000 la (dec v)) → Q none h') : Cl G d 219 [vR (some m), vI (v : Nat)] h Q := by
  show Wp G d 219 0 [some (vR (some m)), some (vI (v : Nat))] [] h Q
  have h10 : (10 : Nat) ^ 10 = 10000000000 := by decide
  have hle : 10 ^ (n + 1) ≤ 10 ^ 10 := Nat.pow_le_pow_right (by decide) (by omega)
  refine w_iload_n d219_0 rfl ?_
  refine w_bipush d219_1 (by decide) ?_
  refine w_icmple d219_3 (fun c3 => ?_) (fun c3 => ?_)
  · have ed : dec v = [48 + v % 10] := by rw [dec_lt (by omega), Nat.mod_eq_of_lt (by omega)]
    refine w_aload_n d219_14 rfl ?_
    refine w_bipush d219_15 (by decide) ?_
    refine w_iload_n d219_17 rfl ?_
    refine w_bipush d219_18 (by decide) ?_
    refine w_irem d219_20 (by decide) ?_
    rw [show ((v : Nat) : Int).tmod 10 = ((v % 10 : Nat) : Int) from rfl]
    refine w_iadd d219_21 (by constructor <;> omega) ?_
    rw [show (48 : Int) + ((v % 10 : Nat) : Int) = ((48 + v % 10 : Nat) : Int) by omega]
    refine w_callv2 d219_22 (by omega) rfl (ok.kd hm) (by simp) (Nat.le_of_ble_eq_true rfl) ?_
    refine k_M_put (c := (48 + v % 10)) ok (by omega) hm TE (by omega) (fun h22 m22 q22 TE => ?_)
    have ok22 := m22.ok
    have M22 := Mo.tr ok (Mo.refl (A := (fun ζ => ζ = m ∨ ζ = (sT S 1732 m))) ok) m22 (fun ζ q => q.elim ((fun ζ e => (Or.inl e)) ζ) ((fun ζ e => (Or.inr e)) ζ))
    have K22 := FK.tr (F := [1733]) FK.refl q22 (by decide)
    refine w_return d219_25 ?_
    rw [ed] at kk
    first | exact kk h22 M22 K22 TE | (rw [addBs_app] at kk; exact kk h22 M22 K22 TE)
  · have n0 : n ≠ 0 := fun z => by rw [z] at hv; omega
    have ed : dec v = dec (v / 10) ++ [48 + v % 10] := dec_rec (by omega) (by omega)
    refine w_aload_n d219_6 rfl ?_
    refine w_iload_n d219_7 rfl ?_
    refine w_bipush d219_8 (by decide) ?_
    refine w_idiv d219_10 (by decide) ?_
    rw [show ((v : Nat) : Int).tdiv 10 = ((v / 10 : Nat) : Int) from rfl]
    refine w_callv2 d219_11 (by omega) rfl (ok.kd hm) (by simp) (Nat.le_of_ble_eq_true rfl) ?_
    refine k_M_number (n := n - 1) ok (by omega) hm (by omega) TE (by rw [show n - 1 + 1 = n by omega]; rw [Nat.pow_succ] at hv; omega) (by omega) (fun h11 m11 q11 TE => ?_)
    have ok11 := m11.ok
    have M11 := Mo.tr ok (Mo.refl (A := (fun ζ => ζ = m ∨ ζ = (sT S 1732 m))) ok) m11 (fun ζ q => q.elim ((fun ζ e => (Or.inl e)) ζ) ((fun ζ e => (Or.inr e)) ζ))
    have K11 := FK.tr (F := [1733]) FK.refl q11 (by decide)
    refine w_aload_n d219_14 rfl ?_
    refine w_bipush d219_15 (by decide) ?_
    refine w_iload_n d219_17 rfl ?_
    refine w_bipush d219_18 (by decide) ?_
    refine w_irem d219_20 (by decide) ?_
    rw [show ((v : Nat) : Int).tmod 10 = ((v % 10 : Nat) : Int) from rfl]
    refine w_iadd d219_21 (by constructor <;> omega) ?_
    rw [show (48 : Int) + ((v % 10 : Nat) : Int) = ((48 + v % 10 : Nat) : Int) by omega]
    refine w_callv2 d219_22 (by omega) rfl (ok11.kd hm) (by simp) (Nat.le_of_ble_eq_true rfl) ?_
    refine k_M_put (c := (48 + v % 10)) ok11 (by omega) hm TE (by omega) (fun h22 m22 q22 TE => ?_)
    have ok22 := m22.ok
    have M22 := Mo.tr ok M11 m22 (fun ζ q => q.elim ((fun ζ e => (Or.inl e)) ζ) ((fun ζ e => (Or.inr e)) ζ))
    have K22 := FK.tr (F := [1733]) K11 q22 (by decide)
    refine w_return d219_25 ?_
    rw [ed] at kk
    first | exact kk h22 M22 K22 TE | (rw [addBs_app] at kk; exact kk h22 M22 K22 TE)
termination_by n
decreasing_by omega
theorem d217_0 : dc 217 0 = some (.iconst 0, 1) := by decide +kernel
theorem d217_1 : dc 217 1 = some (.istore_n 2, 2) := by decide +kernel
theorem d217_2 : dc 217 2 = some (.iload_n 2, 3) := by decide +kernel
theorem d217_3 : dc 217 3 = some (.aload_n 1, 4) := by decide +kernel
theorem d217_4 : dc 217 4 = some (.invokevirtual 21, 7) := by decide +kernel
theorem d217_7 : dc 217 7 = some (.if_icmp .ge ((25 : Nat) : Int), 10) := by decide +kernel
theorem d217_10 : dc 217 10 = some (.aload_n 0, 11) := by decide +kernel
theorem d217_11 : dc 217 11 = some (.aload_n 1, 12) := by decide +kernel
theorem d217_12 : dc 217 12 = some (.iload_n 2, 13) := by decide +kernel
theorem d217_13 : dc 217 13 = some (.invokevirtual 24, 16) := by decide +kernel
theorem d217_16 : dc 217 16 = some (.invokevirtual 218, 19) := by decide +kernel
theorem d217_19 : dc 217 19 = some (.iinc 2 1, 22) := by decide +kernel
theorem d217_22 : dc 217 22 = some (.goto ((2 : Nat) : Int), 25) := by decide +kernel
theorem d217_25 : dc 217 25 = some (.return_, 26) := by decide +kernel
theorem k_M_say {S : Shp} {G : Nat → Option Nat} {d : Nat} {h : Hp} {Q : Option MV → Hp → Prop} {m : Nat} {g : Nat} {la bs : List Nat} (ok : Ok S h) (h1 : 4 ≤ d) (hm : sK S m = 14) (TE : TeR S h m la) (sg : ∀ h', Ok S h' → St h' g bs)
    (kk : ∀ h', Mo S (fun z => z = m ∨ z = (sT S 1732 m)) h h' → FK [1733] m h h' → TeR S h' m (addBs 20000 la bs) → Q none h') : Cl G d 217 [vR (some m), vR (some g)] h Q := by
  show Wp G d 217 0 [some (vR (some m)), some (vR (some g)), none] [] h Q
  refine w_iconst d217_0 (by decide) ?_
  refine w_istore2 d217_1 rfl ?_
  have L2 : ∀ (m2 : Nat) (g2 : Hp) (i : Nat), bs.length - i = m2 → Mo S (fun ζ => ζ = m ∨ ζ = (sT S 1732 m)) h g2 → FK [1733] m h g2 → (TeR S g2 m (addBs 20000 la (bs.take i))) → Wp G d 217 2 [some (vR (some m)), some (vR (some g)), some (vI (i : Nat))] [] g2 Q := by
    intro m2
    induction m2 using Nat.strongRecOn with | ind m2 IH2 => ?_
    intro g2 i hm2 Mg2 Kg2 TE
    have okg2 := Mg2.ok
    refine w_iload_n d217_2 rfl ?_
    refine w_aload_n d217_3 rfl ?_
    refine w_callv1 d217_4 (by omega) rfl (sg _ okg2).1 (by simp) (Nat.le_of_ble_eq_true rfl) ?_
    refine c_Str_length (by omega) (sg _ okg2) ?_
    refine w_icmpge d217_7 (fun c7 => ?_) (fun c7 => ?_)
    · refine w_return d217_25 ?_
      rw [List.take_of_length_le (by omega)] at TE
      exact kk g2 Mg2 Kg2 TE
    · have hi : i < bs.length := by omega
      obtain ⟨-, -, v_, -, -, -, -, zc, zl⟩ := sg _ okg2
      have hc : bs.getD i 0 < 128 := zc i hi
      refine w_aload_n d217_10 rfl ?_
      refine w_aload_n d217_11 rfl ?_
      refine w_iload_n d217_12 rfl ?_
      refine w_callv2 d217_13 (by omega) rfl (sg _ okg2).1 (by simp) (Nat.le_of_ble_eq_true rfl) ?_
      refine r_charAtN (S := S) (by omega) (sg _ okg2) hi ?_
      refine w_callv2 d217_16 (by omega) rfl (okg2.kd hm) (by simp) (Nat.le_of_ble_eq_true rfl) ?_
      refine k_M_put (c := bs.getD i 0) okg2 (by omega) hm TE (by omega) (fun h16 m16 q16 TE => ?_)
      have ok16 := m16.ok
      have M16 := Mo.tr ok Mg2 m16 (fun ζ q => q.elim ((fun ζ e => (Or.inl e)) ζ) ((fun ζ e => (Or.inr e)) ζ))
      have K16 := FK.tr (F := [1733]) Kg2 q16 (by decide)
      refine w_iinc2 d217_19 rfl (by constructor <;> omega) ?_
      refine w_goto d217_22 ?_
      rw [show ((i : Nat) : Int) + 1 = ((i + 1 : Nat) : Int) by omega]
      rw [← addBs_app, ← take_succ hi] at TE
      refine w_less ?_ (IH2 _ (by omega) h16 (i + 1) rfl M16 K16 TE)
      exact ⟨Or.inr rfl, Or.inr rfl, Or.inr rfl, trivial⟩
  have M0_ := Mo.refl (A := (fun ζ => ζ = m ∨ ζ = (sT S 1732 m))) ok
  have K0_ := FK.refl (F := [1733]) (m := m) (h := h)
  refine w_less ?_ (L2 _ h 0 rfl M0_ K0_ TE)
  exact ⟨Or.inr rfl, Or.inr rfl, Or.inr rfl, trivial⟩
theorem d294_0 : dc 294 0 = some (.iconst 0, 1) := by decide +kernel
theorem d294_1 : dc 294 1 = some (.istore 4, 3) := by decide +kernel
theorem d294_3 : dc 294 3 = some (.iload 4, 5) := by decide +kernel
theorem d294_5 : dc 294 5 = some (.iload_n 3, 6) := by decide +kernel
theorem d294_6 : dc 294 6 = some (.if_icmp .ge ((41 : Nat) : Int), 9) := by decide +kernel
theorem d294_9 : dc 294 9 = some (.aload_n 0, 10) := by decide +kernel
theorem d294_10 : dc 294 10 = some (.aload_n 1, 11) := by decide +kernel
theorem d294_11 : dc 294 11 = some (.iload_n 2, 12) := by decide +kernel
theorem d294_12 : dc 294 12 = some (.iload 4, 14) := by decide +kernel
theorem d294_14 : dc 294 14 = some (.iadd, 15) := by decide +kernel
theorem d294_15 : dc 294 15 = some (.iaload, 16) := by decide +kernel
theorem d294_16 : dc 294 16 = some (.bipush 10, 18) := by decide +kernel
theorem d294_18 : dc 294 18 = some (.if_icmp .ne ((26 : Nat) : Int), 21) := by decide +kernel
theorem d294_21 : dc 294 21 = some (.bipush 124, 23) := by decide +kernel
theorem d294_23 : dc 294 23 = some (.goto ((32 : Nat) : Int), 26) := by decide +kernel
theorem d294_26 : dc 294 26 = some (.aload_n 1, 27) := by decide +kernel
theorem d294_27 : dc 294 27 = some (.iload_n 2, 28) := by decide +kernel
theorem d294_28 : dc 294 28 = some (.iload 4, 30) := by decide +kernel
theorem d294_30 : dc 294 30 = some (.iadd, 31) := by decide +kernel
theorem d294_31 : dc 294 31 = some (.iaload, 32) := by decide +kernel
theorem d294_32 : dc 294 32 = some (.invokevirtual 218, 35) := by decide +kernel
theorem d294_35 : dc 294 35 = some (.iinc 4 1, 38) := by decide +kernel
theorem d294_38 : dc 294 38 = some (.goto ((3 : Nat) : Int), 41) := by decide +kernel
theorem d294_41 : dc 294 41 = some (.return_, 42) := by decide +kernel
theorem k_M_sayBytes {S : Shp} {G : Nat → Option Nat} {d : Nat} {h : Hp} {Q : Option MV → Hp → Prop} {m : Nat} {b : Nat} {f : Nat} {n : Nat} {la l : List Nat} (ok : Ok S h) (h1 : 1 ≤ d) (hm : sK S m = 14) (TE : TeR S h m la) (hn : n = l.length) (sg : SgC S h b f l) (lt_b : b ≠ m ∧ b ≠ sT S 1732 m) (hl : ∀ c ∈ l, c ≤ 255)
    (kk : ∀ h', Mo S (fun z => z = m ∨ z = (sT S 1732 m)) h h' → FK [1733] m h h' → TeR S h' m (addBs 20000 la (l.map told)) → Q none h') : Cl G d 294 [vR (some m), vR (some b), vI (f : Nat), vI (n : Nat)] h Q := by
  show Wp G d 294 0 [some (vR (some m)), some (vR (some b)), some (vI (f : Nat)), some (vI (n : Nat)), none] [] h Q
  subst hn
  have fl : f + l.length ≤ 100000 := Nat.le_trans sg.2.1 sg.2.2.1
  refine w_iconst d294_0 (by decide) ?_
  refine w_istore4 d294_1 rfl ?_
  have L3 : ∀ (m3 : Nat) (g2 : Hp) (i : Nat), l.length - i = m3 → Mo S (fun ζ => ζ = m ∨ ζ = (sT S 1732 m)) h g2 → FK [1733] m h g2 → (TeR S g2 m (addBs 20000 la ((l.take i).map told))) → Wp G d 294 3 [some (vR (some m)), some (vR (some b)), some (vI (f : Nat)), some (vI (l.length : Nat)), some (vI (i : Nat))] [] g2 Q := by
    intro m3
    induction m3 using Nat.strongRecOn with | ind m3 IH3 => ?_
    intro g2 i hm3 Mg2 Kg2 TE
    have okg2 := Mg2.ok
    refine w_iload d294_3 rfl ?_
    refine w_iload_n d294_5 rfl ?_
    refine w_icmpge d294_6 (fun c6 => ?_) (fun c6 => ?_)
    · refine w_return d294_41 ?_
      rw [List.take_of_length_le (by omega)] at TE
      exact kk g2 Mg2 Kg2 TE
    · have hi : i < l.length := by omega
      have hc : l.getD i 0 ≤ 255 := hl _ (by rw [List.getD_eq_getElem?_getD, List.getElem?_eq_getElem hi]; exact List.getElem_mem hi)
      have sg2 := sg.mo ok Mg2 (fun z => z.elim lt_b.1 lt_b.2)
      refine w_aload_n d294_9 rfl ?_
      refine w_aload_n d294_10 rfl ?_
      refine w_iload_n d294_11 rfl ?_
      refine w_iload d294_12 rfl ?_
      refine w_iadd d294_14 (by constructor <;> omega) ?_
      refine w_ialoadV (x := ((l.getD i 0 : Nat) : Int)) d294_15 (sg2.g okg2 hi) (sg2.at hi) ?_
      refine w_bipush d294_16 (by decide) ?_
      refine w_icmpne d294_18 (fun c18 => ?_) (fun c18 => ?_)
      · have et : told (l.getD i 0) = l.getD i 0 := by unfold told; rw [if_neg (by omega)]
        refine w_aload_n d294_26 rfl ?_
        refine w_iload_n d294_27 rfl ?_
        refine w_iload d294_28 rfl ?_
        refine w_iadd d294_30 (by constructor <;> omega) ?_
        refine w_ialoadV (x := ((l.getD i 0 : Nat) : Int)) d294_31 (sg2.g okg2 hi) (sg2.at hi) ?_
        refine w_callv2 d294_32 (by omega) rfl (okg2.kd hm) (by simp) (Nat.le_of_ble_eq_true rfl) ?_
        refine k_M_put (c := l.getD i 0) okg2 (by omega) hm TE (by omega) (fun h32 m32 q32 TE => ?_)
        have ok32 := m32.ok
        have M32 := Mo.tr ok Mg2 m32 (fun ζ q => q.elim ((fun ζ e => (Or.inl e)) ζ) ((fun ζ e => (Or.inr e)) ζ))
        have K32 := FK.tr (F := [1733]) Kg2 q32 (by decide)
        refine w_iinc4 d294_35 rfl (by constructor <;> omega) ?_
        refine w_goto d294_38 ?_
        rw [show ((i : Nat) : Int) + 1 = ((i + 1 : Nat) : Int) by omega]
        have e2 : (l.take (i + 1)).map told = (l.take i).map told ++ [told (l.getD i 0)] := by rw [take_succ hi, List.map_append]; rfl
        rw [← addBs_app] at TE
        rw [et] at e2
        rw [← e2] at TE
        refine w_less ?_ (IH3 _ (by omega) h32 (i + 1) rfl M32 K32 TE)
        exact ⟨Or.inr rfl, Or.inr rfl, Or.inr rfl, Or.inr rfl, Or.inr rfl, trivial⟩
      · have et : told (l.getD i 0) = 124 := by unfold told; rw [if_pos (by omega)]
        refine w_bipush d294_21 (by decide) ?_
        refine w_goto d294_23 ?_
        refine w_callv2 d294_32 (by omega) rfl (okg2.kd hm) (by simp) (Nat.le_of_ble_eq_true rfl) ?_
        refine k_M_put (c := 124) okg2 (by omega) hm TE (by omega) (fun h32 m32 q32 TE => ?_)
        have ok32 := m32.ok
        have M32 := Mo.tr ok Mg2 m32 (fun ζ q => q.elim ((fun ζ e => (Or.inl e)) ζ) ((fun ζ e => (Or.inr e)) ζ))
        have K32 := FK.tr (F := [1733]) Kg2 q32 (by decide)
        refine w_iinc4 d294_35 rfl (by constructor <;> omega) ?_
        refine w_goto d294_38 ?_
        rw [show ((i : Nat) : Int) + 1 = ((i + 1 : Nat) : Int) by omega]
        have e2 : (l.take (i + 1)).map told = (l.take i).map told ++ [told (l.getD i 0)] := by rw [take_succ hi, List.map_append]; rfl
        rw [← addBs_app] at TE
        rw [et] at e2
        rw [← e2] at TE
        refine w_less ?_ (IH3 _ (by omega) h32 (i + 1) rfl M32 K32 TE)
        exact ⟨Or.inr rfl, Or.inr rfl, Or.inr rfl, Or.inr rfl, Or.inr rfl, trivial⟩
  have M0_ := Mo.refl (A := (fun ζ => ζ = m ∨ ζ = (sT S 1732 m))) ok
  have K0_ := FK.refl (F := [1733]) (m := m) (h := h)
  refine w_less ?_ (L3 _ h 0 rfl M0_ K0_ TE)
  exact ⟨Or.inr rfl, Or.inr rfl, Or.inr rfl, Or.inr rfl, Or.inr rfl, trivial⟩
