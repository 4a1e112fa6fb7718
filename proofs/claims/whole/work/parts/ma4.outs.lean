/-! the reference: outcomes -/
theorem sLT {S : Shp} {h : Hp} {f a n : Nat} (ok : Ok S h) (ha : sK S a = kFld f) (hk : fk f ≠ 0) (hl : fl f = n) (hn : n ≠ 0) : sL S (sT S f a) = n := ((ok.so.2.2.1 f a hk ha).2.1 (by omega)).trans hl
theorem SgC.at0 {S : Shp} {h : Hp} {b k : Nat} {l : List Nat} (D : SgC S h b 0 l) (hk : k < l.length) : AI h b k = ((l.getD k 0 : Nat) : Int) := by
  have := D.2.2.2 k hk
  rwa [Nat.zero_add] at this
theorem SgC.snoc {S : Shp} {h h' : Hp} {b f c : Nat} {l : List Nat} (D : SgC S h b f l) (e : h' = sAI h b (f + l.length) (c : Nat)) (hr : f + l.length < sL S b) : SgC S h' b f (l ++ [c]) := by
  refine ⟨D.1, by simp; omega, D.2.2.1, fun i hi => ?_⟩
  rw [List.length_append, List.length_singleton] at hi
  rw [e, getD_snoc]
  show up2 (AI h) b (f + l.length) _ b (f + i) = _
  unfold up2
  by_cases q : i = l.length
  · rw [if_pos ⟨rfl, by omega⟩, if_pos q]
  · rw [if_neg (fun z => q (by omega)), if_neg q]
    exact D.2.2.2 i (by omega)
theorem SgC.nil {S : Shp} {h : Hp} {b f : Nat} (hk : sK S b = 40) (hl : f ≤ sL S b) (hb : sL S b ≤ 100000) : SgC S h b f [] := ⟨hk, hl, hb, fun i hi => absurd hi (Nat.not_lt_zero _)⟩
/-- an outcome: what it gave, its face, why it failed -/
abbrev OmV : Type := List Nat × List Nat × List Nat
def OmC (S : Shp) (h : Hp) (o : Nat) (x : OmV) : Prop := FI h 1537 o = x.1.length ∧ FI h 1539 o = x.2.1.length ∧ FI h 1541 o = x.2.2.length ∧ SgC S h (sT S 1536 o) 0 x.1 ∧ SgC S h (sT S 1538 o) 0 x.2.1 ∧ SgC S h (sT S 1540 o) 0 x.2.2
section OMF
variable {S : Shp} {A : Nat → Prop} {h h' : Hp} {o : Nat} {x : OmV}
theorem OmC.u (ok : Ok S h) (m : Mo S A h h') (ho : sK S o = 13) (hA : ∀ y, U S o y → ¬ A y) (D : OmC S h o x) : OmC S h' o x := by
  have uT : ∀ f, f < 4096 → ¬ A (sT S f o) := fun f hf => hA _ (ok.so.uT hf U_refl)
  obtain ⟨d1, d2, d3, d4, d5, d6⟩ := D
  exact ⟨(m.fi ok (by omega) (hA _ U_refl) _).trans d1, (m.fi ok (by omega) (hA _ U_refl) _).trans d2, (m.fi ok (by omega) (hA _ U_refl) _).trans d3, d4.mo ok m (uT 1536 (by decide)), d5.mo ok m (uT 1538 (by decide)), d6.mo ok m (uT 1540 (by decide))⟩
theorem OmC.le (ok : Ok S h) (ho : sK S o = 13) (D : OmC S h o x) : x.1.length ≤ 600 ∧ x.2.1.length ≤ 600 ∧ x.2.2.length ≤ 40 := by
  have s1 := sLT ok (f := 1536) (n := 600) ho (by decide) rfl (by decide)
  have s2 := sLT ok (f := 1538) (n := 600) ho (by decide) rfl (by decide)
  have s3 := sLT ok (f := 1540) (n := 40) ho (by decide) rfl (by decide)
  have := D.2.2.2.1.2.1
  have := D.2.2.2.2.1.2.1
  have := D.2.2.2.2.2.2.1
  omega
end OMF
theorem d254_0 : dc 254 0 = some (.aload_n 0, 1) := by decide +kernel
theorem d254_1 : dc 254 1 = some (.iconst 0, 2) := by decide +kernel
theorem d254_2 : dc 254 2 = some (.putfield 1537, 5) := by decide +kernel
theorem d254_5 : dc 254 5 = some (.aload_n 0, 6) := by decide +kernel
theorem d254_6 : dc 254 6 = some (.iconst 0, 7) := by decide +kernel
theorem d254_7 : dc 254 7 = some (.putfield 1539, 10) := by decide +kernel
theorem d254_10 : dc 254 10 = some (.aload_n 0, 11) := by decide +kernel
theorem d254_11 : dc 254 11 = some (.iconst 0, 12) := by decide +kernel
theorem d254_12 : dc 254 12 = some (.putfield 1541, 15) := by decide +kernel
theorem d254_15 : dc 254 15 = some (.return_, 16) := by decide +kernel
theorem k_O_clear {S : Shp} {G : Nat → Option Nat} {d : Nat} {h : Hp} {Q : Option MV → Hp → Prop} {o : Nat}  (ok : Ok S h) (h1 : 0 ≤ d) (ho : sK S o = 13) 
    (kk : ∀ h', Mo S (fun y => y = o) h h' → OmC S h' o ([], [], []) → Q none h') : Cl G d 254 [vR (some o)] h Q := by
  show Wp G d 254 0 [some (vR (some o))] [] h Q
  have s1 := sLT ok (f := 1536) (n := 600) ho (by decide) rfl (by decide)
  have s2 := sLT ok (f := 1538) (n := 600) ho (by decide) rfl (by decide)
  have s3 := sLT ok (f := 1540) (n := 40) ho (by decide) rfl (by decide)
  have kk1 := kT1536 ok ho
  have kk2 := kT1538 ok ho
  have kk3 := kT1540 ok ho
  refine w_aload_n d254_0 rfl ?_
  refine w_iconst d254_1 (by decide) ?_
  refine wf1537 d254_2 ok ho (by omega) (fun h2 e2 m2 => ?_)
  have ok2 := m2.ok
  have M2 := Mo.tr ok (Mo.refl (A := (fun ζ => ζ = o)) ok) m2 (fun ζ e => e)
  refine w_aload_n d254_5 rfl ?_
  refine w_iconst d254_6 (by decide) ?_
  refine wf1539 d254_7 ok2 ho (by omega) (fun h7 e7 m7 => ?_)
  have ok7 := m7.ok
  have M7 := Mo.tr ok M2 m7 (fun ζ e => e)
  refine w_aload_n d254_10 rfl ?_
  refine w_iconst d254_11 (by decide) ?_
  refine wf1541 d254_12 ok7 ho (by omega) (fun h12 e12 m12 => ?_)
  have ok12 := m12.ok
  have M12 := Mo.tr ok M7 m12 (fun ζ e => e)
  refine w_return d254_15 ?_
  refine kk h12 M12 ⟨?_, ?_, ?_, SgC.nil kk1 (Nat.zero_le _) (by omega), SgC.nil kk2 (Nat.zero_le _) (by omega), SgC.nil kk3 (Nat.zero_le _) (by omega)⟩
  · rw [e12, FI_sFI, if_neg (by simp), e7, FI_sFI, if_neg (by simp), e2, FI_sFI, if_pos ⟨rfl, rfl⟩]; rfl
  · rw [e12, FI_sFI, if_neg (by simp), e7, FI_sFI, if_pos ⟨rfl, rfl⟩]; rfl
  · rw [e12, FI_sFI, if_pos ⟨rfl, rfl⟩]; rfl
theorem d255_0 : dc 255 0 = some (.aload_n 0, 1) := by decide +kernel
theorem d255_1 : dc 255 1 = some (.dload 1540, 4) := by decide +kernel
theorem d255_4 : dc 255 4 = some (.aload_n 0, 5) := by decide +kernel
theorem d255_5 : dc 255 5 = some (.getfield 1541, 8) := by decide +kernel
theorem d255_8 : dc 255 8 = some (.iload_n 1, 9) := by decide +kernel
theorem d255_9 : dc 255 9 = some (.iastore, 10) := by decide +kernel
theorem d255_10 : dc 255 10 = some (.aload_n 0, 11) := by decide +kernel
theorem d255_11 : dc 255 11 = some (.dup, 12) := by decide +kernel
theorem d255_12 : dc 255 12 = some (.getfield 1541, 15) := by decide +kernel
theorem d255_15 : dc 255 15 = some (.iconst 1, 16) := by decide +kernel
theorem d255_16 : dc 255 16 = some (.iadd, 17) := by decide +kernel
theorem d255_17 : dc 255 17 = some (.putfield 1541, 20) := by decide +kernel
theorem d255_20 : dc 255 20 = some (.return_, 21) := by decide +kernel
theorem k_O_why {S : Shp} {G : Nat → Option Nat} {d : Nat} {h : Hp} {Q : Option MV → Hp → Prop} {o : Nat} {c : Nat} {x : OmV} (ok : Ok S h) (h1 : 0 ≤ d) (ho : sK S o = 13) (OM : OmC S h o x) (hw : x.2.2.length < 40) (hc : c ≤ 255)
    (kk : ∀ h', Mo S (fun y => U S o y) h h' → OmC S h' o (x.1, x.2.1, x.2.2 ++ [c]) → Q none h') : Cl G d 255 [vR (some o), vI (c : Nat)] h Q := by
  show Wp G d 255 0 [some (vR (some o)), some (vI (c : Nat))] [] h Q
  obtain ⟨o1, o2, o3, o4, o5, o6⟩ := id OM
  have s1 := sLT ok (f := 1536) (n := 600) ho (by decide) rfl (by decide)
  have s2 := sLT ok (f := 1538) (n := 600) ho (by decide) rfl (by decide)
  have s3 := sLT ok (f := 1540) (n := 40) ho (by decide) rfl (by decide)
  have nO : ∀ f, f < 4096 → ¬ o = sT S f o := fun f hf z => ok.so.pT hf z.symm
  refine w_aload_n d255_0 rfl ?_
  refine w_dloadS d255_1 (ok.kd ho) (fr1540 ok ho) ?_
  refine w_aload_n d255_4 rfl ?_
  refine w_getI (x := ((x.2.2.length : Nat) : Int)) d255_5 (ok.kd ho) o3 ?_
  refine w_iload_n d255_8 rfl ?_
  refine wa1540 d255_9 ok ho (by omega) (by omega) (fun h9 e9 m9 => ?_)
  have e9 : h9 = sAI h (sT S 1540 o) x.2.2.length ((c : Nat) : Int) := e9
  have ok9 := m9.ok
  have M9 := Mo.tr ok (Mo.refl (A := (fun ζ => U S o ζ)) ok) m9 (fun ζ e => (e ▸ (ok.so.uT (by decide) U_refl)))
  refine w_aload_n d255_10 rfl ?_
  refine w_dupR d255_11 ?_
  refine w_getI (x := ((x.2.2.length : Nat) : Int)) d255_12 (ok9.kd ho) ((m9.fi ok (by omega) (nO 1540 (by decide)) 1541).trans o3) ?_
  refine w_iconst d255_15 (by decide) ?_
  refine w_iadd d255_16 (by constructor <;> omega) ?_
  refine wf1541 d255_17 ok9 ho (by omega) (fun h17 e17 m17 => ?_)
  have ok17 := m17.ok
  have M17 := Mo.tr ok M9 m17 (fun ζ e => (e ▸ U_refl))
  refine w_return d255_20 ?_
  have w9 : SgC S h9 (sT S 1540 o) 0 (x.2.2 ++ [c]) := o6.snoc (by rw [e9, Nat.zero_add]) (by omega)
  refine kk h17 M17 ⟨?_, ?_, ?_, ?_, ?_, ?_⟩
  · rw [e17, FI_sFI, if_neg (by simp)]; exact (m9.fi ok (by omega) (nO 1540 (by decide)) 1537).trans o1
  · rw [e17, FI_sFI, if_neg (by simp)]; exact (m9.fi ok (by omega) (nO 1540 (by decide)) 1539).trans o2
  · rw [e17, FI_sFI, if_pos ⟨rfl, rfl⟩]; simp
  · exact (o4.mo ok m9 (fun z => absurd ((ok.so.inj (by decide) (by decide)).mp z).1 (by decide))).mo ok9 m17 (fun z => ok.so.pT (f := 1536) (by decide) z)
  · exact (o5.mo ok m9 (fun z => absurd ((ok.so.inj (by decide) (by decide)).mp z).1 (by decide))).mo ok9 m17 (fun z => ok.so.pT (f := 1538) (by decide) z)
  · exact w9.mo ok9 m17 (fun z => ok.so.pT (f := 1540) (by decide) z)
theorem d253_0 : dc 253 0 = some (.aload_n 0, 1) := by decide +kernel
theorem d253_1 : dc 253 1 = some (.invokevirtual 254, 4) := by decide +kernel
theorem d253_4 : dc 253 4 = some (.iconst 0, 5) := by decide +kernel
theorem d253_5 : dc 253 5 = some (.istore_n 2, 6) := by decide +kernel
theorem d253_6 : dc 253 6 = some (.iload_n 2, 7) := by decide +kernel
theorem d253_7 : dc 253 7 = some (.aload_n 1, 8) := by decide +kernel
theorem d253_8 : dc 253 8 = some (.invokevirtual 21, 11) := by decide +kernel
theorem d253_11 : dc 253 11 = some (.if_icmp .ge ((29 : Nat) : Int), 14) := by decide +kernel
theorem d253_14 : dc 253 14 = some (.aload_n 0, 15) := by decide +kernel
theorem d253_15 : dc 253 15 = some (.aload_n 1, 16) := by decide +kernel
theorem d253_16 : dc 253 16 = some (.iload_n 2, 17) := by decide +kernel
theorem d253_17 : dc 253 17 = some (.invokevirtual 24, 20) := by decide +kernel
theorem d253_20 : dc 253 20 = some (.invokevirtual 255, 23) := by decide +kernel
theorem d253_23 : dc 253 23 = some (.iinc 2 1, 26) := by decide +kernel
theorem d253_26 : dc 253 26 = some (.goto ((6 : Nat) : Int), 29) := by decide +kernel
theorem d253_29 : dc 253 29 = some (.return_, 30) := by decide +kernel
theorem k_O_fails {S : Shp} {G : Nat → Option Nat} {d : Nat} {h : Hp} {Q : Option MV → Hp → Prop} {o : Nat} {g : Nat} {bs : List Nat} (ok : Ok S h) (h1 : 4 ≤ d) (ho : sK S o = 13) (sg : ∀ h', Ok S h' → St h' g bs) (hb : bs.length ≤ 40)
    (kk : ∀ h', Mo S (fun y => U S o y) h h' → OmC S h' o ([], [], bs) → Q none h') : Cl G d 253 [vR (some o), vR (some g)] h Q := by
  show Wp G d 253 0 [some (vR (some o)), some (vR (some g)), none] [] h Q
  refine w_aload_n d253_0 rfl ?_
  refine w_callv1 d253_1 (by omega) rfl (ok.kd ho) (by simp) (Nat.le_of_ble_eq_true rfl) ?_
  refine k_O_clear ok (by omega) ho (fun h1 m1 OM => ?_)
  have ok1 := m1.ok
  have M1 := Mo.tr ok (Mo.refl (A := (fun ζ => U S o ζ)) ok) m1 (fun ζ e => (e ▸ U_refl))
  refine w_iconst d253_4 (by decide) ?_
  refine w_istore2 d253_5 rfl ?_
  have L6 : ∀ (m6 : Nat) (g2 : Hp) (i : Nat), bs.length - i = m6 → Mo S (fun ζ => U S o ζ) h g2 → (OmC S g2 o ([], [], bs.take i)) → Wp G d 253 6 [some (vR (some o)), some (vR (some g)), some (vI (i : Nat))] [] g2 Q := by
    intro m6
    induction m6 using Nat.strongRecOn with | ind m6 IH6 => ?_
    intro g2 i hm6 Mg2 OM
    have okg2 := Mg2.ok
    refine w_iload_n d253_6 rfl ?_
    refine w_aload_n d253_7 rfl ?_
    refine w_callv1 d253_8 (by omega) rfl (sg _ okg2).1 (by simp) (Nat.le_of_ble_eq_true rfl) ?_
    refine c_Str_length (by omega) (sg _ okg2) ?_
    refine w_icmpge d253_11 (fun c11 => ?_) (fun c11 => ?_)
    · refine w_return d253_29 ?_
      rw [List.take_of_length_le (by omega)] at OM
      exact kk g2 Mg2 OM
    · have hi : i < bs.length := by omega
      obtain ⟨-, -, v_, -, -, -, -, zc, zl⟩ := sg _ okg2
      have hc : bs.getD i 0 < 128 := zc i hi
      refine w_aload_n d253_14 rfl ?_
      refine w_aload_n d253_15 rfl ?_
      refine w_iload_n d253_16 rfl ?_
      refine w_callv2 d253_17 (by omega) rfl (sg _ okg2).1 (by simp) (Nat.le_of_ble_eq_true rfl) ?_
      refine r_charAtN (S := S) (by omega) (sg _ okg2) hi ?_
      refine w_callv2 d253_20 (by omega) rfl (okg2.kd ho) (by simp) (Nat.le_of_ble_eq_true rfl) ?_
      refine k_O_why (c := bs.getD i 0) okg2 (by omega) ho OM (by show (bs.take i).length < 40; rw [List.length_take]; omega) (by omega) (fun h20 m20 OM => ?_)
      have ok20 := m20.ok
      have M20 := Mo.tr ok Mg2 m20 (fun ζ u => (U_trans U_refl u))
      refine w_iinc2 d253_23 rfl (by constructor <;> omega) ?_
      refine w_goto d253_26 ?_
      rw [show ((i : Nat) : Int) + 1 = ((i + 1 : Nat) : Int) by omega]
      rw [show (([], [], bs.take i) : OmV).2.2 ++ [bs.getD i 0] = bs.take (i + 1) from (take_succ hi).symm] at OM
      refine w_less ?_ (IH6 _ (by omega) h20 (i + 1) rfl M20 OM)
      exact ⟨Or.inr rfl, Or.inr rfl, Or.inr rfl, trivial⟩
  refine w_less ?_ (L6 _ h1 0 rfl M1 OM)
  exact ⟨Or.inr rfl, Or.inr rfl, Or.inr rfl, trivial⟩
theorem d281_0 : dc 281 0 = some (.iload_n 1, 1) := by decide +kernel
theorem d281_1 : dc 281 1 = some (.bipush 9, 3) := by decide +kernel
theorem d281_3 : dc 281 3 = some (.if_icmp .le ((14 : Nat) : Int), 6) := by decide +kernel
theorem d281_6 : dc 281 6 = some (.aload_n 0, 7) := by decide +kernel
theorem d281_7 : dc 281 7 = some (.iload_n 1, 8) := by decide +kernel
theorem d281_8 : dc 281 8 = some (.bipush 10, 10) := by decide +kernel
theorem d281_10 : dc 281 10 = some (.idiv, 11) := by decide +kernel
theorem d281_11 : dc 281 11 = some (.invokevirtual 281, 14) := by decide +kernel
theorem d281_14 : dc 281 14 = some (.aload_n 0, 15) := by decide +kernel
theorem d281_15 : dc 281 15 = some (.bipush 48, 17) := by decide +kernel
theorem d281_17 : dc 281 17 = some (.iload_n 1, 18) := by decide +kernel
theorem d281_18 : dc 281 18 = some (.bipush 10, 20) := by decide +kernel
theorem d281_20 : dc 281 20 = some (.irem, 21) := by decide +kernel
theorem d281_21 : dc 281 21 = some (.iadd, 22) := by decide +kernel
theorem d281_22 : dc 281 22 = some (.invokevirtual 255, 25) := by decide +kernel
theorem d281_25 : dc 281 25 = some (.return_, 26) := by decide +kernel
theorem k_O_number {S : Shp} {G : Nat → Option Nat} {d : Nat} {h : Hp} {Q : Option MV → Hp → Prop} {o : Nat} {v : Nat} {n : Nat} {x : OmV} (ok : Ok S h) (h1 : 1 ≤ d) (ho : sK S o = 13) (hd : n + 1 ≤ d) (OM : OmC S h o x) (hv : v < 10 ^ (n + 1)) (hn : n ≤ 9) (hr : x.2.2.length + (dec v).length ≤ 40)
    (kk : ∀ h', Mo S (fun y => U S o y) h h' → OmC S h' o (x.1, x.2.1, x.2.2 ++ dec v) → Q none h') : Cl G d 281 [vR (some o), vI (v : Nat)] h Q := by
  show Wp G d 281 0 [some (vR (some o)), some (vI (v : Nat))] [] h Q
  have h10 : (10 : Nat) ^ 10 = 10000000000 := by decide
  have hle : 10 ^ (n + 1) ≤ 10 ^ 10 := Nat.pow_le_pow_right (by decide) (by omega)
  refine w_iload_n d281_0 rfl ?_
  refine w_bipush d281_1 (by decide) ?_
  refine w_icmple d281_3 (fun c3 => ?_) (fun c3 => ?_)
  · have ed : dec v = [48 + v % 10] := by rw [dec_lt (by omega), Nat.mod_eq_of_lt (by omega)]
    rw [ed] at hr kk
    simp only [List.length_singleton] at hr
    have hr2 : x.2.2.length < 40 := by omega
    refine w_aload_n d281_14 rfl ?_
    refine w_bipush d281_15 (by decide) ?_
    refine w_iload_n d281_17 rfl ?_
    refine w_bipush d281_18 (by decide) ?_
    refine w_irem d281_20 (by decide) ?_
    rw [show ((v : Nat) : Int).tmod 10 = ((v % 10 : Nat) : Int) from rfl]
    refine w_iadd d281_21 (by constructor <;> omega) ?_
    rw [show (48 : Int) + ((v % 10 : Nat) : Int) = ((48 + v % 10 : Nat) : Int) by omega]
    refine w_callv2 d281_22 (by omega) rfl (ok.kd ho) (by simp) (Nat.le_of_ble_eq_true rfl) ?_
    refine k_O_why (c := (48 + v % 10)) ok (by omega) ho OM hr2 (by omega) (fun h22 m22 OM => ?_)
    have ok22 := m22.ok
    have M22 := Mo.tr ok (Mo.refl (A := (fun ζ => U S o ζ)) ok) m22 (fun ζ u => (U_trans U_refl u))
    refine w_return d281_25 ?_
    exact kk h22 M22 OM
  · have n0 : n ≠ 0 := fun z => by rw [z] at hv; omega
    have ed : dec v = dec (v / 10) ++ [48 + v % 10] := dec_rec (by omega) (by omega)
    rw [ed] at hr kk
    rw [List.length_append, List.length_singleton] at hr
    rw [← List.append_assoc] at kk
    refine w_aload_n d281_6 rfl ?_
    refine w_iload_n d281_7 rfl ?_
    refine w_bipush d281_8 (by decide) ?_
    refine w_idiv d281_10 (by decide) ?_
    rw [show ((v : Nat) : Int).tdiv 10 = ((v / 10 : Nat) : Int) from rfl]
    refine w_callv2 d281_11 (by omega) rfl (ok.kd ho) (by simp) (Nat.le_of_ble_eq_true rfl) ?_
    refine k_O_number (n := n - 1) ok (by omega) ho (by omega) OM (by rw [show n - 1 + 1 = n by omega]; rw [Nat.pow_succ] at hv; omega) (by omega) (by omega) (fun h11 m11 OM => ?_)
    have ok11 := m11.ok
    have M11 := Mo.tr ok (Mo.refl (A := (fun ζ => U S o ζ)) ok) m11 (fun ζ u => (U_trans U_refl u))
    have hr2 : (x.2.2 ++ dec (v / 10)).length < 40 := by rw [List.length_append]; omega
    refine w_aload_n d281_14 rfl ?_
    refine w_bipush d281_15 (by decide) ?_
    refine w_iload_n d281_17 rfl ?_
    refine w_bipush d281_18 (by decide) ?_
    refine w_irem d281_20 (by decide) ?_
    rw [show ((v : Nat) : Int).tmod 10 = ((v % 10 : Nat) : Int) from rfl]
    refine w_iadd d281_21 (by constructor <;> omega) ?_
    rw [show (48 : Int) + ((v % 10 : Nat) : Int) = ((48 + v % 10 : Nat) : Int) by omega]
    refine w_callv2 d281_22 (by omega) rfl (ok11.kd ho) (by simp) (Nat.le_of_ble_eq_true rfl) ?_
    refine k_O_why (c := (48 + v % 10)) ok11 (by omega) ho OM hr2 (by omega) (fun h22 m22 OM => ?_)
    have ok22 := m22.ok
    have M22 := Mo.tr ok M11 m22 (fun ζ u => (U_trans U_refl u))
    refine w_return d281_25 ?_
    exact kk h22 M22 OM
termination_by n
decreasing_by omega
