/-! a session: a worker takes a target -/
def zB : BeV := ((false, [], [], []), [], 0)
def tkA (P : PlV) (t : Nat) : List Nat := ahead (fix P.1) P.2.1 P.2.2 (tD P.2.2 t)
def tkI (P : PlV) (pu : Nat → OutV) (t : Nat) : List (List Nat) := inpL P.1 P.2.2 pu (tD P.2.2 t)
def tkP (P : PlV) (pu : Nat → OutV) (t : Nat) : List Int64 := ptL (tD P.2.2 t) (tkI P pu t) (tkI P pu t).length
def tkK (P : PlV) (pu : Nat → OutV) (t : Nat) : Int64 := keyW (tkP P pu t)
def tkS (P : PlV) (pu : Nat → OutV) (t : Nat) : Nat := 2 + (totL (tkI P pu t) (tkI P pu t).length + 9) / 10
def tk1 (r : RunV) (w t : Nat) (b : BeV) (y : Nat) (s : Int) : RunV := rsW (rsL (rsH (rsB r (upO (rB r) w b)) (up (rH r) w t)) (up (rL r) w s)) (upN (rW r) w y)
/-- a run behind a worker's taking -/
def tkR (P : PlV) (pu : Nat → OutV) (ks : List (Int64 × OutV)) (r : RunV) (w t : Nat) : RunV := if tkA P t ≠ [] then tk1 r w t ((false, [], [], tkA P t), [], 0) 2 1 else if 0 ≤ kfd ks (tkK P pu t) then tk1 r w t (kO ks (kfd ks (tkK P pu t)).toNat, tkP P pu t, tkK P pu t) 1 1 else if (rR r).length < 14 then rsR (tk1 r w t ((false, [], [], []), tkP P pu t, tkK P pu t) 0 (tkS P pu t : Nat)) (rR r ++ [t]) else tk1 r w t ((false, [], [], []), tkP P pu t, tkK P pu t) 0 (tkS P pu t : Nat)
/-- reasons behind it -/
def tkE (P : PlV) (pu : Nat → OutV) (pp : Nat → List Int64) (ra : Nat → Nat) (ks : List (Int64 × OutV)) (t : Nat) : Nat → Nat := if tkA P t ≠ [] then ra else if 0 ≤ kfd ks (tkK P pu t) then ra else upN ra t (rsnW (pu t).1 (tkP P pu t) (pp t))
theorem upO_2 {α : Type} {f : Nat → α} {w : Nat} {a b : α} : upO (upO f w a) w b = upO f w b := funext fun i => by
  unfold upO
  by_cases q : i = w
  · rw [if_pos q, if_pos q]
  · rw [if_neg q, if_neg q, if_neg q]
theorem up_2 {f : Nat → Int} {w : Nat} {a b : Int} : up (up f w a) w b = up f w b := funext fun i => by
  unfold up
  by_cases q : i = w
  · rw [if_pos q, if_pos q]
  · rw [if_neg q, if_neg q, if_neg q]
theorem ahead_len {F : List Nat → Int} {gs : List (List Nat × Nat)} {ts : List (Bool × TgV)} {t : TgV} (o : okI (tgI t)) : (ahead F gs ts t).length ≤ 24 := by
  have d1 : (txt 1).length = 6 := by decide
  have d2 : (txt 2).length = 10 := by decide
  have d3 : (txt 3).length = 8 := by decide
  unfold ahead
  split
  · omega
  · split
    · exact Nat.zero_le _
    · rename_i q
      have r : misI F ts t < (tgI t).length := by unfold misI; rcases srF_rg (p := misP F ts t) (n := (tgI t).length) (i := 0) with e | ⟨j, -, j2, e, -⟩ <;> rw [e] <;> omega
      have l := (o.2 (misI F ts t).toNat (by omega)).1.1
      rw [List.length_append]
      split <;> omega
theorem d102_0 : dc 102 0 = some (.iload_n 2, 1) := by decide +kernel
theorem d102_1 : dc 102 1 = some (.ifCond .lt ((15 : Nat) : Int), 4) := by decide +kernel
theorem d102_4 : dc 102 4 = some (.iload_n 2, 5) := by decide +kernel
theorem d102_5 : dc 102 5 = some (.aload_n 0, 6) := by decide +kernel
theorem d102_6 : dc 102 6 = some (.dload 770, 9) := by decide +kernel
theorem d102_9 : dc 102 9 = some (.getfield 391, 12) := by decide +kernel
theorem d102_12 : dc 102 12 = some (.if_icmp .lt ((21 : Nat) : Int), 15) := by decide +kernel
theorem d102_15 : dc 102 15 = some (.aload_n 0, 16) := by decide +kernel
theorem d102_16 : dc 102 16 = some (.iconst 1, 17) := by decide +kernel
theorem d102_17 : dc 102 17 = some (.putstatic 783, 20) := by decide +kernel
theorem d102_20 : dc 102 20 = some (.return_, 21) := by decide +kernel
theorem d102_21 : dc 102 21 = some (.aload_n 0, 22) := by decide +kernel
theorem d102_22 : dc 102 22 = some (.dload 770, 25) := by decide +kernel
theorem d102_25 : dc 102 25 = some (.dload 392, 28) := by decide +kernel
theorem d102_28 : dc 102 28 = some (.iload_n 2, 29) := by decide +kernel
theorem d102_29 : dc 102 29 = some (.aaload, 30) := by decide +kernel
theorem d102_30 : dc 102 30 = some (.astore_n 3, 31) := by decide +kernel
theorem d102_31 : dc 102 31 = some (.aload_n 0, 32) := by decide +kernel
theorem d102_32 : dc 102 32 = some (.dload 778, 35) := by decide +kernel
theorem d102_35 : dc 102 35 = some (.iload_n 1, 36) := by decide +kernel
theorem d102_36 : dc 102 36 = some (.aaload, 37) := by decide +kernel
theorem d102_37 : dc 102 37 = some (.astore 4, 39) := by decide +kernel
theorem d102_39 : dc 102 39 = some (.aload 4, 41) := by decide +kernel
theorem d102_41 : dc 102 41 = some (.invokevirtual 57, 44) := by decide +kernel
theorem d102_44 : dc 102 44 = some (.aload_n 0, 45) := by decide +kernel
theorem d102_45 : dc 102 45 = some (.dload 775, 48) := by decide +kernel
theorem d102_48 : dc 102 48 = some (.iload_n 1, 49) := by decide +kernel
theorem d102_49 : dc 102 49 = some (.iload_n 2, 50) := by decide +kernel
theorem d102_50 : dc 102 50 = some (.iastore, 51) := by decide +kernel
theorem d102_51 : dc 102 51 = some (.aload_n 0, 52) := by decide +kernel
theorem d102_52 : dc 102 52 = some (.dload 776, 55) := by decide +kernel
theorem d102_55 : dc 102 55 = some (.iload_n 1, 56) := by decide +kernel
theorem d102_56 : dc 102 56 = some (.iconst 1, 57) := by decide +kernel
theorem d102_57 : dc 102 57 = some (.iastore, 58) := by decide +kernel
theorem d102_58 : dc 102 58 = some (.aload_n 0, 59) := by decide +kernel
theorem d102_59 : dc 102 59 = some (.dload 770, 62) := by decide +kernel
theorem d102_62 : dc 102 62 = some (.iload_n 2, 63) := by decide +kernel
theorem d102_63 : dc 102 63 = some (.aload 4, 65) := by decide +kernel
theorem d102_65 : dc 102 65 = some (.dload 259, 68) := by decide +kernel
theorem d102_68 : dc 102 68 = some (.invokevirtual 103, 71) := by decide +kernel
theorem d102_71 : dc 102 71 = some (.ifCond .eq ((82 : Nat) : Int), 74) := by decide +kernel
theorem d102_74 : dc 102 74 = some (.aload_n 0, 75) := by decide +kernel
theorem d102_75 : dc 102 75 = some (.dload 777, 78) := by decide +kernel
theorem d102_78 : dc 102 78 = some (.iload_n 1, 79) := by decide +kernel
theorem d102_79 : dc 102 79 = some (.iconst 2, 80) := by decide +kernel
theorem d102_80 : dc 102 80 = some (.iastore, 81) := by decide +kernel
theorem d102_81 : dc 102 81 = some (.return_, 82) := by decide +kernel
theorem d102_82 : dc 102 82 = some (.aload_n 0, 83) := by decide +kernel
theorem d102_83 : dc 102 83 = some (.dload 768, 86) := by decide +kernel
theorem d102_86 : dc 102 86 = some (.aload_n 0, 87) := by decide +kernel
theorem d102_87 : dc 102 87 = some (.dload 770, 90) := by decide +kernel
theorem d102_90 : dc 102 90 = some (.aload_n 0, 91) := by decide +kernel
theorem d102_91 : dc 102 91 = some (.dload 769, 94) := by decide +kernel
theorem d102_94 : dc 102 94 = some (.dload 896, 97) := by decide +kernel
theorem d102_97 : dc 102 97 = some (.aload_n 3, 98) := by decide +kernel
theorem d102_98 : dc 102 98 = some (.invokevirtual 105, 101) := by decide +kernel
theorem d102_101 : dc 102 101 = some (.aload_n 0, 102) := by decide +kernel
theorem d102_102 : dc 102 102 = some (.dload 768, 105) := by decide +kernel
theorem d102_105 : dc 102 105 = some (.aload_n 3, 106) := by decide +kernel
theorem d102_106 : dc 102 106 = some (.aload 4, 108) := by decide +kernel
theorem d102_108 : dc 102 108 = some (.invokevirtual 106, 111) := by decide +kernel
theorem d102_111 : dc 102 111 = some (.aload_n 0, 112) := by decide +kernel
theorem d102_112 : dc 102 112 = some (.dload 769, 115) := by decide +kernel
theorem d102_115 : dc 102 115 = some (.aload 4, 117) := by decide +kernel
theorem d102_117 : dc 102 117 = some (.fload 262, 120) := by decide +kernel
theorem d102_120 : dc 102 120 = some (.invokevirtual 110, 123) := by decide +kernel
theorem d102_123 : dc 102 123 = some (.istore 5, 125) := by decide +kernel
theorem d102_125 : dc 102 125 = some (.iload 5, 127) := by decide +kernel
theorem d102_127 : dc 102 127 = some (.ifCond .lt ((153 : Nat) : Int), 130) := by decide +kernel
theorem d102_130 : dc 102 130 = some (.aload_n 0, 131) := by decide +kernel
theorem d102_131 : dc 102 131 = some (.dload 777, 134) := by decide +kernel
theorem d102_134 : dc 102 134 = some (.iload_n 1, 135) := by decide +kernel
theorem d102_135 : dc 102 135 = some (.iconst 1, 136) := by decide +kernel
theorem d102_136 : dc 102 136 = some (.iastore, 137) := by decide +kernel
theorem d102_137 : dc 102 137 = some (.aload 4, 139) := by decide +kernel
theorem d102_139 : dc 102 139 = some (.aload_n 0, 140) := by decide +kernel
theorem d102_140 : dc 102 140 = some (.dload 769, 143) := by decide +kernel
theorem d102_143 : dc 102 143 = some (.dload 900, 146) := by decide +kernel
theorem d102_146 : dc 102 146 = some (.iload 5, 148) := by decide +kernel
theorem d102_148 : dc 102 148 = some (.aaload, 149) := by decide +kernel
theorem d102_149 : dc 102 149 = some (.invokevirtual 111, 152) := by decide +kernel
theorem d102_152 : dc 102 152 = some (.return_, 153) := by decide +kernel
theorem d102_153 : dc 102 153 = some (.aload_n 0, 154) := by decide +kernel
theorem d102_154 : dc 102 154 = some (.dload 777, 157) := by decide +kernel
theorem d102_157 : dc 102 157 = some (.iload_n 1, 158) := by decide +kernel
theorem d102_158 : dc 102 158 = some (.iconst 0, 159) := by decide +kernel
theorem d102_159 : dc 102 159 = some (.iastore, 160) := by decide +kernel
theorem d102_160 : dc 102 160 = some (.aload_n 0, 161) := by decide +kernel
theorem d102_161 : dc 102 161 = some (.dload 776, 164) := by decide +kernel
theorem d102_164 : dc 102 164 = some (.iload_n 1, 165) := by decide +kernel
theorem d102_165 : dc 102 165 = some (.aload_n 0, 166) := by decide +kernel
theorem d102_166 : dc 102 166 = some (.dload 768, 169) := by decide +kernel
theorem d102_169 : dc 102 169 = some (.aload_n 3, 170) := by decide +kernel
theorem d102_170 : dc 102 170 = some (.invokevirtual 112, 173) := by decide +kernel
theorem d102_173 : dc 102 173 = some (.iastore, 174) := by decide +kernel
theorem d102_174 : dc 102 174 = some (.aload_n 0, 175) := by decide +kernel
theorem d102_175 : dc 102 175 = some (.dload 769, 178) := by decide +kernel
theorem d102_178 : dc 102 178 = some (.iload_n 2, 179) := by decide +kernel
theorem d102_179 : dc 102 179 = some (.aload 4, 181) := by decide +kernel
theorem d102_181 : dc 102 181 = some (.invokevirtual 113, 184) := by decide +kernel
theorem d102_184 : dc 102 184 = some (.aload_n 0, 185) := by decide +kernel
theorem d102_185 : dc 102 185 = some (.getfield 780, 188) := by decide +kernel
theorem d102_188 : dc 102 188 = some (.aload_n 0, 189) := by decide +kernel
theorem d102_189 : dc 102 189 = some (.dload 779, 192) := by decide +kernel
theorem d102_192 : dc 102 192 = some (.arraylength, 193) := by decide +kernel
theorem d102_193 : dc 102 193 = some (.if_icmp .ge ((216 : Nat) : Int), 196) := by decide +kernel
theorem d102_196 : dc 102 196 = some (.aload_n 0, 197) := by decide +kernel
theorem d102_197 : dc 102 197 = some (.dload 779, 200) := by decide +kernel
theorem d102_200 : dc 102 200 = some (.aload_n 0, 201) := by decide +kernel
theorem d102_201 : dc 102 201 = some (.getfield 780, 204) := by decide +kernel
theorem d102_204 : dc 102 204 = some (.iload_n 2, 205) := by decide +kernel
theorem d102_205 : dc 102 205 = some (.iastore, 206) := by decide +kernel
theorem d102_206 : dc 102 206 = some (.aload_n 0, 207) := by decide +kernel
theorem d102_207 : dc 102 207 = some (.dup, 208) := by decide +kernel
theorem d102_208 : dc 102 208 = some (.getfield 780, 211) := by decide +kernel
theorem d102_211 : dc 102 211 = some (.iconst 1, 212) := by decide +kernel
theorem d102_212 : dc 102 212 = some (.iadd, 213) := by decide +kernel
theorem d102_213 : dc 102 213 = some (.putfield 780, 216) := by decide +kernel
theorem d102_216 : dc 102 216 = some (.return_, 217) := by decide +kernel
theorem k_Se_take {S : Shp} {G : Nat → Option Nat} {d : Nat} {h : Hp} {Q : Option MV → Hp → Prop} {x : Nat} {w : Nat} {t : Int}  (ok : Ok S h) (h1 : 7 ≤ d) (hx : sK S x = 7) (tg : Tg S G) {P : PlV} {pu : Nat → OutV} {pp : Nat → List Int64} {re : Nat → OutV} {ed : Nat → Nat → Nat} {ra : Nat → Nat} {ks : List (Int64 × OutV)} {r : RunV} {nd : Nat → Nat} {g y : Bool} {k : Nat} (D : SesC S h x P pu pp re ed ra ks r nd g k y) (hw : w < 2) (ht : -1 ≤ t ∧ t < P.2.2.length) (hpq : ∀ t, t < 14 → (pu t).1 = true → 0 < (pp t).length) (hxw : ∀ z, U S x z → ¬ U S (sT S 1288 (sX S)) z) (hno : rl h (sT S 1152 (sT S 1288 (sX S))) = [])
    (kk : ∀ h' y', Mo S (fun z => U S x z ∨ z = sT S 1153 (sT S 1288 (sX S)) ∨ z = sT S 1156 (sT S 1288 (sX S))) h h' → ((t < 0 ∧ y' = true ∧ SesC S h' x P pu pp re ed ra ks r nd g k true) ∨ (0 ≤ t ∧ y' = y ∧ SesC S h' x P pu pp re ed (tkE P pu pp ra ks t.toNat) ks (tkR P pu ks r w t.toNat) nd g k y)) → Q none h') : Cl G d 102 [vR (some x), vI (w : Nat), vI t] h Q := by
  show Wp G d 102 0 [some (vR (some x)), some (vI (w : Nat)), some (vI t), none, none, none] [] h Q
  obtain ⟨sf, rc, dy⟩ := D.sf
  have tc := D.1.2.2
  have l14 := tc.2.1
  have kb := kE778 ok hx hw
  have kst := kT769 ok hx
  have kpl := kT770 ok hx
  have nU53 : ¬ U S x (sT S 1153 (sT S 1288 (sX S))) := fun z => hxw _ z (ok.so.uT (by decide) U_refl)
  have nU56 : ¬ U S x (sT S 1156 (sT S 1288 (sX S))) := fun z => hxw _ z (ok.so.uT (by decide) U_refl)
  have nno : ¬ (U S x (sT S 1152 (sT S 1288 (sX S))) ∨ sT S 1152 (sT S 1288 (sX S)) = sT S 1153 (sT S 1288 (sX S)) ∨ sT S 1152 (sT S 1288 (sX S)) = sT S 1156 (sT S 1288 (sX S))) := fun z => by rcases z with z | z | z; exact hxw _ z (ok.so.uT (by decide) U_refl); exact ok.so.ou (by decide) (by decide) (Or.inl (by decide)) z; exact ok.so.ou (by decide) (by decide) (Or.inl (by decide)) z
  have hPp : ∀ q, (U S (sT S 770 x) q ∨ U S (sT S 769 x) q) → ¬ U S (sT S 1288 (sX S)) q ∧ ¬ U S (sE S (sT S 778 x) w) q := fun q u => by
    have ux : U S x q := u.elim (fun u => U_trans (ok.so.uT (by decide) U_refl) u) (fun u => U_trans (ok.so.uT (by decide) U_refl) u)
    refine ⟨hxw q ux, fun v => ?_⟩
    have v2 : U S (sT S 778 x) q := U_trans (ok.so.uE (by omega) U_refl) v
    rcases u with u | u
    · exact ok.so.sib (by decide) (by decide) (by decide) u v2
    · exact ok.so.sib (by decide) (by decide) (by decide) u v2
  refine w_iload_n d102_0 rfl ?_
  refine w_iflt d102_1 (fun c1 => ?_) (fun c1 => ?_)
  · have tn : t < 0 := by omega
    refine w_aload_n d102_15 rfl ?_
    refine w_iconst d102_16 (by decide) ?_
    refine wf783 d102_17 ok hx (Or.inr rfl) (fun h17 e17 m17 => ?_)
    have ok17 := m17.ok
    have M17 := Mo.tr ok (Mo.refl (A := (fun ζ => U S x ζ ∨ ζ = (sT S 1153 (sT S 1288 (sX S))) ∨ ζ = (sT S 1156 (sT S 1288 (sX S))))) ok) m17 (fun ζ e => (Or.inl (e ▸ U_refl)))
    refine w_return d102_20 ?_
    refine kk h17 true M17 (Or.inl ⟨tn, rfl, (sf.own ok m17 hx (by rw [e17, FI_sFI, if_neg (fun z => absurd z.1 (by decide))]) (by rw [e17, FI_sFI, if_neg (fun z => absurd z.1 (by decide))])).ses (rc.own ok hx m17 (by rw [e17, FI_sFI, if_neg (fun z => absurd z.1 (by decide))]) (by rw [e17, FI_sFI, if_neg (fun z => absurd z.1 (by decide))])) (by rw [e17, FI_sFI, if_pos ⟨rfl, rfl⟩]; first | done | rfl)⟩)
  · refine w_iload_n d102_4 rfl ?_
    refine w_aload_n d102_5 rfl ?_
    refine w_dloadS d102_6 (ok.kd hx) (fr770 ok hx) ?_
    refine w_getI (x := ((P.2.2.length : Nat) : Int)) d102_9 (ok.kd (kT770 ok hx)) tc.1 ?_
    refine w_icmplt d102_12 (fun c12 => ?_) (fun c12 => ?_)
    · obtain ⟨n, rfl⟩ : ∃ n : Nat, t = (n : Int) := ⟨t.toNat, (Int.toNat_of_nonneg (by omega)).symm⟩
      have hn : n < P.2.2.length := by omega
      have tdo := (tc.2.2 n hn)
      have Dd := tdo.2.1
      have kd := kE392 ok kpl (j := n) (by omega)
      have okI1 := Dd.2.2.2.2.2.2.2.2.2.2.2.2.1
      refine w_aload_n d102_21 rfl ?_
      refine w_dloadS d102_22 (ok.kd hx) (fr770 ok hx) ?_
      refine w_dloadS d102_25 (ok.kd (kT770 ok hx)) (fr392 ok (kT770 ok hx)) ?_
      refine w_iload_n d102_28 rfl ?_
      have k29 := kE392 ok (kT770 ok hx) (j := n) (by omega)
      refine w_aaloadSN d102_29 (gi392 ok (kT770 ok hx) (by omega)) (er392 ok (kT770 ok hx) (by omega)) ?_
      refine w_astore3 d102_30 rfl ?_
      refine w_aload_n d102_31 rfl ?_
      refine w_dloadS d102_32 (ok.kd hx) (fr778 ok hx) ?_
      refine w_iload_n d102_35 rfl ?_
      have k36 := kE778 ok hx (j := w) (by omega)
      refine w_aaloadSN d102_36 (gi778 ok hx (by omega)) (er778 ok hx (by omega)) ?_
      refine w_astore4 d102_37 rfl ?_
      refine w_aload d102_39 rfl ?_
      refine w_callv1 d102_41 (by omega) rfl (ok.kd k36) (by simp) (Nat.le_of_ble_eq_true rfl) ?_
      refine k_Ou_clear ok (by omega) k36 (fun h41 m41 e41_1 e41_2 e41_3 => ?_)
      have ok41 := m41.ok
      have M41 := Mo.tr ok (Mo.refl (A := (fun ζ => U S x ζ ∨ ζ = (sT S 1153 (sT S 1288 (sX S))) ∨ ζ = (sT S 1156 (sT S 1288 (sX S))))) ok) m41 (fun z q => Or.inl (U_trans (ok.so.uE (by omega) (ok.so.uT (by decide) U_refl)) (q.u ok.so)))
      have s41 := sf.b ok m41 hx hw (fun _ q => Or.inl q)
      have r41 : RunC S h41 x (rsB r (upO (rB r) w zB)) := rc.bb ok m41 hx hw (fun _ q => Or.inl q) ⟨e41_1, e41_2, e41_3⟩
      have y41 : FI h41 783 x = b2i y := (m41.fi ok (by omega) (OA.no ok kb (by omega)) 783).trans dy
      refine w_aload_n d102_44 rfl ?_
      refine w_dloadS d102_45 (ok41.kd hx) (fr775 ok41 hx) ?_
      refine w_iload_n d102_48 rfl ?_
      refine w_iload_n d102_49 rfl ?_
      refine wa775 d102_50 ok41 hx (by omega) (by omega) (fun h50 e50 m50 => ?_)
      have e50 : h50 = sAI h41 (sT S 775 x) w ((n : Nat) : Int) := e50
      have ok50 := m50.ok
      have M50 := Mo.tr ok M41 m50 (fun ζ e => (Or.inl (e ▸ (ok.so.uT (by decide) U_refl))))
      have s50 := s41.t ok41 m50 hx (by decide) (by decide)
      have r50 := r41.w775 (v := (n : Int)) ok41 hx e50 m50
      have y50 : FI h50 783 x = b2i y := (m50.fi ok41 (by omega) (fun z => ok.so.pT (by decide) z.symm) 783).trans y41
      refine w_aload_n d102_51 rfl ?_
      refine w_dloadS d102_52 (ok50.kd hx) (fr776 ok50 hx) ?_
      refine w_iload_n d102_55 rfl ?_
      refine w_iconst d102_56 (by decide) ?_
      refine wa776 d102_57 ok50 hx (by omega) (by omega) (fun h57 e57 m57 => ?_)
      have e57 : h57 = sAI h50 (sT S 776 x) w 1 := e57
      have ok57 := m57.ok
      have M57 := Mo.tr ok M50 m57 (fun ζ e => (Or.inl (e ▸ (ok.so.uT (by decide) U_refl))))
      have s57 := s50.t ok50 m57 hx (by decide) (by decide)
      have r57 := r50.w776 (v := 1) ok50 hx e57 m57
      have y57 : FI h57 783 x = b2i y := (m57.fi ok50 (by omega) (fun z => ok.so.pT (by decide) z.symm) 783).trans y50
      refine w_aload_n d102_58 rfl ?_
      refine w_dloadS d102_59 (ok57.kd hx) (fr770 ok57 hx) ?_
      refine w_iload_n d102_62 rfl ?_
      refine w_aload d102_63 rfl ?_
      refine w_dloadS d102_65 (ok57.kd k36) (fr259 ok57 k36) ?_
      refine w_callv3 d102_68 (by omega) rfl (ok57.kd (kT770 ok57 hx)) (by simp) (Nat.le_of_ble_eq_true rfl) ?_
      have ob57 := r57.2.2.2.2.1 w hw
      refine k_Plan_failsAhead (t := n) ok57 (by omega) kpl (kT259 ok kb) tg s57.1.1 s57.1.2.1 s57.1.2.2 hn (fun u => ok.so.sib (f := 770) (g := 778) (by decide) (by decide) (by decide) u (ok.so.uT (by decide) (ok.so.uE (by omega) U_refl))) (fun h68 b68 m68 e68_1 e68_2 e68_3 => ?_)
      have ok68 := m68.ok
      have M68 := Mo.tr ok M57 m68 (fun ζ e => (Or.inl (e ▸ (ok.so.uT (by decide) (ok.so.uE (by omega) (ok.so.uT (by decide) U_refl))))))
      have why0 : rl h57 (sT S 259 (sE S (sT S 778 x) w)) = [] := by have q := ob57.1.2.2.2.1; rw [q]; show oW (if w = w then zB else rB r w).1 = []; rw [if_pos rfl]; rfl
      have al := ahead_len (F := fix P.1) (gs := P.2.1) (ts := P.2.2) okI1
      have why1 : rl h68 (sT S 259 (sE S (sT S 778 x) w)) = tkA P n := by rw [e68_2, why0]; exact addBs_fit (by have := cT259 ok57 kb; simp only [List.length_nil]; omega)
      have sub68 : ∀ z, z = sT S 259 (sE S (sT S 778 x) w) → OA S (sE S (sT S 778 x) w) z ∨ ¬ U S x z := fun z q => Or.inl (Or.inr (Or.inr (Or.inr (Or.inl q))))
      have s68 := s57.b ok57 m68 hx hw sub68
      have y68 : FI h68 783 x = b2i y := (m68.fi ok57 (by omega) (fun z => by have k5 := kT259 ok57 kb; rw [← z] at k5; omega) 783).trans y57
      have nb68 : BenC S h68 (sE S (sT S 778 x) w) ((false, [], [], tkA P n), [], 0) := by
        obtain ⟨⟨q1, q2, q3, q4, q5⟩, q6, q7⟩ := ob57
        have e0 : (if w = w then zB else rB r w) = zB := if_pos rfl
        change FI h57 256 _ = b2i (if w = w then zB else rB r w).1.1 at q1
        change rl h57 _ = oO (if w = w then zB else rB r w).1 at q2
        change rl h57 _ = oF (if w = w then zB else rB r w).1 at q3
        change PaC S h57 _ (if w = w then zB else rB r w).2.1 at q6
        change FL h57 262 _ = (if w = w then zB else rB r w).2.2 at q7
        rw [e0] at q1 q2 q3 q6 q7
        exact ⟨⟨(m68.fi ok57 (by omega) (fun z => ok.so.pT (by decide) z.symm) 256).trans q1, (m68.rb ok57 (kT257 ok57 kb) (ok.so.ou (by decide) (by decide) (Or.inl (by decide)))).trans q2, (m68.rb ok57 (kT258 ok57 kb) (ok.so.ou (by decide) (by decide) (Or.inl (by decide)))).trans q3, why1, Nat.zero_le _, Nat.zero_le _, by show (tkA P n).length ≤ 600; exact Nat.le_trans al (by decide)⟩, q6.mo ok57 m68 kb (fun z => ok.so.pT (by decide) z.symm) (ok.so.ou (by decide) (by decide) (Or.inl (by decide))), (m68.fl ok57 (by omega) (fun z => ok.so.pT (by decide) z.symm) 262).trans q7⟩
      have r68 : RunC S h68 x (rsL (rsH (rsB r (upO (rB r) w ((false, [], [], tkA P n), [], 0))) (up (rH r) w n)) (up (rL r) w 1)) := by
        have q := r57.bb ok57 m68 hx hw sub68 nb68
        change RunC S h68 x (rsL (rsH (rsB r (upO (upO (rB r) w zB) w ((false, [], [], tkA P n), [], 0))) (up (rH r) w n)) (up (rL r) w 1)) at q
        rw [upO_2] at q
        exact q
      refine w_ifeq d102_71 (fun c71 => ?_) (fun c71 => ?_)
      · have na : ¬ tkA P n ≠ [] := fun q => by have := e68_1.mpr q; rw [this] at c71; exact absurd c71 (by decide)
        have na2 : tkA P n = [] := by cases q : tkA P n with
          | nil => rfl
          | cons a l => exact absurd (by rw [q]; exact List.cons_ne_nil a l) na
        rw [na2] at r68 nb68
        refine w_aload_n d102_82 rfl ?_
        refine w_dloadS d102_83 (ok68.kd hx) (ok68.frW hx) ?_
        refine w_aload_n d102_86 rfl ?_
        refine w_dloadS d102_87 (ok68.kd hx) (fr770 ok68 hx) ?_
        refine w_aload_n d102_90 rfl ?_
        refine w_dloadS d102_91 (ok68.kd hx) (fr769 ok68 hx) ?_
        refine w_dloadS d102_94 (ok68.kd (kT769 ok68 hx)) (fr896 ok68 (kT769 ok68 hx)) ?_
        refine w_aload_n d102_97 rfl ?_
        refine w_callv4 d102_98 (by omega) rfl (ok68.kd ok68.kW) (by simp) (Nat.le_of_ble_eq_true rfl) ?_
        have st68 := s68.2.1
        have M68x := M68
        have Dd68 := (s68.1.2.2.2.2 n hn).2.1
        have hno68 : rl h68 (sT S 1152 (sT S 1288 (sX S))) = [] := (M68.rb ok (kT1152 ok ok.kW) nno).trans hno
        refine k_Wk_load (s := (sT S 769 x)) (t := tD P.2.2 n) ok68 (by omega) ok68.kW kpl kd kst s68.1.1 s68.1.2.2 st68.1 Dd68 hno68 (fun z u v => hxw z (U_trans (ok.so.uT (by decide) U_refl) u) v) (fun z u v => hxw z (U_trans (ok.so.uT (by decide) U_refl) u) v) (fun h98 m98 e98_1 => ?_)
        have ok98 := m98.ok
        have M98 := Mo.tr ok M68 m98 (fun ζ e => (Or.inr (Or.inl e)))
        have s98 := s68.b ok68 m98 hx hw (fun z q => Or.inr (q ▸ nU53))
        have r98 := r68.far ok68 m98 hx (fun z q => q ▸ nU53)
        have y98 : FI h98 783 x = b2i y := (m98.fi ok68 (by omega) (fun z => nU53 (z ▸ U_refl)) 783).trans y68
        have nb98 : BenC S h98 (sE S (sT S 778 x) w) ((false, [], [], []), [], 0) := nb68.f ok68 m98 kb ⟨fun z => nU53 (z ▸ ok.so.uE (by omega) (ok.so.uT (by decide) U_refl)), fun f f1 f2 z => nU53 (z ▸ ok.so.uT (by omega) (ok.so.uE (by omega) (ok.so.uT (by decide) U_refl)))⟩
        have hin : (tkI P pu n).length = (tgI (tD P.2.2 n)).length := inpL_len _ _ _ _
        refine w_aload_n d102_101 rfl ?_
        refine w_dloadS d102_102 (ok98.kd hx) (ok98.frW hx) ?_
        refine w_aload_n d102_105 rfl ?_
        refine w_aload d102_106 rfl ?_
        refine w_callv3 d102_108 (by omega) rfl (ok98.kd ok98.kW) (by simp) (Nat.le_of_ble_eq_true rfl) ?_
        have Dd98 := (s98.1.2.2.2.2 n hn).2.1
        refine k_Wk_setParts (t := tD P.2.2 n) (ins := tkI P pu n) ok98 (by omega) ok98.kW kd kb Dd98 e98_1 hin hPp nb98.2.1 (fun u => hxw _ (ok.so.uE (by omega) (ok.so.uT (by decide) U_refl) : U S x (sE S (sT S 778 x) w)) u) (fun h108 m108 e108_1 e108_2 e108_3 => ?_)
        have ok108 := m108.ok
        have M108 := Mo.tr ok M98 m108 (fun z q => by rcases q with q | q | q | q | q | q; exact Or.inl (q ▸ ok.so.uE (by omega) (ok.so.uT (by decide) U_refl)); exact Or.inl (q ▸ ok.so.uT (by decide) (ok.so.uE (by omega) (ok.so.uT (by decide) U_refl))); exact Or.inl (q ▸ ok.so.uT (by decide) (ok.so.uE (by omega) (ok.so.uT (by decide) U_refl))); exact Or.inl (q ▸ ok.so.uT (by decide) (ok.so.uE (by omega) (ok.so.uT (by decide) U_refl))); exact Or.inl (q ▸ ok.so.uT (by decide) (ok.so.uE (by omega) (ok.so.uT (by decide) U_refl))); exact Or.inr (Or.inr q))
        have sub108 : ∀ z, (z = (sE S (sT S 778 x) w) ∨ z = sT S 257 (sE S (sT S 778 x) w) ∨ z = sT S 258 (sE S (sT S 778 x) w) ∨ z = sT S 259 (sE S (sT S 778 x) w) ∨ z = sT S 260 (sE S (sT S 778 x) w) ∨ z = sT S 1156 (sT S 1288 (sX S))) → OA S (sE S (sT S 778 x) w) z ∨ ¬ U S x z := fun z q => by rcases q with q | q | q | q | q | q; exact Or.inl (Or.inl q); exact Or.inl (Or.inr (Or.inl q)); exact Or.inl (Or.inr (Or.inr (Or.inl q))); exact Or.inl (Or.inr (Or.inr (Or.inr (Or.inl q)))); exact Or.inl (Or.inr (Or.inr (Or.inr (Or.inr q)))); exact Or.inr (q ▸ nU56)
        have s108 := s98.b ok98 m108 hx hw sub108
        have nb108 : BenC S h108 (sE S (sT S 778 x) w) ((false, [], [], []), tkP P pu n, tkK P pu n) := ⟨e108_3 _ nb98.1, e108_1, e108_2⟩
        have r108 : RunC S h108 x (rsL (rsH (rsB r (upO (rB r) w ((false, [], [], []), tkP P pu n, tkK P pu n))) (up (rH r) w n)) (up (rL r) w 1)) := by
          have q := r98.bb ok98 m108 hx hw sub108 nb108
          change RunC S h108 x (rsL (rsH (rsB r (upO (upO (rB r) w ((false, [], [], []), [], 0)) w ((false, [], [], []), tkP P pu n, tkK P pu n))) (up (rH r) w n)) (up (rL r) w 1)) at q
          rw [upO_2] at q
          exact q
        have nx108 : ¬ (x = (sE S (sT S 778 x) w) ∨ x = sT S 257 (sE S (sT S 778 x) w) ∨ x = sT S 258 (sE S (sT S 778 x) w) ∨ x = sT S 259 (sE S (sT S 778 x) w) ∨ x = sT S 260 (sE S (sT S 778 x) w) ∨ x = sT S 1156 (sT S 1288 (sX S))) := fun z => (sub108 x z).elim (fun z => absurd (z.kind ok kb) (by omega)) (fun z => z U_refl)
        have y108 : FI h108 783 x = b2i y := (m108.fi ok98 (by omega) nx108 783).trans y98
        have ic108 : InsC S h108 (sT S 1288 (sX S)) (fun z => U S (sT S 770 x) z ∨ U S (sT S 769 x) z) (tkI P pu n) := e98_1.f ok98 m108 ok.kW (fun z => by have k5 := kT1153 ok ok.kW; rcases z with z | z | z | z | z | z <;> (try (have k7 := kT257 ok kb; have k8 := kT258 ok kb; have k9 := kT259 ok kb; have k0 := kT260 ok kb; have k6 := kT1156 ok ok.kW; rw [z] at k5; omega))) (fun z => by have k5 := kT1152 ok ok.kW; rcases z with z | z | z | z | z | z; (rw [z] at k5; omega); exact ok.so.ou (by decide) (by decide) (Or.inl (by decide)) z; exact ok.so.ou (by decide) (by decide) (Or.inl (by decide)) z; exact ok.so.ou (by decide) (by decide) (Or.inl (by decide)) z; exact ok.so.ou (by decide) (by decide) (Or.inl (by decide)) z; exact ok.so.ou (by decide) (by decide) (Or.inl (by decide)) z) (fun q k6 q1 q2 => by obtain ⟨p1, p2⟩ := hPp q q1; rcases q2 with z | z | z | z | z | z; exact p2 (z ▸ U_refl); exact p2 (z ▸ ok.so.uT (by decide) U_refl); exact p2 (z ▸ ok.so.uT (by decide) U_refl); exact p2 (z ▸ ok.so.uT (by decide) U_refl); exact p2 (z ▸ ok.so.uT (by decide) U_refl); exact p1 (z ▸ ok.so.uT (by decide) U_refl))
        refine w_aload_n d102_111 rfl ?_
        refine w_dloadS d102_112 (ok108.kd hx) (fr769 ok108 hx) ?_
        refine w_aload d102_115 rfl ?_
        refine w_floadV (x := (tkK P pu n)) d102_117 (ok108.kd k36) nb108.2.2 ?_
        refine w_callv2 d102_120 (by omega) rfl (ok108.kd (kT769 ok108 hx)) (by simp) (Nat.le_of_ble_eq_true rfl) ?_
        have st108 := s108.2.1
        have kr := kfd_rg ks (tkK P pu n)
        refine k_St_find ok108 (by omega) kst st108.2.2.2 ?_
        refine w_istore5 d102_123 rfl ?_
        refine w_iload d102_125 rfl ?_
        refine w_iflt d102_127 (fun c127 => ?_) (fun c127 => ?_)
        · have nk : ¬ 0 ≤ kfd ks (tkK P pu n) := by omega
          refine w_aload_n d102_153 rfl ?_
          refine w_dloadS d102_154 (ok108.kd hx) (fr777 ok108 hx) ?_
          refine w_iload_n d102_157 rfl ?_
          refine w_iconst d102_158 (by decide) ?_
          refine wa777 d102_159 ok108 hx (by omega) (by omega) (fun h159 e159 m159 => ?_)
          have e159 : h159 = sAI h108 (sT S 777 x) w 0 := e159
          have ok159 := m159.ok
          have M159 := Mo.tr ok M108 m159 (fun ζ e => (Or.inl (e ▸ (ok.so.uT (by decide) U_refl))))
          have s159 := s108.t ok108 m159 hx (by decide) (by decide)
          have r159 := r108.w777 (v := 0) ok108 hx e159 m159
          have nU77 : ∀ z, z = sT S 777 x → ¬ U S (sT S 1288 (sX S)) z := fun z q u => hxw z (q ▸ ok.so.uT (by decide) U_refl) u
          refine w_aload_n d102_160 rfl ?_
          refine w_dloadS d102_161 (ok159.kd hx) (fr776 ok159 hx) ?_
          refine w_iload_n d102_164 rfl ?_
          refine w_aload_n d102_165 rfl ?_
          refine w_dloadS d102_166 (ok159.kd hx) (ok159.frW hx) ?_
          refine w_aload_n d102_169 rfl ?_
          refine w_callv2 d102_170 (by omega) rfl (ok159.kd ok159.kW) (by simp) (Nat.le_of_ble_eq_true rfl) ?_
          have ic159 := ic108.f ok108 m159 ok.kW (fun z => nU77 _ z (ok.so.uT (by decide) U_refl)) (fun z => nU77 _ z (ok.so.uT (by decide) U_refl)) (fun q k6 q1 z => by have k7 := kT777 ok hx; rw [← z] at k7; omega)
          have Dd159 := (s159.1.2.2.2.2 n hn).2.1
          refine k_Wk_steps (t := tD P.2.2 n) (ins := tkI P pu n) ok159 (by omega) ok159.kW kd Dd159 ic159 hin ?_
          have ts4 : tkS P pu n ≤ 362 := by
            have := totL_le (ins := tkI P pu n) (n := (tkI P pu n).length) (fun i hi => (by obtain ⟨r, q1, q2, q3, q4, q5⟩ := ic108.2 i hi; exact q5))
            have l6 := ic108.1
            unfold tkS
            omega
          rw [show (2 + (totL (tkI P pu n) (tkI P pu n).length + 9) / 10) = tkS P pu n from rfl]
          refine wa776 d102_173 ok159 hx (by omega) (by omega) (fun h173 e173 m173 => ?_)
          have e173 : h173 = sAI h159 (sT S 776 x) w (((tkS P pu n) : Nat) : Int) := e173
          have ok173 := m173.ok
          have M173 := Mo.tr ok M159 m173 (fun ζ e => (Or.inl (e ▸ (ok.so.uT (by decide) U_refl))))
          have s173 := s159.t ok159 m173 hx (by decide) (by decide)
          have r173 : RunC S h173 x (tk1 r w n ((false, [], [], []), tkP P pu n, tkK P pu n) 0 (tkS P pu n : Nat)) := by
            have q := r159.w776 (v := (tkS P pu n : Nat)) ok159 hx e173 m173
            change RunC S h173 x (rsW (rsL (rsH (rsB r (upO (rB r) w ((false, [], [], []), tkP P pu n, tkK P pu n))) (up (rH r) w n)) (up (up (rL r) w 1) w (tkS P pu n : Nat))) (upN (rW r) w 0)) at q
            rw [up_2] at q
            exact q
          refine w_aload_n d102_174 rfl ?_
          refine w_dloadS d102_175 (ok173.kd hx) (fr769 ok173 hx) ?_
          refine w_iload_n d102_178 rfl ?_
          refine w_aload d102_179 rfl ?_
          refine w_callv3 d102_181 (by omega) rfl (ok173.kd (kT769 ok173 hx)) (by simp) (Nat.le_of_ble_eq_true rfl) ?_
          have nb173 : PaC S h173 (sE S (sT S 778 x) w) (tkP P pu n) := (nb108.2.1.f ok108 m159 kb (OFr.t ok.so (by decide) (Or.inr (by decide)) (by omega))).f ok159 m173 kb (OFr.t ok.so (by decide) (Or.inr (by decide)) (by omega))
          refine k_St_setReason ok173 (by omega) kst kb s173.2.1 nb173 (by have := ptL_len (t := tD P.2.2 n) (ins := tkI P pu n) (tkI P pu n).length; show 0 < (ptL _ _ _).length; omega) (by omega) (hpq n (by omega)) (fun h181 m181 e181_1 => ?_)
          have ok181 := m181.ok
          have M181 := Mo.tr ok M173 m181 (fun ζ e => (Or.inl (e ▸ (ok.so.uT (by decide) (ok.so.uT (by decide) U_refl)))))
          have s181 := s173.st ok173 m181 hx (fun z q => q ▸ ok.so.uT (by decide) U_refl) e181_1
          have r181 := r173.sib ok173 m181 hx ⟨(by decide : 769 < 4096), by decide⟩ (fun z q => q ▸ ok.so.uT (by decide) U_refl)
          have y181 : FI h181 783 x = b2i y := by rw [m181.fi ok173 (by omega) (fun z => by have k5 := kT899 ok kst; rw [← z] at k5; omega) 783, m173.fi ok159 (by omega) (fun z => ok.so.pT (by decide) z.symm) 783, m159.fi ok108 (by omega) (fun z => ok.so.pT (by decide) z.symm) 783]; exact y108
          have eE : tkE P pu pp ra ks n = upN ra n (rsnW (pu n).1 (tkP P pu n) (pp n)) := by unfold tkE; rw [if_neg na, if_neg nk]
          refine w_aload_n d102_184 rfl ?_
          refine w_getI (x := (((rR r).length : Nat) : Int)) d102_185 (ok181.kd hx) r181.2.2.2.2.2.1.1 ?_
          refine w_aload_n d102_188 rfl ?_
          refine w_dloadS d102_189 (ok181.kd hx) (fr779 ok181 hx) ?_
          refine wl779 d102_192 ok181 hx ?_
          refine w_icmpge d102_193 (fun c193 => ?_) (fun c193 => ?_)
          · have fl14 : ¬ (rR r).length < 14 := by omega
            refine w_return d102_216 ?_
            refine kk h181 y M181 (Or.inr ⟨by omega, rfl, SfC.ses (by show SfC _ _ _ _ _ _ _ _ (tkE P pu pp ra ks n) _ _ _ _; rw [eE]; exact s181) (by show RunC _ _ _ (tkR P pu ks r w n); unfold tkR; rw [if_neg na, if_neg nk, if_neg fl14]; exact r181) (y181)⟩)
          · have tl14 : (rR r).length < 14 := by omega
            refine w_aload_n d102_196 rfl ?_
            refine w_dloadS d102_197 (ok181.kd hx) (fr779 ok181 hx) ?_
            refine w_aload_n d102_200 rfl ?_
            refine w_getI (x := (((rR r).length : Nat) : Int)) d102_201 (ok181.kd hx) r181.2.2.2.2.2.1.1 ?_
            refine w_iload_n d102_204 rfl ?_
            refine wa779 d102_205 ok181 hx (by omega) (by omega) (fun h205 e205 m205 => ?_)
            have e205 : h205 = sAI h181 (sT S 779 x) (rR r).length ((n : Nat) : Int) := e205
            have ok205 := m205.ok
            have M205 := Mo.tr ok M181 m205 (fun ζ e => (Or.inl (e ▸ (ok.so.uT (by decide) U_refl))))
            refine w_aload_n d102_206 rfl ?_
            refine w_dupR d102_207 ?_
            refine w_getI (x := (((rR r).length : Nat) : Int)) d102_208 (ok205.kd hx) ((m205.fi ok181 (by omega) (fun z => ok.so.pT (by decide) z.symm) 780).trans r181.2.2.2.2.2.1.1) ?_
            refine w_iconst d102_211 (by decide) ?_
            refine w_iadd d102_212 (by constructor <;> omega) ?_
            refine wf780 d102_213 ok205 hx (by omega) (fun h213 e213 m213 => ?_)
            have ok213 := m213.ok
            have M213 := Mo.tr ok M205 m213 (fun ζ e => (Or.inl (e ▸ U_refl)))
            refine w_return d102_216 ?_
            have mm : Mo S (fun z => z = x ∨ z = sT S 779 x) h181 h213 := Mo.tr ok181 (Mo.tr ok181 (Mo.refl ok181) m205 (fun _ q => Or.inr q)) m213 (fun _ q => Or.inl q)
            have s213 := (s181.t ok181 m205 hx (by decide) (by decide)).own ok205 m213 hx (by rw [e213, FI_sFI, if_neg (fun z => absurd z.1 (by decide))]) (by rw [e213, FI_sFI, if_neg (fun z => absurd z.1 (by decide))])
            have r213 := RunC.wR (r := tk1 r w n ((false, [], [], []), tkP P pu n, tkK P pu n) 0 (tkS P pu n : Nat)) (v := n) ok181 hx tl14 mm (by rw [e213, FI_sFI, if_pos ⟨rfl, rfl⟩]; first | done | rfl) (by rw [e213, FI_sFI, if_neg (fun z => absurd z.1 (by decide)), m205.fi ok181 (by omega) (fun z => ok.so.pT (by decide) z.symm) 782]) (fun i => by rw [e213]; show AI h205 _ i = _; rw [e205, sArr]; first | done | rfl) r181
            refine kk h213 y M213 (Or.inr ⟨by omega, rfl, SfC.ses (by show SfC _ _ _ _ _ _ _ _ (tkE P pu pp ra ks n) _ _ _ _; rw [eE]; exact s213) (by show RunC _ _ _ (tkR P pu ks r w n); unfold tkR; rw [if_neg na, if_neg nk, if_pos tl14]; exact r213) (by rw [e213, FI_sFI, if_neg (fun z => absurd z.1 (by decide)), m205.fi ok181 (by omega) (fun z => ok.so.pT (by decide) z.symm) 783]; exact y181)⟩)
        · have yk : 0 ≤ kfd ks (tkK P pu n) := by omega
          obtain ⟨q, hq⟩ : ∃ q : Nat, kfd ks (tkK P pu n) = q := ⟨_, (Int.toNat_of_nonneg yk).symm⟩
          rw [hq]
          have ql : q < ks.length := by omega
          obtain ⟨σ, s1, s2, q1, q2, q4, q3⟩ := st108.2.2.2
          have sq := (s1 q (by omega)).1
          have K900 := kT900 ok kst
          have k9 := k900 ok kst sq
          refine w_aload_n d102_130 rfl ?_
          refine w_dloadS d102_131 (ok108.kd hx) (fr777 ok108 hx) ?_
          refine w_iload_n d102_134 rfl ?_
          refine w_iconst d102_135 (by decide) ?_
          refine wa777 d102_136 ok108 hx (by omega) (by omega) (fun h136 e136 m136 => ?_)
          have e136 : h136 = sAI h108 (sT S 777 x) w 1 := e136
          have ok136 := m136.ok
          have M136 := Mo.tr ok M108 m136 (fun ζ e => (Or.inl (e ▸ (ok.so.uT (by decide) U_refl))))
          have s136 := s108.t ok108 m136 hx (by decide) (by decide)
          have r136 := r108.w777 (v := 1) ok108 hx e136 m136
          refine w_aload d102_137 rfl ?_
          refine w_aload_n d102_139 rfl ?_
          refine w_dloadS d102_140 (ok136.kd hx) (fr769 ok136 hx) ?_
          refine w_dloadS d102_143 (ok136.kd (kT769 ok136 hx)) (fr900 ok136 (kT769 ok136 hx)) ?_
          refine w_iload d102_146 rfl ?_
          refine w_aaloadSN d102_148 ⟨by rw [ok136.kd K900]; decide, by rw [(ok136.st.1 _ (by omega)).2]; exact ⟨by omega, by omega⟩⟩ ((congrFun (m136.ar ok108 (by omega) (fun z => ok.so.nUT (f := 769) (g := 777) (by decide) (by decide) (by decide) (z ▸ ok.so.uT (by decide) U_refl))) q).trans (s1 q (by omega)).2) ?_
          refine w_callv2 d102_149 (by omega) rfl (ok136.kd k36) (by simp) (Nat.le_of_ble_eq_true rfl) ?_
          have ou136 : OuC S h136 (sE S (sT S 900 (sT S 769 x)) (σ q)) (kO ks q) := (q3 q ql).2.f ok108 m136 k9 (OFr.t ok.so (by decide) (Or.inr (by decide)) (by omega))
          have nbk : (sE S (sT S 778 x) w) ≠ sE S (sT S 900 (sT S 769 x)) (σ q) := fun z => ok.so.sib (f := 769) (g := 778) (by decide) (by decide) (by decide) (ok.so.uE (by omega) (ok.so.uT (by decide) U_refl) : U S (sT S 769 x) (sE S (sT S 900 (sT S 769 x)) (σ q))) (z ▸ ok.so.uE (by omega) U_refl)
          have nb136 := r136.2.2.2.2.1 w hw
          refine k_Ou_takeResult ok136 (by omega) kb k9 ou136 nbk (fun h149 m149 e149_1 e149_2 e149_3 => ?_)
          have ok149 := m149.ok
          have M149 := Mo.tr ok M136 m149 (fun z q => Or.inl (U_trans (ok.so.uE (by omega) (ok.so.uT (by decide) U_refl)) (q.u ok.so)))
          refine w_return d102_152 ?_
          have s149 := s136.b ok136 m149 hx hw (fun _ z => Or.inl z)
          have pk136 : PaC S h136 (sE S (sT S 778 x) w) (tkP P pu n) ∧ FL h136 262 (sE S (sT S 778 x) w) = tkK P pu n := by
            have q6 := nb136.2.1
            have q7 := nb136.2.2
            change PaC S h136 _ (if w = w then ((false, [], [], []), tkP P pu n, tkK P pu n) else rB r w : BeV).2.1 at q6
            change FL h136 262 _ = (if w = w then ((false, [], [], []), tkP P pu n, tkK P pu n) else rB r w : BeV).2.2 at q7
            rw [if_pos rfl] at q6 q7
            exact ⟨q6, q7⟩
          have r149 : RunC S h149 x (tk1 r w n (kO ks q, tkP P pu n, tkK P pu n) 1 1) := by
            have z := r136.bb (bv := (kO ks q, tkP P pu n, tkK P pu n)) ok136 m149 hx hw (fun _ z => Or.inl z) ⟨e149_1, e149_2 _ pk136.1, e149_3.trans pk136.2⟩
            change RunC S h149 x (rsW (rsL (rsH (rsB r (upO (upO (rB r) w ((false, [], [], []), tkP P pu n, tkK P pu n)) w (kO ks q, tkP P pu n, tkK P pu n))) (up (rH r) w n)) (up (rL r) w 1)) (upN (rW r) w 1)) at z
            rw [upO_2] at z
            exact z
          refine kk h149 y M149 (Or.inr ⟨by omega, rfl, SfC.ses (by show SfC _ _ _ _ _ _ _ _ (tkE P pu pp ra ks n) _ _ _ _; unfold tkE; rw [if_neg na, if_pos yk]; exact s149) (by show RunC _ _ _ (tkR P pu ks r w n); unfold tkR; rw [if_neg na, if_pos yk, hq]; exact r149) ((m149.fi ok136 (by omega) (OA.no ok136 kb (by omega)) 783).trans ((m136.fi ok108 (by omega) (fun z => ok.so.pT (by decide) z.symm) 783).trans y108))⟩)
      · have ya : tkA P n ≠ [] := e68_1.mp (by cases z : b68 with
          | true => rfl
          | false => rw [z] at c71; exact absurd rfl c71)
        refine w_aload_n d102_74 rfl ?_
        refine w_dloadS d102_75 (ok68.kd hx) (fr777 ok68 hx) ?_
        refine w_iload_n d102_78 rfl ?_
        refine w_iconst d102_79 (by decide) ?_
        refine wa777 d102_80 ok68 hx (by omega) (by omega) (fun h80 e80 m80 => ?_)
        have e80 : h80 = sAI h68 (sT S 777 x) w 2 := e80
        have ok80 := m80.ok
        have M80 := Mo.tr ok M68 m80 (fun ζ e => (Or.inl (e ▸ (ok.so.uT (by decide) U_refl))))
        have s80 := s68.t ok68 m80 hx (by decide) (by decide)
        have r80 := r68.w777 (v := 2) ok68 hx e80 m80
        refine w_return d102_81 ?_
        refine kk h80 y M80 (Or.inr ⟨by omega, rfl, SfC.ses (by show SfC _ _ _ _ _ _ _ _ (tkE P pu pp ra ks n) _ _ _ _; unfold tkE; rw [if_pos ya]; exact s80) (by show RunC _ _ _ (tkR P pu ks r w n); unfold tkR; rw [if_pos ya]; exact r80) ((m80.fi ok68 (by omega) (fun z => ok.so.pT (by decide) z.symm) 783).trans y68)⟩)
    · have tn : t < 0 := by omega
      refine w_aload_n d102_15 rfl ?_
      refine w_iconst d102_16 (by decide) ?_
      refine wf783 d102_17 ok hx (Or.inr rfl) (fun h17 e17 m17 => ?_)
      have ok17 := m17.ok
      have M17 := Mo.tr ok (Mo.refl (A := (fun ζ => U S x ζ ∨ ζ = (sT S 1153 (sT S 1288 (sX S))) ∨ ζ = (sT S 1156 (sT S 1288 (sX S))))) ok) m17 (fun ζ e => (Or.inl (e ▸ U_refl)))
      refine w_return d102_20 ?_
      refine kk h17 true M17 (Or.inl ⟨tn, rfl, (sf.own ok m17 hx (by rw [e17, FI_sFI, if_neg (fun z => absurd z.1 (by decide))]) (by rw [e17, FI_sFI, if_neg (fun z => absurd z.1 (by decide))])).ses (rc.own ok hx m17 (by rw [e17, FI_sFI, if_neg (fun z => absurd z.1 (by decide))]) (by rw [e17, FI_sFI, if_neg (fun z => absurd z.1 (by decide))])) (by rw [e17, FI_sFI, if_pos ⟨rfl, rfl⟩]; first | done | rfl)⟩)
