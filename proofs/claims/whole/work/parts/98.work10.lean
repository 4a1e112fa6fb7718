/-! the workshop: an action's work, from its inputs on -/
/-- what an action's work may change -/
def WA (S : Shp) (w a x : Nat) : Prop := x = w ∨ x = sT S 1154 w ∨ x = sT S 1155 w ∨ x = sT S 1156 w ∨ x = sT S 1157 w ∨ x = sT S 1158 w ∨ x = sT S 1159 w ∨ x = sT S 1160 w ∨ x = sT S 1161 w ∨ x = sT S 1163 w ∨ x = sT S 1164 w ∨ x = a ∨ x = sT S 257 a ∨ x = sT S 258 a ∨ x = sT S 259 a
/-- what it changes ahead of the end -/
def WB (S : Shp) (w a x : Nat) : Prop := (U S w x ∧ x ≠ sT S 1152 w ∧ x ≠ sT S 1153 w) ∨ x = sT S 259 a
section WORK
variable {S : Shp} {h h' : Hp} {w a : Nat}
theorem WB.no (ok : Ok S h) (hw : sK S w = 10) (ha : sK S a = 3) (haw : ¬ U S w a) : ¬ WB S w a a ∧ ∀ f, 257 ≤ f → f ≤ 260 → f ≠ 259 → ¬ WB S w a (sT S f a) := by
  have K9 := kT259 ok ha
  refine ⟨fun z => z.elim (fun z => haw z.1) (fun z => ok.so.pT (by decide) z.symm), fun f f1 f2 f3 z => z.elim (fun z => ?_) (fun z => ok.so.ou (by omega) (by decide) (Or.inl f3) z)⟩
  rcases (ok.so.U_T (by omega)).mp z.1 with q | q
  · have : f = 257 ∨ f = 258 ∨ f = 260 := by omega
    have e7 := kT257 ok ha
    have e8 := kT258 ok ha
    have e0 := kT260 ok ha
    rcases this with e | e | e <;> subst e
    · rw [← q] at e7; omega
    · rw [← q] at e8; omega
    · rw [← q] at e0; omega
  · exact haw q
theorem WB.wk (ok : Ok S h) (hw : sK S w = 10) {f : Nat} (hf : f < 4096) (h2 : f ≠ 1152 ∧ f ≠ 1153) : WB S w a (sT S f w) := Or.inl ⟨ok.so.uT hf U_refl, ok.so.ou hf (by decide) (Or.inl h2.1), ok.so.ou hf (by decide) (Or.inl h2.2)⟩
theorem WB.self (ok : Ok S h) (hw : sK S w = 10) : WB S w a w := Or.inl ⟨U_refl, fun z => ok.so.pT (by decide) z.symm, fun z => ok.so.pT (by decide) z.symm⟩
end WORK
theorem cmI_k {x : List Nat} {b : Bool} : ∀ {n f k : Nat} {ss : List SrV} {fs : List FaV} {j : Nat}, (cmI x b n f k ss fs).1 = some j → j ≤ k + n
  | 0, _, _, _, _, _ => fun h => by cases h
  | n + 1, f, k, ss, fs, j => fun h => by
    rw [cmI] at h
    split at h
    · split at h
      · split at h
        · have := cmI_k h; omega
        · cases h; omega
      · split at h
        · have := cmI_k h; omega
        · cases h; omega
    · cases h
theorem cmG_k {t : TgV} {ins : List (List Nat)} : ∀ {m i : Nat} {ss : List SrV} {fs : List FaV} {z : Nat × Nat}, (cmG t ins m i ss fs).1 = some z → z.1 < i + m ∧ z.2 ≤ (ins.getD z.1 []).length + 1
  | 0, _, _, _, _ => fun h => by cases h
  | m + 1, i, ss, fs, z => fun h => by
    rw [cmG] at h
    split at h
    · have := cmG_k h; omega
    · rename_i k ss' fs' e
      cases h
      have := cmI_k (j := k) (by rw [e])
      exact ⟨by show i < i + (m + 1); omega, by show k ≤ (ins.getD i []).length + 1; omega⟩
theorem badT_len (t : TgV) (ins : List (List Nat)) (h6 : ins.length ≤ 6) (hl : ∀ i, i < ins.length → (ins.getD i []).length ≤ 600) : (badT (cmW t ins).1).length ≤ 24 := by
  unfold badT
  split
  · exact Nat.zero_le _
  · rename_i z e
    obtain ⟨k1, k2⟩ := cmG_k e
    have l1 := hl z.1 (by omega)
    have d1 : (dec z.1).length = 1 := by
      have : z.1 = 0 ∨ z.1 = 1 ∨ z.1 = 2 ∨ z.1 = 3 ∨ z.1 = 4 ∨ z.1 = 5 := by omega
      rcases this with q | q | q | q | q | q <;> rw [q] <;> decide
    have d2 := dec_len z.2 (by omega)
    have d3 : (txt 27).length = 4 := by decide
    rw [List.length_append, List.length_append, List.length_append, d1, d3, List.length_singleton]
    omega
theorem d114_0 : dc 114 0 = some (.aload_n 0, 1) := by decide +kernel
theorem d114_1 : dc 114 1 = some (.dload 1155, 4) := by decide +kernel
theorem d114_4 : dc 114 4 = some (.invokevirtual 18, 7) := by decide +kernel
theorem d114_7 : dc 114 7 = some (.aload_n 2, 8) := by decide +kernel
theorem d114_8 : dc 114 8 = some (.dload 259, 11) := by decide +kernel
theorem d114_11 : dc 114 11 = some (.invokevirtual 18, 14) := by decide +kernel
theorem d114_14 : dc 114 14 = some (.aload_n 0, 15) := by decide +kernel
theorem d114_15 : dc 114 15 = some (.aload_n 1, 16) := by decide +kernel
theorem d114_16 : dc 114 16 = some (.invokevirtual 115, 19) := by decide +kernel
theorem d114_19 : dc 114 19 = some (.aload_n 1, 20) := by decide +kernel
theorem d114_20 : dc 114 20 = some (.getfield 131, 23) := by decide +kernel
theorem d114_23 : dc 114 23 = some (.tableswitch ((146 : Nat) : Int) 1 7 #[((64 : Nat) : Int), ((71 : Nat) : Int), ((78 : Nat) : Int), ((85 : Nat) : Int), ((96 : Nat) : Int), ((103 : Nat) : Int), ((129 : Nat) : Int)], 64) := by decide +kernel
theorem d114_64 : dc 114 64 = some (.aload_n 0, 65) := by decide +kernel
theorem d114_65 : dc 114 65 = some (.invokevirtual 116, 68) := by decide +kernel
theorem d114_68 : dc 114 68 = some (.goto ((157 : Nat) : Int), 71) := by decide +kernel
theorem d114_71 : dc 114 71 = some (.aload_n 0, 72) := by decide +kernel
theorem d114_72 : dc 114 72 = some (.invokevirtual 120, 75) := by decide +kernel
theorem d114_75 : dc 114 75 = some (.goto ((157 : Nat) : Int), 78) := by decide +kernel
theorem d114_78 : dc 114 78 = some (.aload_n 0, 79) := by decide +kernel
theorem d114_79 : dc 114 79 = some (.invokevirtual 121, 82) := by decide +kernel
theorem d114_82 : dc 114 82 = some (.goto ((157 : Nat) : Int), 85) := by decide +kernel
theorem d114_85 : dc 114 85 = some (.aload_n 0, 86) := by decide +kernel
theorem d114_86 : dc 114 86 = some (.aload_n 1, 87) := by decide +kernel
theorem d114_87 : dc 114 87 = some (.fload 132, 90) := by decide +kernel
theorem d114_90 : dc 114 90 = some (.invokevirtual 122, 93) := by decide +kernel
theorem d114_93 : dc 114 93 = some (.goto ((157 : Nat) : Int), 96) := by decide +kernel
theorem d114_96 : dc 114 96 = some (.aload_n 0, 97) := by decide +kernel
theorem d114_97 : dc 114 97 = some (.invokevirtual 123, 100) := by decide +kernel
theorem d114_100 : dc 114 100 = some (.goto ((157 : Nat) : Int), 103) := by decide +kernel
theorem d114_103 : dc 114 103 = some (.aload_n 0, 104) := by decide +kernel
theorem d114_104 : dc 114 104 = some (.dload 1155, 107) := by decide +kernel
theorem d114_107 : dc 114 107 = some (.aload_n 0, 108) := by decide +kernel
theorem d114_108 : dc 114 108 = some (.dload 1154, 111) := by decide +kernel
theorem d114_111 : dc 114 111 = some (.invokevirtual 107, 114) := by decide +kernel
theorem d114_114 : dc 114 114 = some (.invokevirtual 125, 117) := by decide +kernel
theorem d114_117 : dc 114 117 = some (.aload_n 0, 118) := by decide +kernel
theorem d114_118 : dc 114 118 = some (.dload 1155, 121) := by decide +kernel
theorem d114_121 : dc 114 121 = some (.bipush 10, 123) := by decide +kernel
theorem d114_123 : dc 114 123 = some (.invokevirtual 15, 126) := by decide +kernel
theorem d114_126 : dc 114 126 = some (.goto ((157 : Nat) : Int), 129) := by decide +kernel
theorem d114_129 : dc 114 129 = some (.aload_n 0, 130) := by decide +kernel
theorem d114_130 : dc 114 130 = some (.aload_n 1, 131) := by decide +kernel
theorem d114_131 : dc 114 131 = some (.aload_n 2, 132) := by decide +kernel
theorem d114_132 : dc 114 132 = some (.dload 259, 135) := by decide +kernel
theorem d114_135 : dc 114 135 = some (.invokevirtual 126, 138) := by decide +kernel
theorem d114_138 : dc 114 138 = some (.aload_n 0, 139) := by decide +kernel
theorem d114_139 : dc 114 139 = some (.iconst 0, 140) := by decide +kernel
theorem d114_140 : dc 114 140 = some (.invokevirtual 131, 143) := by decide +kernel
theorem d114_143 : dc 114 143 = some (.goto ((157 : Nat) : Int), 146) := by decide +kernel
theorem d114_146 : dc 114 146 = some (.aload_n 0, 147) := by decide +kernel
theorem d114_147 : dc 114 147 = some (.dload 1155, 150) := by decide +kernel
theorem d114_150 : dc 114 150 = some (.aload_n 0, 151) := by decide +kernel
theorem d114_151 : dc 114 151 = some (.dload 1154, 154) := by decide +kernel
theorem d114_154 : dc 114 154 = some (.invokevirtual 109, 157) := by decide +kernel
theorem k_Wk_work {S : Shp} {G : Nat → Option Nat} {d : Nat} {h : Hp} {Q : Option MV → Hp → Prop} {w : Nat} {dd : Nat} {a : Nat}  (ok : Ok S h) (h1 : 7 ≤ d) (hw : sK S w = 10) (hdd : sK S dd = 2) (ha : sK S a = 3) {t : TgV} {tx : List Nat} (D : DefC S h dd t tx) {P : Nat → Prop} {ins : List (List Nat)} (ic : InsC S h w P ins) (hin : ins.length = (tgI t).length) (hP : ∀ r, P r → ¬ U S w r ∧ ¬ U S a r) (haw : ¬ U S w a) (hdw : ∀ x, U S dd x → ¬ U S w x ∧ ¬ U S a x) (ob : OuC S h a (false, [], [], [])) (tg : Tg S G)
    (kk : ∀ h', Mo S (WA S w a) h h' → OuC S h' a (wrkV t ins) → (∀ ps, PaC S h a ps → PaC S h' a ps) → FL h' 262 a = FL h 262 a → rl h' (sT S 1152 w) = rl h (sT S 1152 w) → Q none h') : Cl G d 114 [vR (some w), vR (some dd), vR (some a)] h Q := by
  show Wp G d 114 0 [some (vR (some w)), some (vR (some dd)), some (vR (some a))] [] h Q
  have K7 := kT257 ok ha
  have K8 := kT258 ok ha
  have K9 := kT259 ok ha
  have K0 := kT260 ok ha
  have K52 := kT1152 ok hw
  have K54 := kT1154 ok hw
  have K55 := kT1155 ok hw
  have i6 := ic.1
  have nB := WB.no ok hw ha haw
  have hwy : ¬ U S w (sT S 259 a) := fun z => by rcases (ok.so.U_T (by decide)).mp z with q | q; rw [q] at hw; omega; exact haw q
  have haN : ¬ WB S w a a ∧ ¬ WB S w a (sT S 260 a) := ⟨nB.1, nB.2 260 (by decide) (by decide) (by decide)⟩
  have nD : ¬ WB S w a dd := fun z => z.elim (fun z => (hdw dd U_refl).1 z.1) (fun z => by rw [z] at hdd; omega)
  have nW : ¬ WB S w a (sT S 1152 w) := fun z => z.elim (fun z => z.2.1 rfl) (fun z => hwy (z ▸ ok.so.uT (by decide) U_refl))
  have nn : ∀ f, 257 ≤ f → f ≤ 259 → sT S 1152 w ≠ sT S f a := fun f f1 f2 => ok.so.ou (by decide) (by omega) (Or.inl (by omega))
  have rgc := (rg131 ok hdd)
  rw [D.2.2.1] at rgc
  obtain ⟨ob1, o7, o8, ob4, ob5⟩ := ob
  refine w_aload_n d114_0 rfl ?_
  refine w_dloadS d114_1 (ok.kd hw) (fr1155 ok hw) ?_
  refine w_callv1 d114_4 (by omega) rfl (ok.kd (kT1155 ok hw)) (by simp) (Nat.le_of_ble_eq_true rfl) ?_
  refine r_Row_clear ok (kT1155 ok hw) (fun h4 m4 e4_1 e4_2 => ?_)
  have ok4 := m4.ok
  have M4 := Mo.tr ok (Mo.refl (A := (fun x => x = w ∨ x = (sT S 1154 w) ∨ x = (sT S 1155 w) ∨ x = (sT S 1156 w) ∨ x = (sT S 1157 w) ∨ x = (sT S 1158 w) ∨ x = (sT S 1159 w) ∨ x = (sT S 1160 w) ∨ x = (sT S 1161 w) ∨ x = (sT S 1163 w) ∨ x = (sT S 1164 w) ∨ x = a ∨ x = (sT S 257 a) ∨ x = (sT S 258 a) ∨ x = (sT S 259 a))) ok) m4 (fun x e => (Or.inr (Or.inr (Or.inl e))))
  have ic4 := ic.f ok m4 hw (ok.so.ou (by decide) (by decide) (Or.inl (by decide))) (ok.so.ou (by decide) (by decide) (Or.inl (by decide))) (fun r k q z => (hP r q).1 (z ▸ ok.so.uT (by decide) U_refl))
  refine w_aload_n d114_7 rfl ?_
  refine w_dloadS d114_8 (ok4.kd ha) (fr259 ok4 ha) ?_
  refine w_callv1 d114_11 (by omega) rfl (ok4.kd (kT259 ok4 ha)) (by simp) (Nat.le_of_ble_eq_true rfl) ?_
  refine r_Row_clear ok4 (kT259 ok4 ha) (fun h11 m11 e11_1 e11_2 => ?_)
  have ok11 := m11.ok
  have M11 := Mo.tr ok M4 m11 (fun x e => (Or.inr (Or.inr (Or.inr (Or.inr (Or.inr (Or.inr (Or.inr (Or.inr (Or.inr (Or.inr (Or.inr (Or.inr (Or.inr (Or.inr e)))))))))))))))
  have ic11 := ic4.f ok4 m11 hw (ok.so.ou (by decide) (by decide) (Or.inl (by decide))) (ok.so.ou (by decide) (by decide) (Or.inl (by decide))) (fun r k q z => (hP r q).2 (z ▸ ok.so.uT (by decide) U_refl))
  have N11 : Mo S (WB S w a) h h11 := (Mo.tr ok (Mo.tr ok (Mo.refl ok) m4 (fun x q => q ▸ (WB.wk ok hw (by decide) (by decide)))) m11 (fun x q => q ▸ (Or.inr rfl)))
  have D11 := D.mo ok N11 hdd (fun y u z => z.elim (fun z => (hdw y u).1 z.1) (fun z => (hdw y u).2 (z ▸ ok.so.uT (by decide) U_refl)))
  refine w_aload_n d114_14 rfl ?_
  refine w_aload_n d114_15 rfl ?_
  refine w_callv2 d114_16 (by omega) rfl (ok11.kd hw) (by simp) (Nat.le_of_ble_eq_true rfl) ?_
  refine k_Wk_joinInputs ok11 (by omega) hw hdd D11 ic11 hin (fun r q => (hP r q).1) (fun h16 m16 e16_1 => ?_)
  have ok16 := m16.ok
  have M16 := Mo.tr ok M11 m16 (fun x e => (Or.inr (Or.inl e)))
  have J16 : rl h16 (sT S 1154 w) = jnT t ins := e16_1
  have ic16 := ic11.f ok11 m16 hw (ok.so.ou (by decide) (by decide) (Or.inl (by decide))) (ok.so.ou (by decide) (by decide) (Or.inl (by decide))) (fun r k q z => (hP r q).1 (z ▸ ok.so.uT (by decide) U_refl))
  have N16 : Mo S (WB S w a) h h16 := (Mo.tr ok (Mo.tr ok (Mo.tr ok (Mo.refl ok) m4 (fun x q => q ▸ (WB.wk ok hw (by decide) (by decide)))) m11 (fun x q => q ▸ (Or.inr rfl))) m16 (fun x q => q ▸ (WB.wk ok hw (by decide) (by decide))))
  have D16 := D11.mo ok11 m16 hdd (fun y u z => (hdw y u).1 (z ▸ ok.so.uT (by decide) U_refl))
  have ro : rl h16 (sT S 1155 w) = [] := by rw [m16.rb ok11 K55 (ok.so.ou (by decide) (by decide) (Or.inl (by decide))), m11.rb ok4 K55 (ok.so.ou (by decide) (by decide) (Or.inl (by decide)))]; exact e4_1
  have ry : rl h16 (sT S 259 a) = [] := by rw [m16.rb ok11 K9 (ok.so.ou (by decide) (by decide) (Or.inl (by decide)))]; exact e11_1
  have jl : (jnT t ins).length ≤ 3606 := by have := jnW_le (s := decide (rix (tgR t) = 1)) (ins := ins) (n := ins.length) (fun i hi => (by obtain ⟨r, q1, q2, q3, q4, q5⟩ := ic.2 i hi; exact q5)); unfold jnT; omega
  refine w_aload_n d114_19 rfl ?_
  refine w_getI (x := (rix (tgR t))) d114_20 (ok16.kd hdd) ((N16.fi ok (by omega) nD 131).trans D.2.2.1) ?_
  by_cases s1 : rix (tgR t) = 1
  · refine w_tsw 64 d114_23 (by rw [s1]; decide) ?_
    refine w_aload_n d114_64 rfl ?_
    refine w_callv1 d114_65 (by omega) rfl (ok16.kd hw) (by simp) (Nat.le_of_ble_eq_true rfl) ?_
    refine k_Wk_sort ok16 (by omega) hw (by rw [J16]; omega) (fun h65 m65 e65_1 e65_2 => ?_)
    have ok65 := m65.ok
    have M65 := Mo.tr ok M16 m65 (fun x q => by rcases q with q | q | q <;> simp [q])
    refine w_goto d114_68 ?_
    have N : Mo S (WB S w a) h h65 := (Mo.tr ok (Mo.tr ok (Mo.tr ok (Mo.tr ok (Mo.refl ok) m4 (fun x q => q ▸ (WB.wk ok hw (by decide) (by decide)))) m11 (fun x q => q ▸ (Or.inr rfl))) m16 (fun x q => q ▸ (WB.wk ok hw (by decide) (by decide)))) m65 (fun x q => by rcases q with q | q | q <;> (rw [q]; first | exact (WB.wk ok hw (by decide) (by decide)) | exact (WB.self ok hw) | exact (Or.inr rfl))))
    have hYN : True := trivial
    have eR : rulT t ins = srtT (jnT t ins) := by unfold rulT; rw [if_pos s1]
    have n7 : ¬ rix (tgR t) = 7 := by omega
    refine wk_end (T := rulT t ins) (Y := []) (F := rulT t ins) (V := wrkV t ins) (ss := []) ok65 (by omega) hw hdd ha tg (t := t) ((N.fi ok (by omega) nD 131).trans D.2.2.1) ?_ (cT1155 ok65 hw) ?_ (Nat.zero_le _) ((N.rb ok K7 (nB.2 257 (by decide) (by decide) (by decide))).trans o7) ((N.rb ok K8 (nB.2 258 (by decide) (by decide) (by decide))).trans o8) (by unfold wrkV; rw [if_neg n7]) (fun _ => rfl) (fun z => absurd z n7) haw (fun h' m' o' p' k' => kk h' (Mo.tr ok M65 m' (fun x q => by rcases q with q | q | q | q | q <;> (rw [q]; unfold WA; simp))) o' (fun ps D => p' ps (D.mo ok N ha haN.1 haN.2)) (by rw [k', N.fl ok (by omega) haN.1 262]) (by rw [m'.rb ok65 K52 (fun z => by rcases z with z | z | z | z | z; rw [z] at K52; omega; exact nn 257 (by decide) (by decide) z; exact nn 258 (by decide) (by decide) z; exact nn 259 (by decide) (by decide) z; exact ok.so.ou (by decide) (by decide) (Or.inl (by decide)) z), N.rb ok K52 nW]))
    · rw [eR]; rw [e65_1, ← e65_2, ro, J16]; first | done | rfl
    · rw [m65.rb ok16 K9 (fun z => hwy (by rcases z with z | z | z <;> (rw [z]; exact ok.so.uT (by decide) U_refl)))]; exact ry
  by_cases s2 : rix (tgR t) = 2
  · refine w_tsw 71 d114_23 (by rw [s2]; decide) ?_
    refine w_aload_n d114_71 rfl ?_
    refine w_callv1 d114_72 (by omega) rfl (ok16.kd hw) (by simp) (Nat.le_of_ble_eq_true rfl) ?_
    refine k_Wk_uniq ok16 (by omega) hw (by rw [J16]; omega) (fun h72 m72 e72_1 e72_2 => ?_)
    have ok72 := m72.ok
    have M72 := Mo.tr ok M16 m72 (fun x e => (Or.inr (Or.inr (Or.inl e))))
    refine w_goto d114_75 ?_
    have N : Mo S (WB S w a) h h72 := (Mo.tr ok (Mo.tr ok (Mo.tr ok (Mo.tr ok (Mo.refl ok) m4 (fun x q => q ▸ (WB.wk ok hw (by decide) (by decide)))) m11 (fun x q => q ▸ (Or.inr rfl))) m16 (fun x q => q ▸ (WB.wk ok hw (by decide) (by decide)))) m72 (fun x q => q ▸ (WB.wk ok hw (by decide) (by decide))))
    have hYN : True := trivial
    have eR : rulT t ins = uqT none (lns (jnT t ins)) := by unfold rulT; rw [if_neg (by omega), if_pos s2]
    have n7 : ¬ rix (tgR t) = 7 := by omega
    refine wk_end (T := rulT t ins) (Y := []) (F := rulT t ins) (V := wrkV t ins) (ss := []) ok72 (by omega) hw hdd ha tg (t := t) ((N.fi ok (by omega) nD 131).trans D.2.2.1) ?_ (cT1155 ok72 hw) ?_ (Nat.zero_le _) ((N.rb ok K7 (nB.2 257 (by decide) (by decide) (by decide))).trans o7) ((N.rb ok K8 (nB.2 258 (by decide) (by decide) (by decide))).trans o8) (by unfold wrkV; rw [if_neg n7]) (fun _ => rfl) (fun z => absurd z n7) haw (fun h' m' o' p' k' => kk h' (Mo.tr ok M72 m' (fun x q => by rcases q with q | q | q | q | q <;> (rw [q]; unfold WA; simp))) o' (fun ps D => p' ps (D.mo ok N ha haN.1 haN.2)) (by rw [k', N.fl ok (by omega) haN.1 262]) (by rw [m'.rb ok72 K52 (fun z => by rcases z with z | z | z | z | z; rw [z] at K52; omega; exact nn 257 (by decide) (by decide) z; exact nn 258 (by decide) (by decide) z; exact nn 259 (by decide) (by decide) z; exact ok.so.ou (by decide) (by decide) (Or.inl (by decide)) z), N.rb ok K52 nW]))
    · rw [eR]; rw [e72_1, ← e72_2, ro, J16]; first | done | rfl
    · rw [m72.rb ok16 K9 (fun z => hwy (z ▸ ok.so.uT (by decide) U_refl))]; exact ry
  by_cases s3 : rix (tgR t) = 3
  · refine w_tsw 78 d114_23 (by rw [s3]; decide) ?_
    refine w_aload_n d114_78 rfl ?_
    refine w_callv1 d114_79 (by omega) rfl (ok16.kd hw) (by simp) (Nat.le_of_ble_eq_true rfl) ?_
    refine k_Wk_upper ok16 (by omega) hw (by rw [J16]; omega) (fun h79 m79 e79_1 e79_2 => ?_)
    have ok79 := m79.ok
    have M79 := Mo.tr ok M16 m79 (fun x e => (Or.inr (Or.inr (Or.inl e))))
    refine w_goto d114_82 ?_
    have N : Mo S (WB S w a) h h79 := (Mo.tr ok (Mo.tr ok (Mo.tr ok (Mo.tr ok (Mo.refl ok) m4 (fun x q => q ▸ (WB.wk ok hw (by decide) (by decide)))) m11 (fun x q => q ▸ (Or.inr rfl))) m16 (fun x q => q ▸ (WB.wk ok hw (by decide) (by decide)))) m79 (fun x q => q ▸ (WB.wk ok hw (by decide) (by decide))))
    have hYN : True := trivial
    have eR : rulT t ins = upW (jnT t ins) (jnT t ins).length := by unfold rulT; rw [if_neg (by omega), if_neg (by omega), if_pos s3]
    have n7 : ¬ rix (tgR t) = 7 := by omega
    refine wk_end (T := rulT t ins) (Y := []) (F := rulT t ins) (V := wrkV t ins) (ss := []) ok79 (by omega) hw hdd ha tg (t := t) ((N.fi ok (by omega) nD 131).trans D.2.2.1) ?_ (cT1155 ok79 hw) ?_ (Nat.zero_le _) ((N.rb ok K7 (nB.2 257 (by decide) (by decide) (by decide))).trans o7) ((N.rb ok K8 (nB.2 258 (by decide) (by decide) (by decide))).trans o8) (by unfold wrkV; rw [if_neg n7]) (fun _ => rfl) (fun z => absurd z n7) haw (fun h' m' o' p' k' => kk h' (Mo.tr ok M79 m' (fun x q => by rcases q with q | q | q | q | q <;> (rw [q]; unfold WA; simp))) o' (fun ps D => p' ps (D.mo ok N ha haN.1 haN.2)) (by rw [k', N.fl ok (by omega) haN.1 262]) (by rw [m'.rb ok79 K52 (fun z => by rcases z with z | z | z | z | z; rw [z] at K52; omega; exact nn 257 (by decide) (by decide) z; exact nn 258 (by decide) (by decide) z; exact nn 259 (by decide) (by decide) z; exact ok.so.ou (by decide) (by decide) (Or.inl (by decide)) z), N.rb ok K52 nW]))
    · rw [eR]; rw [e79_1, ← e79_2, ro, J16]; first | done | rfl
    · rw [m79.rb ok16 K9 (fun z => hwy (z ▸ ok.so.uT (by decide) U_refl))]; exact ry
  by_cases s4 : rix (tgR t) = 4
  · refine w_tsw 85 d114_23 (by rw [s4]; decide) ?_
    refine w_aload_n d114_85 rfl ?_
    refine w_aload_n d114_86 rfl ?_
    refine w_floadV (x := (hd (tgW t))) d114_87 (ok16.kd hdd) ((N16.fl ok (by omega) nD 132).trans D.2.2.2.1) ?_
    refine w_callv2 d114_90 (by omega) rfl (ok16.kd hw) (by simp) (Nat.le_of_ble_eq_true rfl) ?_
    refine k_Wk_grep ok16 (by omega) hw (by rw [J16]; omega) (fun h90 m90 e90_1 e90_2 => ?_)
    have ok90 := m90.ok
    have M90 := Mo.tr ok M16 m90 (fun x q => by rcases q with q | q <;> simp [q])
    refine w_goto d114_93 ?_
    have N : Mo S (WB S w a) h h90 := (Mo.tr ok (Mo.tr ok (Mo.tr ok (Mo.tr ok (Mo.refl ok) m4 (fun x q => q ▸ (WB.wk ok hw (by decide) (by decide)))) m11 (fun x q => q ▸ (Or.inr rfl))) m16 (fun x q => q ▸ (WB.wk ok hw (by decide) (by decide)))) m90 (fun x q => by rcases q with q | q <;> (rw [q]; first | exact (WB.wk ok hw (by decide) (by decide)) | exact (WB.self ok hw) | exact (Or.inr rfl))))
    have hYN : True := trivial
    have eR : rulT t ins = gpT (hd (tgW t)) (nmB (hd (tgW t)) 8).length (lns (jnT t ins)) := by unfold rulT; rw [if_neg (by omega), if_neg (by omega), if_neg (by omega), if_pos s4]
    have n7 : ¬ rix (tgR t) = 7 := by omega
    refine wk_end (T := rulT t ins) (Y := []) (F := rulT t ins) (V := wrkV t ins) (ss := []) ok90 (by omega) hw hdd ha tg (t := t) ((N.fi ok (by omega) nD 131).trans D.2.2.1) ?_ (cT1155 ok90 hw) ?_ (Nat.zero_le _) ((N.rb ok K7 (nB.2 257 (by decide) (by decide) (by decide))).trans o7) ((N.rb ok K8 (nB.2 258 (by decide) (by decide) (by decide))).trans o8) (by unfold wrkV; rw [if_neg n7]) (fun _ => rfl) (fun z => absurd z n7) haw (fun h' m' o' p' k' => kk h' (Mo.tr ok M90 m' (fun x q => by rcases q with q | q | q | q | q <;> (rw [q]; unfold WA; simp))) o' (fun ps D => p' ps (D.mo ok N ha haN.1 haN.2)) (by rw [k', N.fl ok (by omega) haN.1 262]) (by rw [m'.rb ok90 K52 (fun z => by rcases z with z | z | z | z | z; rw [z] at K52; omega; exact nn 257 (by decide) (by decide) z; exact nn 258 (by decide) (by decide) z; exact nn 259 (by decide) (by decide) z; exact ok.so.ou (by decide) (by decide) (Or.inl (by decide)) z), N.rb ok K52 nW]))
    · rw [eR]; rw [e90_1, ← e90_2, ro, J16]; first | done | rfl
    · rw [m90.rb ok16 K9 (fun z => hwy (by rcases z with z | z <;> (rw [z]; exact ok.so.uT (by decide) U_refl)))]; exact ry
  by_cases s5 : rix (tgR t) = 5
  · refine w_tsw 96 d114_23 (by rw [s5]; decide) ?_
    refine w_aload_n d114_96 rfl ?_
    refine w_callv1 d114_97 (by omega) rfl (ok16.kd hw) (by simp) (Nat.le_of_ble_eq_true rfl) ?_
    refine k_Wk_count ok16 (by omega) hw (by rw [J16]; omega) (fun h97 m97 e97_1 e97_2 => ?_)
    have ok97 := m97.ok
    have M97 := Mo.tr ok M16 m97 (fun x e => (Or.inr (Or.inr (Or.inl e))))
    refine w_goto d114_100 ?_
    have N : Mo S (WB S w a) h h97 := (Mo.tr ok (Mo.tr ok (Mo.tr ok (Mo.tr ok (Mo.refl ok) m4 (fun x q => q ▸ (WB.wk ok hw (by decide) (by decide)))) m11 (fun x q => q ▸ (Or.inr rfl))) m16 (fun x q => q ▸ (WB.wk ok hw (by decide) (by decide)))) m97 (fun x q => q ▸ (WB.wk ok hw (by decide) (by decide))))
    have hYN : True := trivial
    have eR : rulT t ins = dec (lns (jnT t ins)).length ++ [10] := by unfold rulT; rw [if_neg (by omega), if_neg (by omega), if_neg (by omega), if_neg (by omega), if_pos s5]
    have n7 : ¬ rix (tgR t) = 7 := by omega
    refine wk_end (T := rulT t ins) (Y := []) (F := rulT t ins) (V := wrkV t ins) (ss := []) ok97 (by omega) hw hdd ha tg (t := t) ((N.fi ok (by omega) nD 131).trans D.2.2.1) ?_ (cT1155 ok97 hw) ?_ (Nat.zero_le _) ((N.rb ok K7 (nB.2 257 (by decide) (by decide) (by decide))).trans o7) ((N.rb ok K8 (nB.2 258 (by decide) (by decide) (by decide))).trans o8) (by unfold wrkV; rw [if_neg n7]) (fun _ => rfl) (fun z => absurd z n7) haw (fun h' m' o' p' k' => kk h' (Mo.tr ok M97 m' (fun x q => by rcases q with q | q | q | q | q <;> (rw [q]; unfold WA; simp))) o' (fun ps D => p' ps (D.mo ok N ha haN.1 haN.2)) (by rw [k', N.fl ok (by omega) haN.1 262]) (by rw [m'.rb ok97 K52 (fun z => by rcases z with z | z | z | z | z; rw [z] at K52; omega; exact nn 257 (by decide) (by decide) z; exact nn 258 (by decide) (by decide) z; exact nn 259 (by decide) (by decide) z; exact ok.so.ou (by decide) (by decide) (Or.inl (by decide)) z), N.rb ok K52 nW]))
    · rw [eR]; rw [e97_1, ← e97_2, ro, J16]; first | done | rfl
    · rw [m97.rb ok16 K9 (fun z => hwy (z ▸ ok.so.uT (by decide) U_refl))]; exact ry
  by_cases s6 : rix (tgR t) = 6
  · refine w_tsw 103 d114_23 (by rw [s6]; decide) ?_
    refine w_aload_n d114_103 rfl ?_
    refine w_dloadS d114_104 (ok16.kd hw) (fr1155 ok16 hw) ?_
    refine w_aload_n d114_107 rfl ?_
    refine w_dloadS d114_108 (ok16.kd hw) (fr1154 ok16 hw) ?_
    refine w_callv1 d114_111 (by omega) rfl (ok16.kd (kT1154 ok16 hw)) (by simp) (Nat.le_of_ble_eq_true rfl) ?_
    refine r_Row_digest ok16 (kT1154 ok16 hw) ?_
    rw [J16]
    refine w_callv2 d114_114 (by omega) rfl (ok16.kd (kT1155 ok16 hw)) (by simp) (Nat.le_of_ble_eq_true rfl) ?_
    refine r_Row_addHex (by omega) ok16 (kT1155 ok16 hw) (fun h114 m114 e114_1 e114_2 => ?_)
    have ok114 := m114.ok
    have M114 := Mo.tr ok M16 m114 (fun x e => (Or.inr (Or.inr (Or.inl e))))
    refine w_aload_n d114_117 rfl ?_
    refine w_dloadS d114_118 (ok114.kd hw) (fr1155 ok114 hw) ?_
    refine w_bipush d114_121 (by decide) ?_
    refine w_callv2 d114_123 (by omega) rfl (ok114.kd (kT1155 ok114 hw)) (by simp) (Nat.le_of_ble_eq_true rfl) ?_
    refine r_Row_add ok114 (kT1155 ok114 hw) (fun h123 m123 e123_1 e123_2 => ?_)
    have ok123 := m123.ok
    have M123 := Mo.tr ok M114 m123 (fun x e => (Or.inr (Or.inr (Or.inl e))))
    refine w_goto d114_126 ?_
    have N : Mo S (WB S w a) h h123 := (Mo.tr ok (Mo.tr ok (Mo.tr ok (Mo.tr ok (Mo.tr ok (Mo.refl ok) m4 (fun x q => q ▸ (WB.wk ok hw (by decide) (by decide)))) m11 (fun x q => q ▸ (Or.inr rfl))) m16 (fun x q => q ▸ (WB.wk ok hw (by decide) (by decide)))) m114 (fun x q => q ▸ (WB.wk ok hw (by decide) (by decide)))) m123 (fun x q => q ▸ (WB.wk ok hw (by decide) (by decide))))
    have hYN : True := trivial
    have eR : rulT t ins = hxB (dig (jnT t ins)) 16 ++ [10] := by unfold rulT; rw [if_neg (by omega), if_neg (by omega), if_neg (by omega), if_neg (by omega), if_neg (by omega), if_pos s6]
    have n7 : ¬ rix (tgR t) = 7 := by omega
    refine wk_end (T := rulT t ins) (Y := []) (F := rulT t ins) (V := wrkV t ins) (ss := []) ok123 (by omega) hw hdd ha tg (t := t) ((N.fi ok (by omega) nD 131).trans D.2.2.1) ?_ (cT1155 ok123 hw) ?_ (Nat.zero_le _) ((N.rb ok K7 (nB.2 257 (by decide) (by decide) (by decide))).trans o7) ((N.rb ok K8 (nB.2 258 (by decide) (by decide) (by decide))).trans o8) (by unfold wrkV; rw [if_neg n7]) (fun _ => rfl) (fun z => absurd z n7) haw (fun h' m' o' p' k' => kk h' (Mo.tr ok M123 m' (fun x q => by rcases q with q | q | q | q | q <;> (rw [q]; unfold WA; simp))) o' (fun ps D => p' ps (D.mo ok N ha haN.1 haN.2)) (by rw [k', N.fl ok (by omega) haN.1 262]) (by rw [m'.rb ok123 K52 (fun z => by rcases z with z | z | z | z | z; rw [z] at K52; omega; exact nn 257 (by decide) (by decide) z; exact nn 258 (by decide) (by decide) z; exact nn 259 (by decide) (by decide) z; exact ok.so.ou (by decide) (by decide) (Or.inl (by decide)) z), N.rb ok K52 nW]))
    · rw [eR]; rw [e123_1, e123_2, e114_1, e114_2, addBs3, ro]; first | done | rfl
    · rw [m123.rb ok114 K9 (fun z => hwy (z ▸ ok.so.uT (by decide) U_refl)), m114.rb ok16 K9 (fun z => hwy (z ▸ ok.so.uT (by decide) U_refl))]; exact ry
  by_cases s7 : rix (tgR t) = 7
  · refine w_tsw 129 d114_23 (by rw [s7]; decide) ?_
    refine w_aload_n d114_129 rfl ?_
    refine w_aload_n d114_130 rfl ?_
    refine w_aload_n d114_131 rfl ?_
    refine w_dloadS d114_132 (ok16.kd ha) (fr259 ok16 ha) ?_
    refine w_callv3 d114_135 (by omega) rfl (ok16.kd hw) (by simp) (Nat.le_of_ble_eq_true rfl) ?_
    refine k_Wk_compile ok16 (by omega) hw hdd K9 D16 ic16 hin (fun r q => ⟨(hP r q).1, fun z => (hP r q).2 (z ▸ ok.so.uT (by decide) U_refl)⟩) hwy tg (fun h135 m135 e135_1 e135_2 e135_3 => ?_)
    have ok135 := m135.ok
    have M135 := Mo.tr ok M16 m135 (fun x q => by rcases q with q | q | q | q | q | q | q <;> simp [q])
    refine w_aload_n d114_138 rfl ?_
    refine w_iconst d114_139 (by decide) ?_
    refine w_callv2 d114_140 (by omega) rfl (ok135.kd hw) (by simp) (Nat.le_of_ble_eq_true rfl) ?_
    refine k_Wk_writeSources (o := false) ok135 (by omega) hw e135_1 rfl (fun h140 m140 e140_1 e140_2 => ?_)
    have ok140 := m140.ok
    have M140 := Mo.tr ok M135 m140 (fun x e => (Or.inr (Or.inr (Or.inl e))))
    refine w_goto d114_143 ?_
    have N : Mo S (WB S w a) h h140 := (Mo.tr ok (Mo.tr ok (Mo.tr ok (Mo.tr ok (Mo.tr ok (Mo.refl ok) m4 (fun x q => q ▸ (WB.wk ok hw (by decide) (by decide)))) m11 (fun x q => q ▸ (Or.inr rfl))) m16 (fun x q => q ▸ (WB.wk ok hw (by decide) (by decide)))) m135 (fun x q => by rcases q with q | q | q | q | q | q | q <;> (rw [q]; first | exact (WB.wk ok hw (by decide) (by decide)) | exact (WB.self ok hw) | exact (Or.inr rfl)))) m140 (fun x q => q ▸ (WB.wk ok hw (by decide) (by decide))))
    have sc140 : SrC S h140 w (cmW t ins).2.1 := e135_1.f ok135 m140 hw (Or.inl (fun z => by rw [z] at hw; omega)) (ok.so.ou (by decide) (by decide) (Or.inl (by decide))) (ok.so.ou (by decide) (by decide) (Or.inl (by decide))) (ok.so.ou (by decide) (by decide) (Or.inl (by decide)))
    have lb := badT_len t ins i6 (fun i hi => (by obtain ⟨r, q1, q2, q3, q4, q5⟩ := ic.2 i hi; exact q5))
    have ey : rl h140 (sT S 259 a) = badT (cmW t ins).1 := by rw [m140.rb ok135 K9 (fun z => ok.so.ou (by decide) (by decide) (Or.inl (by decide)) z), e135_2, ry]; exact addBs_fit (by have := cT259 ok16 ha; simp only [List.length_nil]; omega)
    refine wk_end (T := wsT (cmW t ins).2.1 false (cmW t ins).2.1.length) (Y := badT (cmW t ins).1) (F := wsT (cmW t ins).2.1 true (cmW t ins).2.1.length) (V := wrkV t ins) (ss := (cmW t ins).2.1) ok140 (by omega) hw hdd ha tg (t := t) ((N.fi ok (by omega) nD 131).trans D.2.2.1) (by rw [e140_1, e140_2]) (cT1155 ok140 hw) ey (by omega) ((N.rb ok K7 (nB.2 257 (by decide) (by decide) (by decide))).trans o7) ((N.rb ok K8 (nB.2 258 (by decide) (by decide) (by decide))).trans o8) (by unfold wrkV; rw [if_pos s7]) (fun z => absurd s7 z) (fun _ => ⟨sc140, rfl, rfl⟩) haw (fun h' m' o' p' k' => kk h' (Mo.tr ok M140 m' (fun x q => by rcases q with q | q | q | q | q <;> (rw [q]; unfold WA; simp))) o' (fun ps D => p' ps (D.mo ok N ha haN.1 haN.2)) (by rw [k', N.fl ok (by omega) haN.1 262]) (by rw [m'.rb ok140 K52 (fun z => by rcases z with z | z | z | z | z; rw [z] at K52; omega; exact nn 257 (by decide) (by decide) z; exact nn 258 (by decide) (by decide) z; exact nn 259 (by decide) (by decide) z; exact ok.so.ou (by decide) (by decide) (Or.inl (by decide)) z), N.rb ok K52 nW]))
  refine w_tsw 146 d114_23 (by rw [if_pos (Or.inl (by omega))]) ?_
  refine w_aload_n d114_146 rfl ?_
  refine w_dloadS d114_147 (ok16.kd hw) (fr1155 ok16 hw) ?_
  refine w_aload_n d114_150 rfl ?_
  refine w_dloadS d114_151 (ok16.kd hw) (fr1154 ok16 hw) ?_
  refine w_callv2 d114_154 (by omega) rfl (ok16.kd (kT1155 ok16 hw)) (by simp) (Nat.le_of_ble_eq_true rfl) ?_
  refine r_Row_addRow (by omega) ok16 (kT1155 ok16 hw) (kT1154 ok16 hw) (ok.so.ou (by decide) (by decide) (Or.inl (by decide))) (fun h154 m154 e154_1 e154_2 => ?_)
  have ok154 := m154.ok
  have M154 := Mo.tr ok M16 m154 (fun x e => (Or.inr (Or.inr (Or.inl e))))
  have N : Mo S (WB S w a) h h154 := (Mo.tr ok (Mo.tr ok (Mo.tr ok (Mo.tr ok (Mo.refl ok) m4 (fun x q => q ▸ (WB.wk ok hw (by decide) (by decide)))) m11 (fun x q => q ▸ (Or.inr rfl))) m16 (fun x q => q ▸ (WB.wk ok hw (by decide) (by decide)))) m154 (fun x q => q ▸ (WB.wk ok hw (by decide) (by decide))))
  have hYN : True := trivial
  have eR : rulT t ins = jnT t ins := by unfold rulT; rw [if_neg s1, if_neg s2, if_neg s3, if_neg s4, if_neg s5, if_neg s6]
  have n7 : ¬ rix (tgR t) = 7 := by omega
  refine wk_end (T := rulT t ins) (Y := []) (F := rulT t ins) (V := wrkV t ins) (ss := []) ok154 (by omega) hw hdd ha tg (t := t) ((N.fi ok (by omega) nD 131).trans D.2.2.1) ?_ (cT1155 ok154 hw) ?_ (Nat.zero_le _) ((N.rb ok K7 (nB.2 257 (by decide) (by decide) (by decide))).trans o7) ((N.rb ok K8 (nB.2 258 (by decide) (by decide) (by decide))).trans o8) (by unfold wrkV; rw [if_neg n7]) (fun _ => rfl) (fun z => absurd z n7) haw (fun h' m' o' p' k' => kk h' (Mo.tr ok M154 m' (fun x q => by rcases q with q | q | q | q | q <;> (rw [q]; unfold WA; simp))) o' (fun ps D => p' ps (D.mo ok N ha haN.1 haN.2)) (by rw [k', N.fl ok (by omega) haN.1 262]) (by rw [m'.rb ok154 K52 (fun z => by rcases z with z | z | z | z | z; rw [z] at K52; omega; exact nn 257 (by decide) (by decide) z; exact nn 258 (by decide) (by decide) z; exact nn 259 (by decide) (by decide) z; exact ok.so.ou (by decide) (by decide) (Or.inl (by decide)) z), N.rb ok K52 nW]))
  · rw [eR]; rw [e154_1, ← e154_2, ro, J16]
  · rw [m154.rb ok16 K9 (fun z => hwy (z ▸ ok.so.uT (by decide) U_refl))]; exact ry
