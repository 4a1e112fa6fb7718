/-! the workshop: an action's work -/
def jnT (t : TgV) (ins : List (List Nat)) : List Nat := jnW (decide (rix (tgR t) = 1)) ins ins.length
/-- what an action writes, not cut yet; compile aside -/
def rulT (t : TgV) (ins : List (List Nat)) : List Nat := if rix (tgR t) = 1 then srtT (jnT t ins) else if rix (tgR t) = 2 then uqT none (lns (jnT t ins)) else if rix (tgR t) = 3 then upW (jnT t ins) (jnT t ins).length else if rix (tgR t) = 4 then gpT (hd (tgW t)) (nmB (hd (tgW t)) 8).length (lns (jnT t ins)) else if rix (tgR t) = 5 then dec (lns (jnT t ins)).length ++ [10] else if rix (tgR t) = 6 then hxB (dig (jnT t ins)) 16 ++ [10] else jnT t ins
/-- an outcome from the text, from why not, from the face -/
def finV (T Y F : List Nat) : OutV := if Y ≠ [] then (false, [], [], Y) else if 600 < T.length then (false, [], [], txt 28) else (true, T, F, [])
def wrkV (t : TgV) (ins : List (List Nat)) : OutV := if rix (tgR t) = 7 then finV (wsT (cmW t ins).2.1 false (cmW t ins).2.1.length) (badT (cmW t ins).1) (wsT (cmW t ins).2.1 true (cmW t ins).2.1.length) else finV (rulT t ins) [] (rulT t ins)
theorem wsT_le {ss : List SrV} : ∀ n, (wsT ss true n).length ≤ (wsT ss false n).length
  | 0 => Nat.le_refl _
  | n + 1 => by
    have := wsT_le (ss := ss) n
    unfold wsT
    rw [List.length_append, List.length_append, if_neg (show ¬ (false = true ∧ sO ss n = false) from fun z => by cases z.1)]
    split
    · simp only [List.length_nil]; omega
    · omega
theorem addBs_sz {n : Nat} {T : List Nat} (hn : 601 ≤ n) : (600 < (addBs n [] T).length ↔ 600 < T.length) ∧ (¬ 600 < T.length → addBs n [] T = T) := by
  rw [addBs_take T [] (Nat.zero_le _)]
  simp only [List.nil_append, List.length_take, List.length_nil, Nat.sub_zero]
  refine ⟨by omega, fun h => List.take_of_length_le (by omega)⟩
theorem d114_157 : dc 114 157 = some (.aload_n 2, 158) := by decide +kernel
theorem d114_158 : dc 114 158 = some (.dload 259, 161) := by decide +kernel
theorem d114_161 : dc 114 161 = some (.invokevirtual 13, 164) := by decide +kernel
theorem d114_164 : dc 114 164 = some (.ifCond .ne ((189 : Nat) : Int), 167) := by decide +kernel
theorem d114_167 : dc 114 167 = some (.aload_n 0, 168) := by decide +kernel
theorem d114_168 : dc 114 168 = some (.dload 1155, 171) := by decide +kernel
theorem d114_171 : dc 114 171 = some (.invokevirtual 13, 174) := by decide +kernel
theorem d114_174 : dc 114 174 = some (.sipush 600, 177) := by decide +kernel
theorem d114_177 : dc 114 177 = some (.if_icmp .le ((189 : Nat) : Int), 180) := by decide +kernel
theorem d114_180 : dc 114 180 = some (.aload_n 2, 181) := by decide +kernel
theorem d114_181 : dc 114 181 = some (.dload 259, 184) := by decide +kernel
theorem d114_184 : dc 114 184 = some (.getstatic 78, 186) := by decide +kernel
theorem d114_186 : dc 114 186 = some (.invokevirtual 84, 189) := by decide +kernel
theorem d114_189 : dc 114 189 = some (.aload_n 2, 190) := by decide +kernel
theorem d114_190 : dc 114 190 = some (.aload_n 2, 191) := by decide +kernel
theorem d114_191 : dc 114 191 = some (.dload 259, 194) := by decide +kernel
theorem d114_194 : dc 114 194 = some (.invokevirtual 13, 197) := by decide +kernel
theorem d114_197 : dc 114 197 = some (.ifCond .ne ((204 : Nat) : Int), 200) := by decide +kernel
theorem d114_200 : dc 114 200 = some (.iconst 1, 201) := by decide +kernel
theorem d114_201 : dc 114 201 = some (.goto ((205 : Nat) : Int), 204) := by decide +kernel
theorem d114_204 : dc 114 204 = some (.iconst 0, 205) := by decide +kernel
theorem d114_205 : dc 114 205 = some (.putstatic 256, 208) := by decide +kernel
theorem d114_208 : dc 114 208 = some (.aload_n 2, 209) := by decide +kernel
theorem d114_209 : dc 114 209 = some (.getfield 256, 212) := by decide +kernel
theorem d114_212 : dc 114 212 = some (.ifCond .eq ((267 : Nat) : Int), 215) := by decide +kernel
theorem d114_215 : dc 114 215 = some (.aload_n 2, 216) := by decide +kernel
theorem d114_216 : dc 114 216 = some (.dload 257, 219) := by decide +kernel
theorem d114_219 : dc 114 219 = some (.aload_n 0, 220) := by decide +kernel
theorem d114_220 : dc 114 220 = some (.dload 1155, 223) := by decide +kernel
theorem d114_223 : dc 114 223 = some (.iconst 0, 224) := by decide +kernel
theorem d114_224 : dc 114 224 = some (.aload_n 0, 225) := by decide +kernel
theorem d114_225 : dc 114 225 = some (.dload 1155, 228) := by decide +kernel
theorem d114_228 : dc 114 228 = some (.invokevirtual 13, 231) := by decide +kernel
theorem d114_231 : dc 114 231 = some (.invokevirtual 17, 234) := by decide +kernel
theorem d114_234 : dc 114 234 = some (.aload_n 1, 235) := by decide +kernel
theorem d114_235 : dc 114 235 = some (.getfield 131, 238) := by decide +kernel
theorem d114_238 : dc 114 238 = some (.bipush 7, 240) := by decide +kernel
theorem d114_240 : dc 114 240 = some (.if_icmp .ne ((248 : Nat) : Int), 243) := by decide +kernel
theorem d114_243 : dc 114 243 = some (.aload_n 0, 244) := by decide +kernel
theorem d114_244 : dc 114 244 = some (.iconst 1, 245) := by decide +kernel
theorem d114_245 : dc 114 245 = some (.invokevirtual 131, 248) := by decide +kernel
theorem d114_248 : dc 114 248 = some (.aload_n 2, 249) := by decide +kernel
theorem d114_249 : dc 114 249 = some (.dload 258, 252) := by decide +kernel
theorem d114_252 : dc 114 252 = some (.aload_n 0, 253) := by decide +kernel
theorem d114_253 : dc 114 253 = some (.dload 1155, 256) := by decide +kernel
theorem d114_256 : dc 114 256 = some (.iconst 0, 257) := by decide +kernel
theorem d114_257 : dc 114 257 = some (.aload_n 0, 258) := by decide +kernel
theorem d114_258 : dc 114 258 = some (.dload 1155, 261) := by decide +kernel
theorem d114_261 : dc 114 261 = some (.invokevirtual 13, 264) := by decide +kernel
theorem d114_264 : dc 114 264 = some (.invokevirtual 17, 267) := by decide +kernel
theorem d114_267 : dc 114 267 = some (.return_, 268) := by decide +kernel
theorem wk_end {S : Shp} {G : Nat → Option Nat} {d : Nat} {h : Hp} {Q : Option MV → Hp → Prop} {w dd a : Nat} (ok : Ok S h) (h1 : 5 ≤ d) (hw : sK S w = 10) (hdd : sK S dd = 2) (ha : sK S a = 3) (tg : Tg S G) {t : TgV} {T Y F : List Nat} {V : OutV} {ss : List SrV} (D3 : FI h 131 dd = rix (tgR t)) (ot : rl h (sT S 1155 w) = addBs (cap h (sT S 1155 w)) [] T) (oc : 601 ≤ cap h (sT S 1155 w)) (oy : rl h (sT S 259 a) = Y) (ly : Y.length ≤ 600) (o7 : rl h (sT S 257 a) = []) (o8 : rl h (sT S 258 a) = []) (hV : V = finV T Y F) (hn : ¬ rix (tgR t) = 7 → F = T) (hs : rix (tgR t) = 7 → SrC S h w ss ∧ T = wsT ss false ss.length ∧ F = wsT ss true ss.length) (haw : ¬ U S w a)
    (kk : ∀ h', Mo S (fun x => x = a ∨ x = sT S 257 a ∨ x = sT S 258 a ∨ x = sT S 259 a ∨ x = sT S 1155 w) h h' → OuC S h' a V → (∀ ps, PaC S h a ps → PaC S h' a ps) → FL h' 262 a = FL h 262 a → Q none h') : Wp G d 114 157 [some (vR (some w)), some (vR (some dd)), some (vR (some a))] [] h Q := by
  have pT : ∀ f, f < 4096 → a ≠ sT S f a := fun f hf z => ok.so.pT hf z.symm
  have ne : ∀ f g, f < 4096 → g < 4096 → f ≠ g → sT S f a ≠ sT S g a := fun f g hf hg q => ok.so.ou hf hg (Or.inl q)
  have K7 := kT257 ok ha
  have K8 := kT258 ok ha
  have K9 := kT259 ok ha
  have K0 := kT260 ok ha
  have KO := kT1155 ok hw
  have no : ∀ f, f < 4096 → f ≠ 1155 → sT S f a ≠ sT S 1155 w := fun f hf hn => ok.so.ou hf (by decide) (Or.inl hn)
  have no0 : a ≠ sT S 1155 w := fun z => by rw [z] at ha; omega
  refine w_aload_n d114_157 rfl ?_
  refine w_dloadS d114_158 (ok.kd ha) (fr259 ok ha) ?_
  refine w_callv1 d114_161 (by omega) rfl (ok.kd (kT259 ok ha)) (by simp) (Nat.le_of_ble_eq_true rfl) ?_
  refine r_Row_size ok (kT259 ok ha) ?_
  rw [oy]
  refine w_ifne d114_164 (fun c164 => ?_) (fun c164 => ?_)
  · have yn : Y ≠ [] := fun z => by rw [z] at c164; exact c164 rfl
    refine w_aload_n d114_189 rfl ?_
    refine w_aload_n d114_190 rfl ?_
    refine w_dloadS d114_191 (ok.kd ha) (fr259 ok ha) ?_
    refine w_callv1 d114_194 (by omega) rfl (ok.kd (kT259 ok ha)) (by simp) (Nat.le_of_ble_eq_true rfl) ?_
    refine r_Row_size ok (kT259 ok ha) ?_
    rw [oy]
    refine w_ifne d114_197 (fun c197 => ?_) (fun c197 => ?_)
    · refine w_iconst d114_204 (by decide) ?_
      refine wf256 d114_205 ok ha (Or.inl rfl) (fun h205 e205 m205 => ?_)
      have ok205 := m205.ok
      have M205 := Mo.tr ok (Mo.refl (A := (fun x => x = a ∨ x = (sT S 257 a) ∨ x = (sT S 258 a) ∨ x = (sT S 259 a) ∨ x = (sT S 1155 w))) ok) m205 (fun x e => (Or.inl e))
      refine w_aload_n d114_208 rfl ?_
      refine w_getI (x := 0) d114_209 (ok205.kd ha) (by rw [e205, FI_sFI, if_pos ⟨rfl, rfl⟩]) ?_
      refine w_ifeq d114_212 (fun c212 => ?_) (fun c212 => ?_)
      · refine w_return d114_267 ?_
        have eV : V = (false, [], [], Y) := by rw [hV]; unfold finV; rw [if_pos yn]
        rw [eV] at kk
        refine kk h205 M205 ⟨by rw [e205, FI_sFI, if_pos ⟨rfl, rfl⟩]; first | done | rfl, ?_, ?_, ?_, Nat.zero_le _, Nat.zero_le _, ?_⟩ ?_ ?_
        · rw [m205.rb ok K7 (Ne.symm (pT 257 (by decide)))]; exact o7
        · rw [m205.rb ok K8 (Ne.symm (pT 258 (by decide)))]; exact o8
        · rw [m205.rb ok K9 (Ne.symm (pT 259 (by decide)))]; exact oy
        · show (Y).length ≤ 600; omega
        · exact fun ps D => ⟨by rw [e205, FI_sFI, if_neg (fun z => absurd z.1 (by decide))]; exact D.1, D.2.1, fun i hi => by rw [e205]; exact D.2.2 i hi⟩
        · rw [e205]; rfl
      · exact absurd rfl c212
    · exact absurd c197 c164
  · have ye : Y = [] := List.eq_nil_of_length_eq_zero (by omega)
    refine w_aload_n d114_167 rfl ?_
    refine w_dloadS d114_168 (ok.kd hw) (fr1155 ok hw) ?_
    refine w_callv1 d114_171 (by omega) rfl (ok.kd (kT1155 ok hw)) (by simp) (Nat.le_of_ble_eq_true rfl) ?_
    refine r_Row_size ok (kT1155 ok hw) ?_
    rw [ot]
    refine w_sipush d114_174 (by decide) ?_
    refine w_icmple d114_177 (fun c177 => ?_) (fun c177 => ?_)
    · have sm : ¬ 600 < T.length := fun z => by have := (addBs_sz (T := T) oc).1.mpr z; omega
      have ot2 : rl h (sT S 1155 w) = T := by rw [ot, (addBs_sz oc).2 sm]
      refine w_aload_n d114_189 rfl ?_
      refine w_aload_n d114_190 rfl ?_
      refine w_dloadS d114_191 (ok.kd ha) (fr259 ok ha) ?_
      refine w_callv1 d114_194 (by omega) rfl (ok.kd (kT259 ok ha)) (by simp) (Nat.le_of_ble_eq_true rfl) ?_
      refine r_Row_size ok (kT259 ok ha) ?_
      rw [oy, ye]
      refine w_ifne d114_197 (fun c197 => ?_) (fun c197 => ?_)
      · exact absurd rfl c197
      · refine w_iconst d114_200 (by decide) ?_
        refine w_goto d114_201 ?_
        refine wf256 d114_205 ok ha (Or.inr rfl) (fun h205 e205 m205 => ?_)
        have ok205 := m205.ok
        have M205 := Mo.tr ok (Mo.refl (A := (fun x => x = a ∨ x = (sT S 257 a) ∨ x = (sT S 258 a) ∨ x = (sT S 259 a) ∨ x = (sT S 1155 w))) ok) m205 (fun x e => (Or.inl e))
        have ot5 : rl h205 (sT S 1155 w) = T := by rw [m205.rb ok KO (Ne.symm no0)]; exact ot2
        refine w_aload_n d114_208 rfl ?_
        refine w_getI (x := 1) d114_209 (ok205.kd ha) (by rw [e205, FI_sFI, if_pos ⟨rfl, rfl⟩]) ?_
        refine w_ifeq d114_212 (fun c212 => ?_) (fun c212 => ?_)
        · exact absurd c212 (by decide)
        · refine w_aload_n d114_215 rfl ?_
          refine w_dloadS d114_216 (ok205.kd ha) (fr257 ok205 ha) ?_
          refine w_aload_n d114_219 rfl ?_
          refine w_dloadS d114_220 (ok205.kd hw) (fr1155 ok205 hw) ?_
          refine w_iconst d114_223 (by decide) ?_
          refine w_aload_n d114_224 rfl ?_
          refine w_dloadS d114_225 (ok205.kd hw) (fr1155 ok205 hw) ?_
          refine w_callv1 d114_228 (by omega) rfl (ok205.kd (kT1155 ok205 hw)) (by simp) (Nat.le_of_ble_eq_true rfl) ?_
          refine r_Row_size ok205 (kT1155 ok205 hw) ?_
          rw [ot5]
          refine w_callv4 d114_231 (by omega) rfl (ok205.kd (kT257 ok205 ha)) (by simp) (Nat.le_of_ble_eq_true rfl) ?_
          refine r_Row_set (f := 0) (e := T.length) (by omega) ok205 (kT257 ok205 ha) (kT1155 ok205 hw) (Ne.symm (no 257 (by decide) (by decide))) ⟨by omega, by rw [ot5]; exact Nat.le_refl _⟩ (Or.inr (by omega)) (fun h231 m231 e231_1 => ?_)
          rw [ot5, sl_all] at e231_1
          have ot6 : rl h231 (sT S 1155 w) = T := by rw [m231.rb ok205 KO (Ne.symm (no 257 (by decide) (by decide)))]; exact ot5
          have ok231 := m231.ok
          have M231 := Mo.tr ok M205 m231 (fun x e => (Or.inr (Or.inl e)))
          refine w_aload_n d114_234 rfl ?_
          refine w_getI (x := (rix (tgR t))) d114_235 (ok231.kd hdd) ((M231.fi ok (by omega) (by intro z; rcases z with z | z | z | z | z <;> (rw [z] at hdd; omega)) 131).trans D3) ?_
          refine w_bipush d114_238 (by decide) ?_
          refine w_icmpne d114_240 (fun c240 => ?_) (fun c240 => ?_)
          · have n7 : ¬ rix (tgR t) = 7 := c240
            refine w_aload_n d114_248 rfl ?_
            refine w_dloadS d114_249 (ok231.kd ha) (fr258 ok231 ha) ?_
            refine w_aload_n d114_252 rfl ?_
            refine w_dloadS d114_253 (ok231.kd hw) (fr1155 ok231 hw) ?_
            refine w_iconst d114_256 (by decide) ?_
            refine w_aload_n d114_257 rfl ?_
            refine w_dloadS d114_258 (ok231.kd hw) (fr1155 ok231 hw) ?_
            refine w_callv1 d114_261 (by omega) rfl (ok231.kd (kT1155 ok231 hw)) (by simp) (Nat.le_of_ble_eq_true rfl) ?_
            refine r_Row_size ok231 (kT1155 ok231 hw) ?_
            rw [ot6]
            refine w_callv4 d114_264 (by omega) rfl (ok231.kd (kT258 ok231 ha)) (by simp) (Nat.le_of_ble_eq_true rfl) ?_
            refine r_Row_set (f := 0) (e := T.length) (by omega) ok231 (kT258 ok231 ha) (kT1155 ok231 hw) (Ne.symm (no 258 (by decide) (by decide))) ⟨by omega, by rw [ot6]; exact Nat.le_refl _⟩ (Or.inr (by omega)) (fun h264 m264 e264_1 => ?_)
            rw [ot6, sl_all, ← hn n7] at e264_1
            have ok264 := m264.ok
            have M264 := Mo.tr ok M231 m264 (fun x e => (Or.inr (Or.inr (Or.inl e))))
            refine w_return d114_267 ?_
            have eV : V = (true, T, F, []) := by rw [hV]; unfold finV; rw [if_neg (fun z => z ye), if_neg sm]
            rw [eV] at kk
            have c7 : (∀ f, 256 ≤ f → f ≤ 262 → FI h264 f a = FI h205 f a) ∧ FL h264 262 a = FL h205 262 a ∧ AL h264 (sT S 260 a) = AL h205 (sT S 260 a) ∧ rl h264 (sT S 257 a) = rl h231 (sT S 257 a) ∧ rl h264 (sT S 259 a) = rl h205 (sT S 259 a) ∧ F.length ≤ 600 := by
              first
              | exact ⟨fun f f1 f2 => by rw [m264.fi ok231 (by omega) (pT 258 (by decide)) f (by omega), m231.fi ok205 (by omega) (pT 257 (by decide)) f (by omega)], by rw [m264.fl ok231 (by omega) (pT 258 (by decide)) 262, m231.fl ok205 (by omega) (pT 257 (by decide)) 262], by rw [m264.al ok231 (by omega) (ne 260 258 (by decide) (by decide) (by decide)), m231.al ok205 (by omega) (ne 260 257 (by decide) (by decide) (by decide))], m264.rb ok231 K7 (ne 257 258 (by decide) (by decide) (by decide)), by rw [m264.rb ok231 K9 (ne 259 258 (by decide) (by decide) (by decide)), m231.rb ok205 K9 (ne 259 257 (by decide) (by decide) (by decide))], by rw [hn n7]; omega⟩
              | exact ⟨fun f f1 f2 => by rw [m264.fi ok245 (by omega) (pT 258 (by decide)) f (by omega), m245.fi ok231 (by omega) no0 f (by omega), m231.fi ok205 (by omega) (pT 257 (by decide)) f (by omega)], by rw [m264.fl ok245 (by omega) (pT 258 (by decide)) 262, m245.fl ok231 (by omega) no0 262, m231.fl ok205 (by omega) (pT 257 (by decide)) 262], by rw [m264.al ok245 (by omega) (ne 260 258 (by decide) (by decide) (by decide)), m245.al ok231 (by omega) (no 260 (by decide) (by decide)), m231.al ok205 (by omega) (ne 260 257 (by decide) (by decide) (by decide))], by rw [m264.rb ok245 K7 (ne 257 258 (by decide) (by decide) (by decide)), m245.rb ok231 K7 (no 257 (by decide) (by decide))], by rw [m264.rb ok245 K9 (ne 259 258 (by decide) (by decide) (by decide)), m245.rb ok231 K9 (no 259 (by decide) (by decide)), m231.rb ok205 K9 (ne 259 257 (by decide) (by decide) (by decide))], fl⟩
            obtain ⟨c1, c2, c3, c4, c5, c6⟩ := c7
            refine kk h264 M264 ⟨by rw [c1 256 (by decide) (by decide), e205, FI_sFI, if_pos ⟨rfl, rfl⟩]; first | done | rfl, by rw [c4]; exact e231_1, e264_1, by rw [c5, m205.rb ok K9 (Ne.symm (pT 259 (by decide))), oy, ye]; first | done | rfl, by show T.length ≤ 600; omega, c6, Nat.zero_le _⟩ (fun ps D => ⟨by rw [c1 261 (by decide) (by decide), e205, FI_sFI, if_neg (fun z => absurd z.1 (by decide))]; exact D.1, D.2.1, fun i hi => by rw [c3, e205]; exact D.2.2 i hi⟩) (by rw [c2, e205]; rfl)
          · have i7 : rix (tgR t) = 7 := by omega
            obtain ⟨sc, hT, hF⟩ := hs i7
            have fl : F.length ≤ 600 := by rw [hF]; have := wsT_le (ss := ss) ss.length; rw [← hT] at this; omega
            refine w_aload_n d114_243 rfl ?_
            refine w_iconst d114_244 (by decide) ?_
            refine w_callv2 d114_245 (by omega) rfl (ok231.kd hw) (by simp) (Nat.le_of_ble_eq_true rfl) ?_
            have sc2 := (sc.f ok m205 hw (Or.inl (fun z => by rw [z] at hw; omega)) (fun z => by have := kT1159 ok hw; rw [z] at this; omega) (fun z => by have := kT1160 ok hw; rw [z] at this; omega) (fun z => by have := kT1161 ok hw; rw [z] at this; omega)).f ok205 m231 hw (Or.inl (fun z => by rw [z] at hw; omega)) (fun z => by have := kT1159 ok hw; rw [z] at this; omega) (fun z => by have := kT1160 ok hw; rw [z] at this; omega) (fun z => by have := kT1161 ok hw; rw [z] at this; omega)
            have oc2 : 601 ≤ cap h231 (sT S 1155 w) := cT1155 ok231 hw
            refine k_Wk_writeSources (o := true) ok231 (by omega) hw sc2 rfl (fun h245 m245 e245_1 e245_2 => ?_)
            rw [← hF, (addBs_sz oc2).2 (by omega)] at e245_1
            have ok245 := m245.ok
            have M245 := Mo.tr ok M231 m245 (fun x e => (Or.inr (Or.inr (Or.inr (Or.inr e)))))
            refine w_aload_n d114_248 rfl ?_
            refine w_dloadS d114_249 (ok245.kd ha) (fr258 ok245 ha) ?_
            refine w_aload_n d114_252 rfl ?_
            refine w_dloadS d114_253 (ok245.kd hw) (fr1155 ok245 hw) ?_
            refine w_iconst d114_256 (by decide) ?_
            refine w_aload_n d114_257 rfl ?_
            refine w_dloadS d114_258 (ok245.kd hw) (fr1155 ok245 hw) ?_
            refine w_callv1 d114_261 (by omega) rfl (ok245.kd (kT1155 ok245 hw)) (by simp) (Nat.le_of_ble_eq_true rfl) ?_
            refine r_Row_size ok245 (kT1155 ok245 hw) ?_
            rw [e245_1]
            refine w_callv4 d114_264 (by omega) rfl (ok245.kd (kT258 ok245 ha)) (by simp) (Nat.le_of_ble_eq_true rfl) ?_
            refine r_Row_set (f := 0) (e := F.length) (by omega) ok245 (kT258 ok245 ha) (kT1155 ok245 hw) (Ne.symm (no 258 (by decide) (by decide))) ⟨by omega, by rw [e245_1]; exact Nat.le_refl _⟩ (Or.inr (by omega)) (fun h264 m264 e264_1 => ?_)
            rw [e245_1, sl_all] at e264_1
            have ok264 := m264.ok
            have M264 := Mo.tr ok M245 m264 (fun x e => (Or.inr (Or.inr (Or.inl e))))
            refine w_return d114_267 ?_
            have eV : V = (true, T, F, []) := by rw [hV]; unfold finV; rw [if_neg (fun z => z ye), if_neg sm]
            rw [eV] at kk
            have c7 : (∀ f, 256 ≤ f → f ≤ 262 → FI h264 f a = FI h205 f a) ∧ FL h264 262 a = FL h205 262 a ∧ AL h264 (sT S 260 a) = AL h205 (sT S 260 a) ∧ rl h264 (sT S 257 a) = rl h231 (sT S 257 a) ∧ rl h264 (sT S 259 a) = rl h205 (sT S 259 a) ∧ F.length ≤ 600 := by
              first
              | exact ⟨fun f f1 f2 => by rw [m264.fi ok231 (by omega) (pT 258 (by decide)) f (by omega), m231.fi ok205 (by omega) (pT 257 (by decide)) f (by omega)], by rw [m264.fl ok231 (by omega) (pT 258 (by decide)) 262, m231.fl ok205 (by omega) (pT 257 (by decide)) 262], by rw [m264.al ok231 (by omega) (ne 260 258 (by decide) (by decide) (by decide)), m231.al ok205 (by omega) (ne 260 257 (by decide) (by decide) (by decide))], m264.rb ok231 K7 (ne 257 258 (by decide) (by decide) (by decide)), by rw [m264.rb ok231 K9 (ne 259 258 (by decide) (by decide) (by decide)), m231.rb ok205 K9 (ne 259 257 (by decide) (by decide) (by decide))], by rw [hn n7]; omega⟩
              | exact ⟨fun f f1 f2 => by rw [m264.fi ok245 (by omega) (pT 258 (by decide)) f (by omega), m245.fi ok231 (by omega) no0 f (by omega), m231.fi ok205 (by omega) (pT 257 (by decide)) f (by omega)], by rw [m264.fl ok245 (by omega) (pT 258 (by decide)) 262, m245.fl ok231 (by omega) no0 262, m231.fl ok205 (by omega) (pT 257 (by decide)) 262], by rw [m264.al ok245 (by omega) (ne 260 258 (by decide) (by decide) (by decide)), m245.al ok231 (by omega) (no 260 (by decide) (by decide)), m231.al ok205 (by omega) (ne 260 257 (by decide) (by decide) (by decide))], by rw [m264.rb ok245 K7 (ne 257 258 (by decide) (by decide) (by decide)), m245.rb ok231 K7 (no 257 (by decide) (by decide))], by rw [m264.rb ok245 K9 (ne 259 258 (by decide) (by decide) (by decide)), m245.rb ok231 K9 (no 259 (by decide) (by decide)), m231.rb ok205 K9 (ne 259 257 (by decide) (by decide) (by decide))], fl⟩
            obtain ⟨c1, c2, c3, c4, c5, c6⟩ := c7
            refine kk h264 M264 ⟨by rw [c1 256 (by decide) (by decide), e205, FI_sFI, if_pos ⟨rfl, rfl⟩]; first | done | rfl, by rw [c4]; exact e231_1, e264_1, by rw [c5, m205.rb ok K9 (Ne.symm (pT 259 (by decide))), oy, ye]; first | done | rfl, by show T.length ≤ 600; omega, c6, Nat.zero_le _⟩ (fun ps D => ⟨by rw [c1 261 (by decide) (by decide), e205, FI_sFI, if_neg (fun z => absurd z.1 (by decide))]; exact D.1, D.2.1, fun i hi => by rw [c3, e205]; exact D.2.2 i hi⟩) (by rw [c2, e205]; rfl)
    · have lg : 600 < T.length := (addBs_sz (T := T) oc).1.mp (by omega)
      refine w_aload_n d114_180 rfl ?_
      refine w_dloadS d114_181 (ok.kd ha) (fr259 ok ha) ?_
      obtain ⟨g184, v184, s184⟩ := tg.tx ok 28 (by decide)
      refine w_getstaticS d114_184 v184 ?_
      refine w_callv2 d114_186 (by omega) rfl (ok.kd (kT259 ok ha)) (by simp) (Nat.le_of_ble_eq_true rfl) ?_
      refine r_Row_addText (by omega) ok (kT259 ok ha) s184 (fun h186 m186 e186_1 e186_2 => ?_)
      have ok186 := m186.ok
      have M186 := Mo.tr ok (Mo.refl (A := (fun x => x = a ∨ x = (sT S 257 a) ∨ x = (sT S 258 a) ∨ x = (sT S 259 a) ∨ x = (sT S 1155 w))) ok) m186 (fun x e => (Or.inr (Or.inr (Or.inr (Or.inl e)))))
      have l28 : (txt 28).length = 9 := by decide
      have ey : rl h186 (sT S 259 a) = txt 28 := by rw [e186_1, oy, ye]; exact addBs_fit (by have := cT259 ok ha; rw [l28]; simp only [List.length_nil]; omega)
      refine w_aload_n d114_189 rfl ?_
      refine w_aload_n d114_190 rfl ?_
      refine w_dloadS d114_191 (ok186.kd ha) (fr259 ok186 ha) ?_
      refine w_callv1 d114_194 (by omega) rfl (ok186.kd (kT259 ok186 ha)) (by simp) (Nat.le_of_ble_eq_true rfl) ?_
      refine r_Row_size ok186 (kT259 ok186 ha) ?_
      rw [ey]
      refine w_ifne d114_197 (fun c197 => ?_) (fun c197 => ?_)
      · refine w_iconst d114_204 (by decide) ?_
        refine wf256 d114_205 ok186 ha (Or.inl rfl) (fun h205 e205 m205 => ?_)
        have ok205 := m205.ok
        have M205 := Mo.tr ok M186 m205 (fun x e => (Or.inl e))
        refine w_aload_n d114_208 rfl ?_
        refine w_getI (x := 0) d114_209 (ok205.kd ha) (by rw [e205, FI_sFI, if_pos ⟨rfl, rfl⟩]) ?_
        refine w_ifeq d114_212 (fun c212 => ?_) (fun c212 => ?_)
        · refine w_return d114_267 ?_
          have eV : V = (false, [], [], (txt 28)) := by rw [hV]; unfold finV; rw [if_neg (fun z => z ye), if_pos lg]
          rw [eV] at kk
          refine kk h205 M205 ⟨by rw [e205, FI_sFI, if_pos ⟨rfl, rfl⟩]; first | done | rfl, ?_, ?_, ?_, Nat.zero_le _, Nat.zero_le _, ?_⟩ ?_ ?_
          · rw [m205.rb ok186 K7 (Ne.symm (pT 257 (by decide)))]; rw [m186.rb ok K7 (ne 257 259 (by decide) (by decide) (by decide))]; exact o7
          · rw [m205.rb ok186 K8 (Ne.symm (pT 258 (by decide)))]; rw [m186.rb ok K8 (ne 258 259 (by decide) (by decide) (by decide))]; exact o8
          · rw [m205.rb ok186 K9 (Ne.symm (pT 259 (by decide)))]; exact ey
          · show ((txt 28)).length ≤ 600; omega
          · exact fun ps D => ⟨by rw [e205, FI_sFI, if_neg (fun z => absurd z.1 (by decide))]; rw [m186.fi ok (by omega) (pT 259 (by decide)) 261]; exact D.1, D.2.1, fun i hi => by rw [e205]; show AL h186 _ i = _; rw [m186.al ok (by omega) (ne 260 259 (by decide) (by decide) (by decide))]; exact D.2.2 i hi⟩
          · rw [e205]; show FL h186 262 a = _; rw [m186.fl ok (by omega) (pT 259 (by decide)) 262]
        · exact absurd rfl c212
      · exact absurd c197 (by decide)
