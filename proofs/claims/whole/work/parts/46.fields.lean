/-! the fields' rules (written by wip/tools/m/shape3.py) -/
section FIELDS0
variable {S : Shp} {h : Hp} {a f n j : Nat}
theorem g_fr (ok : Ok S h) (ha : sK S a = kFld f) (hk : fk f ≠ 0) (h8 : f ≠ 1288) : FR h f a = some (sT S f a) := ok.st.2.1 f a hk h8 ha
theorem g_kT (ok : Ok S h) (ha : sK S a = kFld f) (hk : fk f = n) (hn : n ≠ 0) : sK S (sT S f a) = n := ((ok.so.2.2.1 f a (by omega) ha).1).trans hk
theorem g_lT (ok : Ok S h) (ha : sK S a = kFld f) (hk : fk f ≠ 0) (hl : fl f = n) (hn : n ≠ 0) : LN h (sT S f a) = n := ok.ln (by rw [(ok.so.2.2.1 f a hk ha).1]; exact hk) (((ok.so.2.2.1 f a hk ha).2.1 (by omega)).trans hl)
theorem g_cT (ok : Ok S h) (ha : sK S a = kFld f) (hk : fk f = 6) (hl : fc f = n) : n ≤ cap h (sT S f a) := by
  have k := ok.so.2.2.1 f a (by omega) ha
  have := ok.cm (k.1.trans hk)
  omega
theorem g_er (ok : Ok S h) (ha : sK S a = kFld f) (hk : fk f ≠ 0) (he : es f = 1) (hl : fl f = n) (hj : j < n) : AR h (sT S f a) j = some (sE S (sT S f a) j) := ok.st.2.2.1 f a j he ha (by rw [(ok.so.2.2.1 f a hk ha).2.1 (by omega)]; omega)
theorem g_kE {e : Nat} (ok : Ok S h) (ha : sK S a = kFld f) (hk : fk f ≠ 0) (he : ek f = e) (hl : fl f = n) (hj : j < n) (h0 : e ≠ 0) : sK S (sE S (sT S f a) j) = e := ((ok.so.2.2.2.1 f a j (by omega) ha (by rw [(ok.so.2.2.1 f a hk ha).2.1 (by omega)]; omega)).1).trans he
theorem g_rg {lo hi : Int} (ok : Ok S h) (ha : sK S a = kFld f) (h0 : kFld f ≠ 0) (hl : rlo f = lo) (hh : rhi f = hi) : lo ≤ FI h f a ∧ FI h f a ≤ hi := by
  have := ok.st.2.2.2.2.2.2.1 f a (by omega) ha
  omega
theorem g_ra {lo hi : Int} (ok : Ok S h) (ha : sK S a = kFld f) (hk : fk f = 40 ∨ fk f = 42) (hl : alo f = lo) (hh : ahi f = hi) (j : Nat) : lo ≤ AI h (sT S f a) j ∧ AI h (sT S f a) j ≤ hi := by
  have := ok.st.2.2.2.2.2.2.2.1 f a j hk ha
  omega
theorem g_ix {i : Int} (ok : Ok S h) (ha : sK S a = kFld f) (hk : fk f ≠ 0) (hl : fl f = n) (hi : 0 ≤ i ∧ i < (n : Int)) : KD h (sT S f a) = fk f ∧ bnd i (LN h (sT S f a)) := by
  have k := ok.so.2.2.1 f a hk ha
  refine ⟨ok.kd k.1 hk, ?_⟩
  rw [g_lT ok ha hk hl (by omega)]
  exact hi
variable {G : Nat → Option Nat} {d k pc pc' : Nat} {ls : List (Option MV)} {st : List MV} {Q : Option MV → Hp → Prop}
theorem p_FI {x : Int} (hd : dc k pc = some (.putfield f, pc') ∨ (dc k pc = some (.putstatic f, pc') ∧ (x = 0 ∨ x = 1))) (ok : Ok S h) (ha : sK S a = kFld f) (hf : f < 1792 ∧ f / 128 ≠ 5) (hr : rlo f ≤ x ∧ x ≤ rhi f)
    (kk : ∀ h', h' = sFI h f a x → Mo S (fun y => y = a) h h' → Wp G d k pc' ls st h' Q) : Wp G d k pc ls (vI x :: vR (some a) :: st) h Q := by
  have hk : KD h a = kFld f := ok.kd ha (by rw [kFlt hf.1]; omega)
  rcases hd with hd | ⟨hd, hx⟩
  · exact w_putfield hd ⟨hk, by omega⟩ (kk _ rfl (Mo.pFI ok ha hf hr))
  · exact w_putstatic hd ⟨⟨hk, by omega⟩, hx⟩ (kk _ rfl (Mo.pFI ok ha hf hr))
theorem p_FL {x : Int64} (hd : dc k pc = some (.fstore f, pc')) (ok : Ok S h) (ha : sK S a = kFld f) (hf : f < 1792 ∧ f / 128 ≠ 5)
    (kk : ∀ h', h' = sFL h f a x → Mo S (fun y => y = a) h h' → Wp G d k pc' ls st h' Q) : Wp G d k pc ls (vJ x :: vR (some a) :: st) h Q :=
  w_fstore hd ⟨ok.kd ha (by rw [kFlt hf.1]; omega), by omega⟩ (kk _ rfl (Mo.pFL ok ha hf))
theorem p_AI {x i : Int} (hd : dc k pc = some (.iastore, pc')) (ok : Ok S h) (ha : sK S a = kFld f) (hk : fk f = 40) (hl : fl f = n) (hi : 0 ≤ i ∧ i < (n : Int)) (hr : alo f ≤ x ∧ x ≤ ahi f)
    (kk : ∀ h', h' = sAI h (sT S f a) i.toNat x → Mo S (fun y => y = sT S f a) h h' → Wp G d k pc' ls st h' Q) : Wp G d k pc ls (vI x :: vI i :: vR (some (sT S f a)) :: st) h Q :=
  w_iastore hd (by have := g_ix (i := i) ok ha (by omega) hl hi; rw [hk] at this; exact this) (kk _ rfl (Mo.pAI ok ha (Or.inl hk) hr))
theorem p_AZ {x i : Int} (hd : dc k pc = some (.bastore, pc')) (ok : Ok S h) (ha : sK S a = kFld f) (hk : fk f = 42) (hl : fl f = n) (h01 : alo f = 0 ∧ ahi f = 1) (hi : 0 ≤ i ∧ i < (n : Int)) (hr : x = 0 ∨ x = 1)
    (kk : ∀ h', h' = sAI h (sT S f a) i.toNat x → Mo S (fun y => y = sT S f a) h h' → Wp G d k pc' ls st h' Q) : Wp G d k pc ls (vI x :: vI i :: vR (some (sT S f a)) :: st) h Q :=
  w_bastore hd (by have := g_ix (i := i) ok ha (by omega) hl hi; rw [hk] at this; exact ⟨Or.inr ⟨this.1, hr⟩, this.2⟩) (kk _ rfl (Mo.pAI ok ha (Or.inr hk) (by omega)))
theorem p_AB {x i : Int} (hd : dc k pc = some (.bastore, pc')) (ok : Ok S h) (ha : sK S a = 1) (hi : 0 ≤ i ∧ i < 2048) (hr : -128 ≤ x ∧ x < 128)
    (kk : ∀ h', h' = sAI h (sT S 0 a) i.toNat x → Mo S (fun y => y = sT S 0 a) h h' → Wp G d k pc' ls st h' Q) : Wp G d k pc ls (vI x :: vI i :: vR (some (sT S 0 a)) :: st) h Q :=
  w_bastore hd (by have := g_ix (i := i) (f := 0) (n := 2048) ok ha (by decide) rfl (by omega); exact ⟨Or.inl ⟨this.1, hr⟩, this.2⟩) (kk _ rfl (Mo.pAB ok ha hr))
theorem p_AL {x : Int64} {i : Int} (hd : dc k pc = some (.lastore, pc')) (ok : Ok S h) (ha : sK S a = kFld f) (hk : fk f = 44) (hl : fl f = n) (hi : 0 ≤ i ∧ i < (n : Int))
    (kk : ∀ h', h' = sAL h (sT S f a) i.toNat x → Mo S (fun y => y = sT S f a) h h' → Wp G d k pc' ls st h' Q) : Wp G d k pc ls (vJ x :: vI i :: vR (some (sT S f a)) :: st) h Q :=
  w_lastore hd (by have := g_ix (i := i) ok ha (by omega) hl hi; rw [hk] at this; exact this) (kk _ rfl (Mo.pAL ok ha hk))
theorem p_len (hd : dc k pc = some (.arraylength, pc')) (ok : Ok S h) (ha : sK S a = kFld f) (hk : isArr (fk f) = true) (hl : fl f = n) (hn : n ≠ 0) (kk : Wp G d k pc' ls (vI (n : Nat) :: st) h Q) : Wp G d k pc ls (vR (some (sT S f a)) :: st) h Q := by
  have h0 : fk f ≠ 0 := fun q => by rw [q] at hk; cases hk
  refine w_arraylength hd (by rw [ok.kd (ok.so.2.2.1 f a h0 ha).1 h0]; exact hk) ?_
  rw [g_lT ok ha h0 hl hn]
  exact kk
end FIELDS0
section FIELDS
variable {S : Shp} {h : Hp} {a j : Nat}
theorem fr0 (ok : Ok S h) (ha : sK S a = 1) : FR h 0 a = some (sT S 0 a) := g_fr ok ha (by decide) (by decide)
theorem kT0 (ok : Ok S h) (ha : sK S a = 1) : sK S (sT S 0 a) = 41 := g_kT ok ha rfl (by decide)
theorem lT0 (ok : Ok S h) (ha : sK S a = 1) : LN h (sT S 0 a) = 2048 := g_lT ok ha (by decide) rfl (by decide)
theorem gi0 {i : Int} (ok : Ok S h) (ha : sK S a = 1) (hi : 0 ≤ i ∧ i < 2048) : isBA (KD h (sT S 0 a)) = true ∧ bnd i (LN h (sT S 0 a)) := ⟨by rw [(g_ix ok ha (by decide) rfl hi).1]; rfl, (g_ix ok ha (by decide) rfl hi).2⟩
theorem rg1 (ok : Ok S h) (ha : sK S a = 1) : 0 ≤ FI h 1 a ∧ FI h 1 a ≤ 2048 := g_rg ok ha (by decide) rfl rfl
theorem rg2 (ok : Ok S h) (ha : sK S a = 1) : (-1) ≤ FI h 2 a ∧ FI h 2 a ≤ 2048 := g_rg ok ha (by decide) rfl rfl
theorem rg3 (ok : Ok S h) (ha : sK S a = 1) : 0 ≤ FI h 3 a ∧ FI h 3 a ≤ 1 := g_rg ok ha (by decide) rfl rfl
theorem rg128 (ok : Ok S h) (ha : sK S a = 2) : 0 ≤ FI h 128 a ∧ FI h 128 a ≤ 1 := g_rg ok ha (by decide) rfl rfl
theorem rg131 (ok : Ok S h) (ha : sK S a = 2) : (-1) ≤ FI h 131 a ∧ FI h 131 a ≤ 7 := g_rg ok ha (by decide) rfl rfl
theorem rg133 (ok : Ok S h) (ha : sK S a = 2) : 0 ≤ FI h 133 a ∧ FI h 133 a ≤ 6 := g_rg ok ha (by decide) rfl rfl
theorem fr134 (ok : Ok S h) (ha : sK S a = 2) : FR h 134 a = some (sT S 134 a) := g_fr ok ha (by decide) (by decide)
theorem kT134 (ok : Ok S h) (ha : sK S a = 2) : sK S (sT S 134 a) = 42 := g_kT ok ha rfl (by decide)
theorem lT134 (ok : Ok S h) (ha : sK S a = 2) : LN h (sT S 134 a) = 6 := g_lT ok ha (by decide) rfl (by decide)
theorem gi134 {i : Int} (ok : Ok S h) (ha : sK S a = 2) (hi : 0 ≤ i ∧ i < 6) : isBA (KD h (sT S 134 a)) = true ∧ bnd i (LN h (sT S 134 a)) := ⟨by rw [(g_ix ok ha (by decide) rfl hi).1]; rfl, (g_ix ok ha (by decide) rfl hi).2⟩
theorem ra134 (ok : Ok S h) (ha : sK S a = 2) (j : Nat) : 0 ≤ AI h (sT S 134 a) j ∧ AI h (sT S 134 a) j ≤ 1 := g_ra ok ha (by decide) rfl rfl j
theorem fr135 (ok : Ok S h) (ha : sK S a = 2) : FR h 135 a = some (sT S 135 a) := g_fr ok ha (by decide) (by decide)
theorem kT135 (ok : Ok S h) (ha : sK S a = 2) : sK S (sT S 135 a) = 44 := g_kT ok ha rfl (by decide)
theorem lT135 (ok : Ok S h) (ha : sK S a = 2) : LN h (sT S 135 a) = 6 := g_lT ok ha (by decide) rfl (by decide)
theorem gi135 {i : Int} (ok : Ok S h) (ha : sK S a = 2) (hi : 0 ≤ i ∧ i < 6) : KD h (sT S 135 a) = 44 ∧ bnd i (LN h (sT S 135 a)) := g_ix ok ha (by decide) rfl hi
theorem fr136 (ok : Ok S h) (ha : sK S a = 2) : FR h 136 a = some (sT S 136 a) := g_fr ok ha (by decide) (by decide)
theorem kT136 (ok : Ok S h) (ha : sK S a = 2) : sK S (sT S 136 a) = 44 := g_kT ok ha rfl (by decide)
theorem lT136 (ok : Ok S h) (ha : sK S a = 2) : LN h (sT S 136 a) = 6 := g_lT ok ha (by decide) rfl (by decide)
theorem gi136 {i : Int} (ok : Ok S h) (ha : sK S a = 2) (hi : 0 ≤ i ∧ i < 6) : KD h (sT S 136 a) = 44 ∧ bnd i (LN h (sT S 136 a)) := g_ix ok ha (by decide) rfl hi
theorem rg138 (ok : Ok S h) (ha : sK S a = 2) : 0 ≤ FI h 138 a ∧ FI h 138 a ≤ 9999 := g_rg ok ha (by decide) rfl rfl
theorem fr139 (ok : Ok S h) (ha : sK S a = 2) : FR h 139 a = some (sT S 139 a) := g_fr ok ha (by decide) (by decide)
theorem kT139 (ok : Ok S h) (ha : sK S a = 2) : sK S (sT S 139 a) = 6 := g_kT ok ha rfl (by decide)
theorem cT139 (ok : Ok S h) (ha : sK S a = 2) : 0 ≤ cap h (sT S 139 a) := g_cT ok ha rfl rfl
theorem rg256 (ok : Ok S h) (ha : sK S a = 3) : 0 ≤ FI h 256 a ∧ FI h 256 a ≤ 1 := g_rg ok ha (by decide) rfl rfl
theorem fr257 (ok : Ok S h) (ha : sK S a = 3) : FR h 257 a = some (sT S 257 a) := g_fr ok ha (by decide) (by decide)
theorem kT257 (ok : Ok S h) (ha : sK S a = 3) : sK S (sT S 257 a) = 6 := g_kT ok ha rfl (by decide)
theorem cT257 (ok : Ok S h) (ha : sK S a = 3) : 0 ≤ cap h (sT S 257 a) := g_cT ok ha rfl rfl
theorem fr258 (ok : Ok S h) (ha : sK S a = 3) : FR h 258 a = some (sT S 258 a) := g_fr ok ha (by decide) (by decide)
theorem kT258 (ok : Ok S h) (ha : sK S a = 3) : sK S (sT S 258 a) = 6 := g_kT ok ha rfl (by decide)
theorem cT258 (ok : Ok S h) (ha : sK S a = 3) : 0 ≤ cap h (sT S 258 a) := g_cT ok ha rfl rfl
theorem fr259 (ok : Ok S h) (ha : sK S a = 3) : FR h 259 a = some (sT S 259 a) := g_fr ok ha (by decide) (by decide)
theorem kT259 (ok : Ok S h) (ha : sK S a = 3) : sK S (sT S 259 a) = 6 := g_kT ok ha rfl (by decide)
theorem cT259 (ok : Ok S h) (ha : sK S a = 3) : 24 ≤ cap h (sT S 259 a) := g_cT ok ha rfl rfl
theorem fr260 (ok : Ok S h) (ha : sK S a = 3) : FR h 260 a = some (sT S 260 a) := g_fr ok ha (by decide) (by decide)
theorem kT260 (ok : Ok S h) (ha : sK S a = 3) : sK S (sT S 260 a) = 44 := g_kT ok ha rfl (by decide)
theorem lT260 (ok : Ok S h) (ha : sK S a = 3) : LN h (sT S 260 a) = 7 := g_lT ok ha (by decide) rfl (by decide)
theorem gi260 {i : Int} (ok : Ok S h) (ha : sK S a = 3) (hi : 0 ≤ i ∧ i < 7) : KD h (sT S 260 a) = 44 ∧ bnd i (LN h (sT S 260 a)) := g_ix ok ha (by decide) rfl hi
theorem rg261 (ok : Ok S h) (ha : sK S a = 3) : 0 ≤ FI h 261 a ∧ FI h 261 a ≤ 7 := g_rg ok ha (by decide) rfl rfl
theorem rg384 (ok : Ok S h) (ha : sK S a = 4) : 0 ≤ FI h 384 a ∧ FI h 384 a ≤ 16 := g_rg ok ha (by decide) rfl rfl
theorem fr385 (ok : Ok S h) (ha : sK S a = 4) : FR h 385 a = some (sT S 385 a) := g_fr ok ha (by decide) (by decide)
theorem kT385 (ok : Ok S h) (ha : sK S a = 4) : sK S (sT S 385 a) = 44 := g_kT ok ha rfl (by decide)
theorem lT385 (ok : Ok S h) (ha : sK S a = 4) : LN h (sT S 385 a) = 16 := g_lT ok ha (by decide) rfl (by decide)
theorem gi385 {i : Int} (ok : Ok S h) (ha : sK S a = 4) (hi : 0 ≤ i ∧ i < 16) : KD h (sT S 385 a) = 44 ∧ bnd i (LN h (sT S 385 a)) := g_ix ok ha (by decide) rfl hi
theorem fr386 (ok : Ok S h) (ha : sK S a = 4) : FR h 386 a = some (sT S 386 a) := g_fr ok ha (by decide) (by decide)
theorem kT386 (ok : Ok S h) (ha : sK S a = 4) : sK S (sT S 386 a) = 44 := g_kT ok ha rfl (by decide)
theorem lT386 (ok : Ok S h) (ha : sK S a = 4) : LN h (sT S 386 a) = 16 := g_lT ok ha (by decide) rfl (by decide)
theorem gi386 {i : Int} (ok : Ok S h) (ha : sK S a = 4) (hi : 0 ≤ i ∧ i < 16) : KD h (sT S 386 a) = 44 ∧ bnd i (LN h (sT S 386 a)) := g_ix ok ha (by decide) rfl hi
theorem fr387 (ok : Ok S h) (ha : sK S a = 4) : FR h 387 a = some (sT S 387 a) := g_fr ok ha (by decide) (by decide)
theorem kT387 (ok : Ok S h) (ha : sK S a = 4) : sK S (sT S 387 a) = 55 := g_kT ok ha rfl (by decide)
theorem lT387 (ok : Ok S h) (ha : sK S a = 4) : LN h (sT S 387 a) = 16 := g_lT ok ha (by decide) rfl (by decide)
theorem gi387 {i : Int} (ok : Ok S h) (ha : sK S a = 4) (hi : 0 ≤ i ∧ i < 16) : isRA (KD h (sT S 387 a)) = true ∧ bnd i (LN h (sT S 387 a)) := ⟨by rw [(g_ix ok ha (by decide) rfl hi).1]; rfl, (g_ix ok ha (by decide) rfl hi).2⟩
theorem kE387 (ok : Ok S h) (ha : sK S a = 4) (hj : j < 16) : sK S (sE S (sT S 387 a) j) = 6 := g_kE ok ha (by decide) rfl rfl hj (by decide)
theorem rg388 (ok : Ok S h) (ha : sK S a = 4) : 0 ≤ FI h 388 a ∧ FI h 388 a ≤ 6 := g_rg ok ha (by decide) rfl rfl
theorem fr389 (ok : Ok S h) (ha : sK S a = 4) : FR h 389 a = some (sT S 389 a) := g_fr ok ha (by decide) (by decide)
theorem kT389 (ok : Ok S h) (ha : sK S a = 4) : sK S (sT S 389 a) = 44 := g_kT ok ha rfl (by decide)
theorem lT389 (ok : Ok S h) (ha : sK S a = 4) : LN h (sT S 389 a) = 6 := g_lT ok ha (by decide) rfl (by decide)
theorem gi389 {i : Int} (ok : Ok S h) (ha : sK S a = 4) (hi : 0 ≤ i ∧ i < 6) : KD h (sT S 389 a) = 44 ∧ bnd i (LN h (sT S 389 a)) := g_ix ok ha (by decide) rfl hi
theorem fr390 (ok : Ok S h) (ha : sK S a = 4) : FR h 390 a = some (sT S 390 a) := g_fr ok ha (by decide) (by decide)
theorem kT390 (ok : Ok S h) (ha : sK S a = 4) : sK S (sT S 390 a) = 40 := g_kT ok ha rfl (by decide)
theorem lT390 (ok : Ok S h) (ha : sK S a = 4) : LN h (sT S 390 a) = 6 := g_lT ok ha (by decide) rfl (by decide)
theorem gi390 {i : Int} (ok : Ok S h) (ha : sK S a = 4) (hi : 0 ≤ i ∧ i < 6) : isIA (KD h (sT S 390 a)) = true ∧ bnd i (LN h (sT S 390 a)) := ⟨by rw [(g_ix ok ha (by decide) rfl hi).1]; rfl, (g_ix ok ha (by decide) rfl hi).2⟩
theorem ra390 (ok : Ok S h) (ha : sK S a = 4) (j : Nat) : 0 ≤ AI h (sT S 390 a) j ∧ AI h (sT S 390 a) j ≤ 9999 := g_ra ok ha (by decide) rfl rfl j
theorem rg391 (ok : Ok S h) (ha : sK S a = 4) : 0 ≤ FI h 391 a ∧ FI h 391 a ≤ 14 := g_rg ok ha (by decide) rfl rfl
theorem fr392 (ok : Ok S h) (ha : sK S a = 4) : FR h 392 a = some (sT S 392 a) := g_fr ok ha (by decide) (by decide)
theorem kT392 (ok : Ok S h) (ha : sK S a = 4) : sK S (sT S 392 a) = 51 := g_kT ok ha rfl (by decide)
theorem lT392 (ok : Ok S h) (ha : sK S a = 4) : LN h (sT S 392 a) = 14 := g_lT ok ha (by decide) rfl (by decide)
theorem gi392 {i : Int} (ok : Ok S h) (ha : sK S a = 4) (hi : 0 ≤ i ∧ i < 14) : isRA (KD h (sT S 392 a)) = true ∧ bnd i (LN h (sT S 392 a)) := ⟨by rw [(g_ix ok ha (by decide) rfl hi).1]; rfl, (g_ix ok ha (by decide) rfl hi).2⟩
theorem er392 (ok : Ok S h) (ha : sK S a = 4) (hj : j < 14) : AR h (sT S 392 a) j = some (sE S (sT S 392 a) j) := g_er ok ha (by decide) rfl rfl hj
theorem kE392 (ok : Ok S h) (ha : sK S a = 4) (hj : j < 14) : sK S (sE S (sT S 392 a) j) = 2 := g_kE ok ha (by decide) rfl rfl hj (by decide)
theorem fr393 (ok : Ok S h) (ha : sK S a = 4) : FR h 393 a = some (sT S 393 a) := g_fr ok ha (by decide) (by decide)
theorem kT393 (ok : Ok S h) (ha : sK S a = 4) : sK S (sT S 393 a) = 40 := g_kT ok ha rfl (by decide)
theorem lT393 (ok : Ok S h) (ha : sK S a = 4) : LN h (sT S 393 a) = 14 := g_lT ok ha (by decide) rfl (by decide)
theorem gi393 {i : Int} (ok : Ok S h) (ha : sK S a = 4) (hi : 0 ≤ i ∧ i < 14) : isIA (KD h (sT S 393 a)) = true ∧ bnd i (LN h (sT S 393 a)) := ⟨by rw [(g_ix ok ha (by decide) rfl hi).1]; rfl, (g_ix ok ha (by decide) rfl hi).2⟩
theorem ra393 (ok : Ok S h) (ha : sK S a = 4) (j : Nat) : 0 ≤ AI h (sT S 393 a) j ∧ AI h (sT S 393 a) j ≤ 15 := g_ra ok ha (by decide) rfl rfl j
theorem fr512 (ok : Ok S h) (ha : sK S a = 5) : FR h 512 a = some (sT S 512 a) := g_fr ok ha (by decide) (by decide)
theorem kT512 (ok : Ok S h) (ha : sK S a = 5) : sK S (sT S 512 a) = 6 := g_kT ok ha rfl (by decide)
theorem cT512 (ok : Ok S h) (ha : sK S a = 5) : 4096 ≤ cap h (sT S 512 a) := g_cT ok ha rfl rfl
theorem fr513 (ok : Ok S h) (ha : sK S a = 5) : FR h 513 a = some (sT S 513 a) := g_fr ok ha (by decide) (by decide)
theorem kT513 (ok : Ok S h) (ha : sK S a = 5) : sK S (sT S 513 a) = 75 := g_kT ok ha rfl (by decide)
theorem lT513 (ok : Ok S h) (ha : sK S a = 5) : LN h (sT S 513 a) = 35 := g_lT ok ha (by decide) rfl (by decide)
theorem gi513 {i : Int} (ok : Ok S h) (ha : sK S a = 5) (hi : 0 ≤ i ∧ i < 35) : isRA (KD h (sT S 513 a)) = true ∧ bnd i (LN h (sT S 513 a)) := ⟨by rw [(g_ix ok ha (by decide) rfl hi).1]; rfl, (g_ix ok ha (by decide) rfl hi).2⟩
theorem rg515 (ok : Ok S h) (ha : sK S a = 5) : (-1) ≤ FI h 515 a ∧ FI h 515 a ≤ 5000 := g_rg ok ha (by decide) rfl rfl
theorem rg516 (ok : Ok S h) (ha : sK S a = 5) : 0 ≤ FI h 516 a ∧ FI h 516 a ≤ 5000 := g_rg ok ha (by decide) rfl rfl
theorem fr517 (ok : Ok S h) (ha : sK S a = 5) : FR h 517 a = some (sT S 517 a) := g_fr ok ha (by decide) (by decide)
theorem kT517 (ok : Ok S h) (ha : sK S a = 5) : sK S (sT S 517 a) = 44 := g_kT ok ha rfl (by decide)
theorem lT517 (ok : Ok S h) (ha : sK S a = 5) : LN h (sT S 517 a) = 2 := g_lT ok ha (by decide) rfl (by decide)
theorem gi517 {i : Int} (ok : Ok S h) (ha : sK S a = 5) (hi : 0 ≤ i ∧ i < 2) : KD h (sT S 517 a) = 44 ∧ bnd i (LN h (sT S 517 a)) := g_ix ok ha (by decide) rfl hi
theorem fr518 (ok : Ok S h) (ha : sK S a = 5) : FR h 518 a = some (sT S 518 a) := g_fr ok ha (by decide) (by decide)
theorem kT518 (ok : Ok S h) (ha : sK S a = 5) : sK S (sT S 518 a) = 44 := g_kT ok ha rfl (by decide)
theorem lT518 (ok : Ok S h) (ha : sK S a = 5) : LN h (sT S 518 a) = 2 := g_lT ok ha (by decide) rfl (by decide)
theorem gi518 {i : Int} (ok : Ok S h) (ha : sK S a = 5) (hi : 0 ≤ i ∧ i < 2) : KD h (sT S 518 a) = 44 ∧ bnd i (LN h (sT S 518 a)) := g_ix ok ha (by decide) rfl hi
theorem rg519 (ok : Ok S h) (ha : sK S a = 5) : 0 ≤ FI h 519 a ∧ FI h 519 a ≤ 2 := g_rg ok ha (by decide) rfl rfl
theorem fr520 (ok : Ok S h) (ha : sK S a = 5) : FR h 520 a = some (sT S 520 a) := g_fr ok ha (by decide) (by decide)
theorem kT520 (ok : Ok S h) (ha : sK S a = 5) : sK S (sT S 520 a) = 40 := g_kT ok ha rfl (by decide)
theorem lT520 (ok : Ok S h) (ha : sK S a = 5) : LN h (sT S 520 a) = 5 := g_lT ok ha (by decide) rfl (by decide)
theorem gi520 {i : Int} (ok : Ok S h) (ha : sK S a = 5) (hi : 0 ≤ i ∧ i < 5) : isIA (KD h (sT S 520 a)) = true ∧ bnd i (LN h (sT S 520 a)) := ⟨by rw [(g_ix ok ha (by decide) rfl hi).1]; rfl, (g_ix ok ha (by decide) rfl hi).2⟩
theorem ra520 (ok : Ok S h) (ha : sK S a = 5) (j : Nat) : 0 ≤ AI h (sT S 520 a) j ∧ AI h (sT S 520 a) j ≤ 9999 := g_ra ok ha (by decide) rfl rfl j
theorem rg521 (ok : Ok S h) (ha : sK S a = 5) : 0 ≤ FI h 521 a ∧ FI h 521 a ≤ 5000 := g_rg ok ha (by decide) rfl rfl
theorem rg522 (ok : Ok S h) (ha : sK S a = 5) : 0 ≤ FI h 522 a ∧ FI h 522 a ≤ 5000 := g_rg ok ha (by decide) rfl rfl
theorem rg523 (ok : Ok S h) (ha : sK S a = 5) : 0 ≤ FI h 523 a ∧ FI h 523 a ≤ 5000 := g_rg ok ha (by decide) rfl rfl
theorem fr524 (ok : Ok S h) (ha : sK S a = 5) : FR h 524 a = some (sT S 524 a) := g_fr ok ha (by decide) (by decide)
theorem kT524 (ok : Ok S h) (ha : sK S a = 5) : sK S (sT S 524 a) = 2 := g_kT ok ha rfl (by decide)
theorem fr769 (ok : Ok S h) (ha : sK S a = 7) : FR h 769 a = some (sT S 769 a) := g_fr ok ha (by decide) (by decide)
theorem kT769 (ok : Ok S h) (ha : sK S a = 7) : sK S (sT S 769 a) = 8 := g_kT ok ha rfl (by decide)
theorem fr770 (ok : Ok S h) (ha : sK S a = 7) : FR h 770 a = some (sT S 770 a) := g_fr ok ha (by decide) (by decide)
theorem kT770 (ok : Ok S h) (ha : sK S a = 7) : sK S (sT S 770 a) = 4 := g_kT ok ha rfl (by decide)
theorem rg771 (ok : Ok S h) (ha : sK S a = 7) : 0 ≤ FI h 771 a ∧ FI h 771 a ≤ 1 := g_rg ok ha (by decide) rfl rfl
theorem rg772 (ok : Ok S h) (ha : sK S a = 7) : 0 ≤ FI h 772 a ∧ FI h 772 a ≤ 2147483647 := g_rg ok ha (by decide) rfl rfl
theorem fr773 (ok : Ok S h) (ha : sK S a = 7) : FR h 773 a = some (sT S 773 a) := g_fr ok ha (by decide) (by decide)
theorem kT773 (ok : Ok S h) (ha : sK S a = 7) : sK S (sT S 773 a) = 40 := g_kT ok ha rfl (by decide)
theorem lT773 (ok : Ok S h) (ha : sK S a = 7) : LN h (sT S 773 a) = 14 := g_lT ok ha (by decide) rfl (by decide)
theorem gi773 {i : Int} (ok : Ok S h) (ha : sK S a = 7) (hi : 0 ≤ i ∧ i < 14) : isIA (KD h (sT S 773 a)) = true ∧ bnd i (LN h (sT S 773 a)) := ⟨by rw [(g_ix ok ha (by decide) rfl hi).1]; rfl, (g_ix ok ha (by decide) rfl hi).2⟩
theorem ra773 (ok : Ok S h) (ha : sK S a = 7) (j : Nat) : 0 ≤ AI h (sT S 773 a) j ∧ AI h (sT S 773 a) j ≤ 1 := g_ra ok ha (by decide) rfl rfl j
theorem fr774 (ok : Ok S h) (ha : sK S a = 7) : FR h 774 a = some (sT S 774 a) := g_fr ok ha (by decide) (by decide)
theorem kT774 (ok : Ok S h) (ha : sK S a = 7) : sK S (sT S 774 a) = 40 := g_kT ok ha rfl (by decide)
theorem lT774 (ok : Ok S h) (ha : sK S a = 7) : LN h (sT S 774 a) = 14 := g_lT ok ha (by decide) rfl (by decide)
theorem gi774 {i : Int} (ok : Ok S h) (ha : sK S a = 7) (hi : 0 ≤ i ∧ i < 14) : isIA (KD h (sT S 774 a)) = true ∧ bnd i (LN h (sT S 774 a)) := ⟨by rw [(g_ix ok ha (by decide) rfl hi).1]; rfl, (g_ix ok ha (by decide) rfl hi).2⟩
theorem ra774 (ok : Ok S h) (ha : sK S a = 7) (j : Nat) : 0 ≤ AI h (sT S 774 a) j ∧ AI h (sT S 774 a) j ≤ 2 := g_ra ok ha (by decide) rfl rfl j
theorem fr775 (ok : Ok S h) (ha : sK S a = 7) : FR h 775 a = some (sT S 775 a) := g_fr ok ha (by decide) (by decide)
theorem kT775 (ok : Ok S h) (ha : sK S a = 7) : sK S (sT S 775 a) = 40 := g_kT ok ha rfl (by decide)
theorem lT775 (ok : Ok S h) (ha : sK S a = 7) : LN h (sT S 775 a) = 2 := g_lT ok ha (by decide) rfl (by decide)
theorem gi775 {i : Int} (ok : Ok S h) (ha : sK S a = 7) (hi : 0 ≤ i ∧ i < 2) : isIA (KD h (sT S 775 a)) = true ∧ bnd i (LN h (sT S 775 a)) := ⟨by rw [(g_ix ok ha (by decide) rfl hi).1]; rfl, (g_ix ok ha (by decide) rfl hi).2⟩
theorem ra775 (ok : Ok S h) (ha : sK S a = 7) (j : Nat) : (-1) ≤ AI h (sT S 775 a) j ∧ AI h (sT S 775 a) j ≤ 13 := g_ra ok ha (by decide) rfl rfl j
theorem fr776 (ok : Ok S h) (ha : sK S a = 7) : FR h 776 a = some (sT S 776 a) := g_fr ok ha (by decide) (by decide)
theorem kT776 (ok : Ok S h) (ha : sK S a = 7) : sK S (sT S 776 a) = 40 := g_kT ok ha rfl (by decide)
theorem lT776 (ok : Ok S h) (ha : sK S a = 7) : LN h (sT S 776 a) = 2 := g_lT ok ha (by decide) rfl (by decide)
theorem gi776 {i : Int} (ok : Ok S h) (ha : sK S a = 7) (hi : 0 ≤ i ∧ i < 2) : isIA (KD h (sT S 776 a)) = true ∧ bnd i (LN h (sT S 776 a)) := ⟨by rw [(g_ix ok ha (by decide) rfl hi).1]; rfl, (g_ix ok ha (by decide) rfl hi).2⟩
theorem ra776 (ok : Ok S h) (ha : sK S a = 7) (j : Nat) : (-10) ≤ AI h (sT S 776 a) j ∧ AI h (sT S 776 a) j ≤ 1000 := g_ra ok ha (by decide) rfl rfl j
theorem fr777 (ok : Ok S h) (ha : sK S a = 7) : FR h 777 a = some (sT S 777 a) := g_fr ok ha (by decide) (by decide)
theorem kT777 (ok : Ok S h) (ha : sK S a = 7) : sK S (sT S 777 a) = 40 := g_kT ok ha rfl (by decide)
theorem lT777 (ok : Ok S h) (ha : sK S a = 7) : LN h (sT S 777 a) = 2 := g_lT ok ha (by decide) rfl (by decide)
theorem gi777 {i : Int} (ok : Ok S h) (ha : sK S a = 7) (hi : 0 ≤ i ∧ i < 2) : isIA (KD h (sT S 777 a)) = true ∧ bnd i (LN h (sT S 777 a)) := ⟨by rw [(g_ix ok ha (by decide) rfl hi).1]; rfl, (g_ix ok ha (by decide) rfl hi).2⟩
theorem ra777 (ok : Ok S h) (ha : sK S a = 7) (j : Nat) : 0 ≤ AI h (sT S 777 a) j ∧ AI h (sT S 777 a) j ≤ 2 := g_ra ok ha (by decide) rfl rfl j
theorem fr778 (ok : Ok S h) (ha : sK S a = 7) : FR h 778 a = some (sT S 778 a) := g_fr ok ha (by decide) (by decide)
theorem kT778 (ok : Ok S h) (ha : sK S a = 7) : sK S (sT S 778 a) = 52 := g_kT ok ha rfl (by decide)
theorem lT778 (ok : Ok S h) (ha : sK S a = 7) : LN h (sT S 778 a) = 2 := g_lT ok ha (by decide) rfl (by decide)
theorem gi778 {i : Int} (ok : Ok S h) (ha : sK S a = 7) (hi : 0 ≤ i ∧ i < 2) : isRA (KD h (sT S 778 a)) = true ∧ bnd i (LN h (sT S 778 a)) := ⟨by rw [(g_ix ok ha (by decide) rfl hi).1]; rfl, (g_ix ok ha (by decide) rfl hi).2⟩
theorem er778 (ok : Ok S h) (ha : sK S a = 7) (hj : j < 2) : AR h (sT S 778 a) j = some (sE S (sT S 778 a) j) := g_er ok ha (by decide) rfl rfl hj
theorem kE778 (ok : Ok S h) (ha : sK S a = 7) (hj : j < 2) : sK S (sE S (sT S 778 a) j) = 3 := g_kE ok ha (by decide) rfl rfl hj (by decide)
theorem fr779 (ok : Ok S h) (ha : sK S a = 7) : FR h 779 a = some (sT S 779 a) := g_fr ok ha (by decide) (by decide)
theorem kT779 (ok : Ok S h) (ha : sK S a = 7) : sK S (sT S 779 a) = 40 := g_kT ok ha rfl (by decide)
theorem lT779 (ok : Ok S h) (ha : sK S a = 7) : LN h (sT S 779 a) = 14 := g_lT ok ha (by decide) rfl (by decide)
theorem gi779 {i : Int} (ok : Ok S h) (ha : sK S a = 7) (hi : 0 ≤ i ∧ i < 14) : isIA (KD h (sT S 779 a)) = true ∧ bnd i (LN h (sT S 779 a)) := ⟨by rw [(g_ix ok ha (by decide) rfl hi).1]; rfl, (g_ix ok ha (by decide) rfl hi).2⟩
theorem ra779 (ok : Ok S h) (ha : sK S a = 7) (j : Nat) : 0 ≤ AI h (sT S 779 a) j ∧ AI h (sT S 779 a) j ≤ 13 := g_ra ok ha (by decide) rfl rfl j
theorem rg780 (ok : Ok S h) (ha : sK S a = 7) : 0 ≤ FI h 780 a ∧ FI h 780 a ≤ 14 := g_rg ok ha (by decide) rfl rfl
theorem fr781 (ok : Ok S h) (ha : sK S a = 7) : FR h 781 a = some (sT S 781 a) := g_fr ok ha (by decide) (by decide)
theorem kT781 (ok : Ok S h) (ha : sK S a = 7) : sK S (sT S 781 a) = 40 := g_kT ok ha rfl (by decide)
theorem lT781 (ok : Ok S h) (ha : sK S a = 7) : LN h (sT S 781 a) = 3 := g_lT ok ha (by decide) rfl (by decide)
theorem gi781 {i : Int} (ok : Ok S h) (ha : sK S a = 7) (hi : 0 ≤ i ∧ i < 3) : isIA (KD h (sT S 781 a)) = true ∧ bnd i (LN h (sT S 781 a)) := ⟨by rw [(g_ix ok ha (by decide) rfl hi).1]; rfl, (g_ix ok ha (by decide) rfl hi).2⟩
theorem ra781 (ok : Ok S h) (ha : sK S a = 7) (j : Nat) : 0 ≤ AI h (sT S 781 a) j ∧ AI h (sT S 781 a) j ≤ 2147483647 := g_ra ok ha (by decide) rfl rfl j
theorem rg782 (ok : Ok S h) (ha : sK S a = 7) : (-1) ≤ FI h 782 a ∧ FI h 782 a ≤ 13 := g_rg ok ha (by decide) rfl rfl
theorem rg783 (ok : Ok S h) (ha : sK S a = 7) : 0 ≤ FI h 783 a ∧ FI h 783 a ≤ 1 := g_rg ok ha (by decide) rfl rfl
theorem fr784 (ok : Ok S h) (ha : sK S a = 7) : FR h 784 a = some (sT S 784 a) := g_fr ok ha (by decide) (by decide)
theorem kT784 (ok : Ok S h) (ha : sK S a = 7) : sK S (sT S 784 a) = 6 := g_kT ok ha rfl (by decide)
theorem cT784 (ok : Ok S h) (ha : sK S a = 7) : 24 ≤ cap h (sT S 784 a) := g_cT ok ha rfl rfl
theorem fr896 (ok : Ok S h) (ha : sK S a = 8) : FR h 896 a = some (sT S 896 a) := g_fr ok ha (by decide) (by decide)
theorem kT896 (ok : Ok S h) (ha : sK S a = 8) : sK S (sT S 896 a) = 52 := g_kT ok ha rfl (by decide)
theorem lT896 (ok : Ok S h) (ha : sK S a = 8) : LN h (sT S 896 a) = 14 := g_lT ok ha (by decide) rfl (by decide)
theorem gi896 {i : Int} (ok : Ok S h) (ha : sK S a = 8) (hi : 0 ≤ i ∧ i < 14) : isRA (KD h (sT S 896 a)) = true ∧ bnd i (LN h (sT S 896 a)) := ⟨by rw [(g_ix ok ha (by decide) rfl hi).1]; rfl, (g_ix ok ha (by decide) rfl hi).2⟩
theorem er896 (ok : Ok S h) (ha : sK S a = 8) (hj : j < 14) : AR h (sT S 896 a) j = some (sE S (sT S 896 a) j) := g_er ok ha (by decide) rfl rfl hj
theorem kE896 (ok : Ok S h) (ha : sK S a = 8) (hj : j < 14) : sK S (sE S (sT S 896 a) j) = 3 := g_kE ok ha (by decide) rfl rfl hj (by decide)
theorem fr897 (ok : Ok S h) (ha : sK S a = 8) : FR h 897 a = some (sT S 897 a) := g_fr ok ha (by decide) (by decide)
theorem kT897 (ok : Ok S h) (ha : sK S a = 8) : sK S (sT S 897 a) = 52 := g_kT ok ha rfl (by decide)
theorem lT897 (ok : Ok S h) (ha : sK S a = 8) : LN h (sT S 897 a) = 14 := g_lT ok ha (by decide) rfl (by decide)
theorem gi897 {i : Int} (ok : Ok S h) (ha : sK S a = 8) (hi : 0 ≤ i ∧ i < 14) : isRA (KD h (sT S 897 a)) = true ∧ bnd i (LN h (sT S 897 a)) := ⟨by rw [(g_ix ok ha (by decide) rfl hi).1]; rfl, (g_ix ok ha (by decide) rfl hi).2⟩
theorem er897 (ok : Ok S h) (ha : sK S a = 8) (hj : j < 14) : AR h (sT S 897 a) j = some (sE S (sT S 897 a) j) := g_er ok ha (by decide) rfl rfl hj
theorem kE897 (ok : Ok S h) (ha : sK S a = 8) (hj : j < 14) : sK S (sE S (sT S 897 a) j) = 3 := g_kE ok ha (by decide) rfl rfl hj (by decide)
theorem fr898 (ok : Ok S h) (ha : sK S a = 8) : FR h 898 a = some (sT S 898 a) := g_fr ok ha (by decide) (by decide)
theorem kT898 (ok : Ok S h) (ha : sK S a = 8) : sK S (sT S 898 a) = 76 := g_kT ok ha rfl (by decide)
theorem lT898 (ok : Ok S h) (ha : sK S a = 8) : LN h (sT S 898 a) = 14 := g_lT ok ha (by decide) rfl (by decide)
theorem gi898 {i : Int} (ok : Ok S h) (ha : sK S a = 8) (hi : 0 ≤ i ∧ i < 14) : isRA (KD h (sT S 898 a)) = true ∧ bnd i (LN h (sT S 898 a)) := ⟨by rw [(g_ix ok ha (by decide) rfl hi).1]; rfl, (g_ix ok ha (by decide) rfl hi).2⟩
theorem er898 (ok : Ok S h) (ha : sK S a = 8) (hj : j < 14) : AR h (sT S 898 a) j = some (sE S (sT S 898 a) j) := g_er ok ha (by decide) rfl rfl hj
theorem kE898 (ok : Ok S h) (ha : sK S a = 8) (hj : j < 14) : sK S (sE S (sT S 898 a) j) = 40 := g_kE ok ha (by decide) rfl rfl hj (by decide)
theorem fr899 (ok : Ok S h) (ha : sK S a = 8) : FR h 899 a = some (sT S 899 a) := g_fr ok ha (by decide) (by decide)
theorem kT899 (ok : Ok S h) (ha : sK S a = 8) : sK S (sT S 899 a) = 40 := g_kT ok ha rfl (by decide)
theorem lT899 (ok : Ok S h) (ha : sK S a = 8) : LN h (sT S 899 a) = 14 := g_lT ok ha (by decide) rfl (by decide)
theorem gi899 {i : Int} (ok : Ok S h) (ha : sK S a = 8) (hi : 0 ≤ i ∧ i < 14) : isIA (KD h (sT S 899 a)) = true ∧ bnd i (LN h (sT S 899 a)) := ⟨by rw [(g_ix ok ha (by decide) rfl hi).1]; rfl, (g_ix ok ha (by decide) rfl hi).2⟩
theorem ra899 (ok : Ok S h) (ha : sK S a = 8) (j : Nat) : 0 ≤ AI h (sT S 899 a) j ∧ AI h (sT S 899 a) j ≤ 11 := g_ra ok ha (by decide) rfl rfl j
theorem fr900 (ok : Ok S h) (ha : sK S a = 8) : FR h 900 a = some (sT S 900 a) := g_fr ok ha (by decide) (by decide)
theorem kT900 (ok : Ok S h) (ha : sK S a = 8) : sK S (sT S 900 a) = 52 := g_kT ok ha rfl (by decide)
theorem rg901 (ok : Ok S h) (ha : sK S a = 8) : 0 ≤ FI h 901 a ∧ FI h 901 a ≤ 24 := g_rg ok ha (by decide) rfl rfl
theorem rg1024 (ok : Ok S h) (ha : sK S a = 9) : 0 ≤ FI h 1024 a ∧ FI h 1024 a ≤ 20 := g_rg ok ha (by decide) rfl rfl
theorem fr1025 (ok : Ok S h) (ha : sK S a = 9) : FR h 1025 a = some (sT S 1025 a) := g_fr ok ha (by decide) (by decide)
theorem kT1025 (ok : Ok S h) (ha : sK S a = 9) : sK S (sT S 1025 a) = 40 := g_kT ok ha rfl (by decide)
theorem lT1025 (ok : Ok S h) (ha : sK S a = 9) : LN h (sT S 1025 a) = 20 := g_lT ok ha (by decide) rfl (by decide)
theorem gi1025 {i : Int} (ok : Ok S h) (ha : sK S a = 9) (hi : 0 ≤ i ∧ i < 20) : isIA (KD h (sT S 1025 a)) = true ∧ bnd i (LN h (sT S 1025 a)) := ⟨by rw [(g_ix ok ha (by decide) rfl hi).1]; rfl, (g_ix ok ha (by decide) rfl hi).2⟩
theorem ra1025 (ok : Ok S h) (ha : sK S a = 9) (j : Nat) : (-1) ≤ AI h (sT S 1025 a) j ∧ AI h (sT S 1025 a) j ≤ 4 := g_ra ok ha (by decide) rfl rfl j
theorem fr1026 (ok : Ok S h) (ha : sK S a = 9) : FR h 1026 a = some (sT S 1026 a) := g_fr ok ha (by decide) (by decide)
theorem kT1026 (ok : Ok S h) (ha : sK S a = 9) : sK S (sT S 1026 a) = 40 := g_kT ok ha rfl (by decide)
theorem lT1026 (ok : Ok S h) (ha : sK S a = 9) : LN h (sT S 1026 a) = 20 := g_lT ok ha (by decide) rfl (by decide)
theorem gi1026 {i : Int} (ok : Ok S h) (ha : sK S a = 9) (hi : 0 ≤ i ∧ i < 20) : isIA (KD h (sT S 1026 a)) = true ∧ bnd i (LN h (sT S 1026 a)) := ⟨by rw [(g_ix ok ha (by decide) rfl hi).1]; rfl, (g_ix ok ha (by decide) rfl hi).2⟩
theorem ra1026 (ok : Ok S h) (ha : sK S a = 9) (j : Nat) : 0 ≤ AI h (sT S 1026 a) j ∧ AI h (sT S 1026 a) j ≤ 3 := g_ra ok ha (by decide) rfl rfl j
theorem fr1027 (ok : Ok S h) (ha : sK S a = 9) : FR h 1027 a = some (sT S 1027 a) := g_fr ok ha (by decide) (by decide)
theorem kT1027 (ok : Ok S h) (ha : sK S a = 9) : sK S (sT S 1027 a) = 40 := g_kT ok ha rfl (by decide)
theorem lT1027 (ok : Ok S h) (ha : sK S a = 9) : LN h (sT S 1027 a) = 20 := g_lT ok ha (by decide) rfl (by decide)
theorem gi1027 {i : Int} (ok : Ok S h) (ha : sK S a = 9) (hi : 0 ≤ i ∧ i < 20) : isIA (KD h (sT S 1027 a)) = true ∧ bnd i (LN h (sT S 1027 a)) := ⟨by rw [(g_ix ok ha (by decide) rfl hi).1]; rfl, (g_ix ok ha (by decide) rfl hi).2⟩
theorem ra1027 (ok : Ok S h) (ha : sK S a = 9) (j : Nat) : 0 ≤ AI h (sT S 1027 a) j ∧ AI h (sT S 1027 a) j ≤ 4 := g_ra ok ha (by decide) rfl rfl j
theorem fr1028 (ok : Ok S h) (ha : sK S a = 9) : FR h 1028 a = some (sT S 1028 a) := g_fr ok ha (by decide) (by decide)
theorem kT1028 (ok : Ok S h) (ha : sK S a = 9) : sK S (sT S 1028 a) = 40 := g_kT ok ha rfl (by decide)
theorem lT1028 (ok : Ok S h) (ha : sK S a = 9) : LN h (sT S 1028 a) = 20 := g_lT ok ha (by decide) rfl (by decide)
theorem gi1028 {i : Int} (ok : Ok S h) (ha : sK S a = 9) (hi : 0 ≤ i ∧ i < 20) : isIA (KD h (sT S 1028 a)) = true ∧ bnd i (LN h (sT S 1028 a)) := ⟨by rw [(g_ix ok ha (by decide) rfl hi).1]; rfl, (g_ix ok ha (by decide) rfl hi).2⟩
theorem ra1028 (ok : Ok S h) (ha : sK S a = 9) (j : Nat) : 0 ≤ AI h (sT S 1028 a) j ∧ AI h (sT S 1028 a) j ≤ 3 := g_ra ok ha (by decide) rfl rfl j
theorem fr1029 (ok : Ok S h) (ha : sK S a = 9) : FR h 1029 a = some (sT S 1029 a) := g_fr ok ha (by decide) (by decide)
theorem kT1029 (ok : Ok S h) (ha : sK S a = 9) : sK S (sT S 1029 a) = 40 := g_kT ok ha rfl (by decide)
theorem lT1029 (ok : Ok S h) (ha : sK S a = 9) : LN h (sT S 1029 a) = 20 := g_lT ok ha (by decide) rfl (by decide)
theorem gi1029 {i : Int} (ok : Ok S h) (ha : sK S a = 9) (hi : 0 ≤ i ∧ i < 20) : isIA (KD h (sT S 1029 a)) = true ∧ bnd i (LN h (sT S 1029 a)) := ⟨by rw [(g_ix ok ha (by decide) rfl hi).1]; rfl, (g_ix ok ha (by decide) rfl hi).2⟩
theorem ra1029 (ok : Ok S h) (ha : sK S a = 9) (j : Nat) : 0 ≤ AI h (sT S 1029 a) j ∧ AI h (sT S 1029 a) j ≤ 3 := g_ra ok ha (by decide) rfl rfl j
theorem fr1030 (ok : Ok S h) (ha : sK S a = 9) : FR h 1030 a = some (sT S 1030 a) := g_fr ok ha (by decide) (by decide)
theorem kT1030 (ok : Ok S h) (ha : sK S a = 9) : sK S (sT S 1030 a) = 40 := g_kT ok ha rfl (by decide)
theorem lT1030 (ok : Ok S h) (ha : sK S a = 9) : LN h (sT S 1030 a) = 5 := g_lT ok ha (by decide) rfl (by decide)
theorem gi1030 {i : Int} (ok : Ok S h) (ha : sK S a = 9) (hi : 0 ≤ i ∧ i < 5) : isIA (KD h (sT S 1030 a)) = true ∧ bnd i (LN h (sT S 1030 a)) := ⟨by rw [(g_ix ok ha (by decide) rfl hi).1]; rfl, (g_ix ok ha (by decide) rfl hi).2⟩
theorem ra1030 (ok : Ok S h) (ha : sK S a = 9) (j : Nat) : (-1) ≤ AI h (sT S 1030 a) j ∧ AI h (sT S 1030 a) j ≤ 3 := g_ra ok ha (by decide) rfl rfl j
theorem fr1031 (ok : Ok S h) (ha : sK S a = 9) : FR h 1031 a = some (sT S 1031 a) := g_fr ok ha (by decide) (by decide)
theorem kT1031 (ok : Ok S h) (ha : sK S a = 9) : sK S (sT S 1031 a) = 40 := g_kT ok ha rfl (by decide)
theorem lT1031 (ok : Ok S h) (ha : sK S a = 9) : LN h (sT S 1031 a) = 5 := g_lT ok ha (by decide) rfl (by decide)
theorem gi1031 {i : Int} (ok : Ok S h) (ha : sK S a = 9) (hi : 0 ≤ i ∧ i < 5) : isIA (KD h (sT S 1031 a)) = true ∧ bnd i (LN h (sT S 1031 a)) := ⟨by rw [(g_ix ok ha (by decide) rfl hi).1]; rfl, (g_ix ok ha (by decide) rfl hi).2⟩
theorem ra1031 (ok : Ok S h) (ha : sK S a = 9) (j : Nat) : (-1) ≤ AI h (sT S 1031 a) j ∧ AI h (sT S 1031 a) j ≤ 3 := g_ra ok ha (by decide) rfl rfl j
theorem fr1032 (ok : Ok S h) (ha : sK S a = 9) : FR h 1032 a = some (sT S 1032 a) := g_fr ok ha (by decide) (by decide)
theorem kT1032 (ok : Ok S h) (ha : sK S a = 9) : sK S (sT S 1032 a) = 40 := g_kT ok ha rfl (by decide)
theorem lT1032 (ok : Ok S h) (ha : sK S a = 9) : LN h (sT S 1032 a) = 512 := g_lT ok ha (by decide) rfl (by decide)
theorem gi1032 {i : Int} (ok : Ok S h) (ha : sK S a = 9) (hi : 0 ≤ i ∧ i < 512) : isIA (KD h (sT S 1032 a)) = true ∧ bnd i (LN h (sT S 1032 a)) := ⟨by rw [(g_ix ok ha (by decide) rfl hi).1]; rfl, (g_ix ok ha (by decide) rfl hi).2⟩
theorem ra1032 (ok : Ok S h) (ha : sK S a = 9) (j : Nat) : 0 ≤ AI h (sT S 1032 a) j ∧ AI h (sT S 1032 a) j ≤ 4 := g_ra ok ha (by decide) rfl rfl j
theorem fr1033 (ok : Ok S h) (ha : sK S a = 9) : FR h 1033 a = some (sT S 1033 a) := g_fr ok ha (by decide) (by decide)
theorem kT1033 (ok : Ok S h) (ha : sK S a = 9) : sK S (sT S 1033 a) = 40 := g_kT ok ha rfl (by decide)
theorem lT1033 (ok : Ok S h) (ha : sK S a = 9) : LN h (sT S 1033 a) = 512 := g_lT ok ha (by decide) rfl (by decide)
theorem gi1033 {i : Int} (ok : Ok S h) (ha : sK S a = 9) (hi : 0 ≤ i ∧ i < 512) : isIA (KD h (sT S 1033 a)) = true ∧ bnd i (LN h (sT S 1033 a)) := ⟨by rw [(g_ix ok ha (by decide) rfl hi).1]; rfl, (g_ix ok ha (by decide) rfl hi).2⟩
theorem ra1033 (ok : Ok S h) (ha : sK S a = 9) (j : Nat) : (-1) ≤ AI h (sT S 1033 a) j ∧ AI h (sT S 1033 a) j ≤ 3 := g_ra ok ha (by decide) rfl rfl j
theorem fr1034 (ok : Ok S h) (ha : sK S a = 9) : FR h 1034 a = some (sT S 1034 a) := g_fr ok ha (by decide) (by decide)
theorem kT1034 (ok : Ok S h) (ha : sK S a = 9) : sK S (sT S 1034 a) = 40 := g_kT ok ha rfl (by decide)
theorem lT1034 (ok : Ok S h) (ha : sK S a = 9) : LN h (sT S 1034 a) = 512 := g_lT ok ha (by decide) rfl (by decide)
theorem gi1034 {i : Int} (ok : Ok S h) (ha : sK S a = 9) (hi : 0 ≤ i ∧ i < 512) : isIA (KD h (sT S 1034 a)) = true ∧ bnd i (LN h (sT S 1034 a)) := ⟨by rw [(g_ix ok ha (by decide) rfl hi).1]; rfl, (g_ix ok ha (by decide) rfl hi).2⟩
theorem ra1034 (ok : Ok S h) (ha : sK S a = 9) (j : Nat) : 0 ≤ AI h (sT S 1034 a) j ∧ AI h (sT S 1034 a) j ≤ 3 := g_ra ok ha (by decide) rfl rfl j
theorem fr1152 (ok : Ok S h) (ha : sK S a = 10) : FR h 1152 a = some (sT S 1152 a) := g_fr ok ha (by decide) (by decide)
theorem kT1152 (ok : Ok S h) (ha : sK S a = 10) : sK S (sT S 1152 a) = 6 := g_kT ok ha rfl (by decide)
theorem cT1152 (ok : Ok S h) (ha : sK S a = 10) : 0 ≤ cap h (sT S 1152 a) := g_cT ok ha rfl rfl
theorem fr1153 (ok : Ok S h) (ha : sK S a = 10) : FR h 1153 a = some (sT S 1153 a) := g_fr ok ha (by decide) (by decide)
theorem kT1153 (ok : Ok S h) (ha : sK S a = 10) : sK S (sT S 1153 a) = 55 := g_kT ok ha rfl (by decide)
theorem lT1153 (ok : Ok S h) (ha : sK S a = 10) : LN h (sT S 1153 a) = 6 := g_lT ok ha (by decide) rfl (by decide)
theorem gi1153 {i : Int} (ok : Ok S h) (ha : sK S a = 10) (hi : 0 ≤ i ∧ i < 6) : isRA (KD h (sT S 1153 a)) = true ∧ bnd i (LN h (sT S 1153 a)) := ⟨by rw [(g_ix ok ha (by decide) rfl hi).1]; rfl, (g_ix ok ha (by decide) rfl hi).2⟩
theorem fr1154 (ok : Ok S h) (ha : sK S a = 10) : FR h 1154 a = some (sT S 1154 a) := g_fr ok ha (by decide) (by decide)
theorem kT1154 (ok : Ok S h) (ha : sK S a = 10) : sK S (sT S 1154 a) = 6 := g_kT ok ha rfl (by decide)
theorem cT1154 (ok : Ok S h) (ha : sK S a = 10) : 3606 ≤ cap h (sT S 1154 a) := g_cT ok ha rfl rfl
theorem fr1155 (ok : Ok S h) (ha : sK S a = 10) : FR h 1155 a = some (sT S 1155 a) := g_fr ok ha (by decide) (by decide)
theorem kT1155 (ok : Ok S h) (ha : sK S a = 10) : sK S (sT S 1155 a) = 6 := g_kT ok ha rfl (by decide)
theorem cT1155 (ok : Ok S h) (ha : sK S a = 10) : 601 ≤ cap h (sT S 1155 a) := g_cT ok ha rfl rfl
theorem fr1156 (ok : Ok S h) (ha : sK S a = 10) : FR h 1156 a = some (sT S 1156 a) := g_fr ok ha (by decide) (by decide)
theorem kT1156 (ok : Ok S h) (ha : sK S a = 10) : sK S (sT S 1156 a) = 6 := g_kT ok ha rfl (by decide)
theorem cT1156 (ok : Ok S h) (ha : sK S a = 10) : 614 ≤ cap h (sT S 1156 a) := g_cT ok ha rfl rfl
theorem fr1157 (ok : Ok S h) (ha : sK S a = 10) : FR h 1157 a = some (sT S 1157 a) := g_fr ok ha (by decide) (by decide)
theorem kT1157 (ok : Ok S h) (ha : sK S a = 10) : sK S (sT S 1157 a) = 40 := g_kT ok ha rfl (by decide)
theorem lT1157 (ok : Ok S h) (ha : sK S a = 10) : LN h (sT S 1157 a) = 600 := g_lT ok ha (by decide) rfl (by decide)
theorem gi1157 {i : Int} (ok : Ok S h) (ha : sK S a = 10) (hi : 0 ≤ i ∧ i < 600) : isIA (KD h (sT S 1157 a)) = true ∧ bnd i (LN h (sT S 1157 a)) := ⟨by rw [(g_ix ok ha (by decide) rfl hi).1]; rfl, (g_ix ok ha (by decide) rfl hi).2⟩
theorem ra1157 (ok : Ok S h) (ha : sK S a = 10) (j : Nat) : 0 ≤ AI h (sT S 1157 a) j ∧ AI h (sT S 1157 a) j ≤ 4000 := g_ra ok ha (by decide) rfl rfl j
theorem fr1158 (ok : Ok S h) (ha : sK S a = 10) : FR h 1158 a = some (sT S 1158 a) := g_fr ok ha (by decide) (by decide)
theorem kT1158 (ok : Ok S h) (ha : sK S a = 10) : sK S (sT S 1158 a) = 40 := g_kT ok ha rfl (by decide)
theorem lT1158 (ok : Ok S h) (ha : sK S a = 10) : LN h (sT S 1158 a) = 600 := g_lT ok ha (by decide) rfl (by decide)
theorem gi1158 {i : Int} (ok : Ok S h) (ha : sK S a = 10) (hi : 0 ≤ i ∧ i < 600) : isIA (KD h (sT S 1158 a)) = true ∧ bnd i (LN h (sT S 1158 a)) := ⟨by rw [(g_ix ok ha (by decide) rfl hi).1]; rfl, (g_ix ok ha (by decide) rfl hi).2⟩
theorem ra1158 (ok : Ok S h) (ha : sK S a = 10) (j : Nat) : 0 ≤ AI h (sT S 1158 a) j ∧ AI h (sT S 1158 a) j ≤ 4000 := g_ra ok ha (by decide) rfl rfl j
theorem fr1159 (ok : Ok S h) (ha : sK S a = 10) : FR h 1159 a = some (sT S 1159 a) := g_fr ok ha (by decide) (by decide)
theorem kT1159 (ok : Ok S h) (ha : sK S a = 10) : sK S (sT S 1159 a) = 44 := g_kT ok ha rfl (by decide)
theorem lT1159 (ok : Ok S h) (ha : sK S a = 10) : LN h (sT S 1159 a) = 246 := g_lT ok ha (by decide) rfl (by decide)
theorem gi1159 {i : Int} (ok : Ok S h) (ha : sK S a = 10) (hi : 0 ≤ i ∧ i < 246) : KD h (sT S 1159 a) = 44 ∧ bnd i (LN h (sT S 1159 a)) := g_ix ok ha (by decide) rfl hi
theorem fr1160 (ok : Ok S h) (ha : sK S a = 10) : FR h 1160 a = some (sT S 1160 a) := g_fr ok ha (by decide) (by decide)
theorem kT1160 (ok : Ok S h) (ha : sK S a = 10) : sK S (sT S 1160 a) = 40 := g_kT ok ha rfl (by decide)
theorem lT1160 (ok : Ok S h) (ha : sK S a = 10) : LN h (sT S 1160 a) = 246 := g_lT ok ha (by decide) rfl (by decide)
theorem gi1160 {i : Int} (ok : Ok S h) (ha : sK S a = 10) (hi : 0 ≤ i ∧ i < 246) : isIA (KD h (sT S 1160 a)) = true ∧ bnd i (LN h (sT S 1160 a)) := ⟨by rw [(g_ix ok ha (by decide) rfl hi).1]; rfl, (g_ix ok ha (by decide) rfl hi).2⟩
theorem ra1160 (ok : Ok S h) (ha : sK S a = 10) (j : Nat) : 0 ≤ AI h (sT S 1160 a) j ∧ AI h (sT S 1160 a) j ≤ 9999 := g_ra ok ha (by decide) rfl rfl j
theorem fr1161 (ok : Ok S h) (ha : sK S a = 10) : FR h 1161 a = some (sT S 1161 a) := g_fr ok ha (by decide) (by decide)
theorem kT1161 (ok : Ok S h) (ha : sK S a = 10) : sK S (sT S 1161 a) = 42 := g_kT ok ha rfl (by decide)
theorem lT1161 (ok : Ok S h) (ha : sK S a = 10) : LN h (sT S 1161 a) = 246 := g_lT ok ha (by decide) rfl (by decide)
theorem gi1161 {i : Int} (ok : Ok S h) (ha : sK S a = 10) (hi : 0 ≤ i ∧ i < 246) : isBA (KD h (sT S 1161 a)) = true ∧ bnd i (LN h (sT S 1161 a)) := ⟨by rw [(g_ix ok ha (by decide) rfl hi).1]; rfl, (g_ix ok ha (by decide) rfl hi).2⟩
theorem ra1161 (ok : Ok S h) (ha : sK S a = 10) (j : Nat) : 0 ≤ AI h (sT S 1161 a) j ∧ AI h (sT S 1161 a) j ≤ 1 := g_ra ok ha (by decide) rfl rfl j
theorem rg1162 (ok : Ok S h) (ha : sK S a = 10) : 0 ≤ FI h 1162 a ∧ FI h 1162 a ≤ 246 := g_rg ok ha (by decide) rfl rfl
theorem fr1163 (ok : Ok S h) (ha : sK S a = 10) : FR h 1163 a = some (sT S 1163 a) := g_fr ok ha (by decide) (by decide)
theorem kT1163 (ok : Ok S h) (ha : sK S a = 10) : sK S (sT S 1163 a) = 44 := g_kT ok ha rfl (by decide)
theorem lT1163 (ok : Ok S h) (ha : sK S a = 10) : LN h (sT S 1163 a) = 906 := g_lT ok ha (by decide) rfl (by decide)
theorem gi1163 {i : Int} (ok : Ok S h) (ha : sK S a = 10) (hi : 0 ≤ i ∧ i < 906) : KD h (sT S 1163 a) = 44 ∧ bnd i (LN h (sT S 1163 a)) := g_ix ok ha (by decide) rfl hi
theorem fr1164 (ok : Ok S h) (ha : sK S a = 10) : FR h 1164 a = some (sT S 1164 a) := g_fr ok ha (by decide) (by decide)
theorem kT1164 (ok : Ok S h) (ha : sK S a = 10) : sK S (sT S 1164 a) = 40 := g_kT ok ha rfl (by decide)
theorem lT1164 (ok : Ok S h) (ha : sK S a = 10) : LN h (sT S 1164 a) = 906 := g_lT ok ha (by decide) rfl (by decide)
theorem gi1164 {i : Int} (ok : Ok S h) (ha : sK S a = 10) (hi : 0 ≤ i ∧ i < 906) : isIA (KD h (sT S 1164 a)) = true ∧ bnd i (LN h (sT S 1164 a)) := ⟨by rw [(g_ix ok ha (by decide) rfl hi).1]; rfl, (g_ix ok ha (by decide) rfl hi).2⟩
theorem ra1164 (ok : Ok S h) (ha : sK S a = 10) (j : Nat) : 0 ≤ AI h (sT S 1164 a) j ∧ AI h (sT S 1164 a) j ≤ 9999 := g_ra ok ha (by decide) rfl rfl j
theorem rg1165 (ok : Ok S h) (ha : sK S a = 10) : 0 ≤ FI h 1165 a ∧ FI h 1165 a ≤ 906 := g_rg ok ha (by decide) rfl rfl
theorem fr1280 (ok : Ok S h) (ha : sK S a = 11) : FR h 1280 a = some (sT S 1280 a) := g_fr ok ha (by decide) (by decide)
theorem kT1280 (ok : Ok S h) (ha : sK S a = 11) : sK S (sT S 1280 a) = 6 := g_kT ok ha rfl (by decide)
theorem cT1280 (ok : Ok S h) (ha : sK S a = 11) : 4000 ≤ cap h (sT S 1280 a) := g_cT ok ha rfl rfl
theorem fr1281 (ok : Ok S h) (ha : sK S a = 11) : FR h 1281 a = some (sT S 1281 a) := g_fr ok ha (by decide) (by decide)
theorem kT1281 (ok : Ok S h) (ha : sK S a = 11) : sK S (sT S 1281 a) = 6 := g_kT ok ha rfl (by decide)
theorem cT1281 (ok : Ok S h) (ha : sK S a = 11) : 4096 ≤ cap h (sT S 1281 a) := g_cT ok ha rfl rfl
theorem fr1282 (ok : Ok S h) (ha : sK S a = 11) : FR h 1282 a = some (sT S 1282 a) := g_fr ok ha (by decide) (by decide)
theorem kT1282 (ok : Ok S h) (ha : sK S a = 11) : sK S (sT S 1282 a) = 5 := g_kT ok ha rfl (by decide)
theorem fr1283 (ok : Ok S h) (ha : sK S a = 11) : FR h 1283 a = some (sT S 1283 a) := g_fr ok ha (by decide) (by decide)
theorem kT1283 (ok : Ok S h) (ha : sK S a = 11) : sK S (sT S 1283 a) = 1 := g_kT ok ha rfl (by decide)
theorem fr1284 (ok : Ok S h) (ha : sK S a = 11) : FR h 1284 a = some (sT S 1284 a) := g_fr ok ha (by decide) (by decide)
theorem kT1284 (ok : Ok S h) (ha : sK S a = 11) : sK S (sT S 1284 a) = 4 := g_kT ok ha rfl (by decide)
theorem fr1285 (ok : Ok S h) (ha : sK S a = 11) : FR h 1285 a = some (sT S 1285 a) := g_fr ok ha (by decide) (by decide)
theorem kT1285 (ok : Ok S h) (ha : sK S a = 11) : sK S (sT S 1285 a) = 9 := g_kT ok ha rfl (by decide)
theorem fr1286 (ok : Ok S h) (ha : sK S a = 11) : FR h 1286 a = some (sT S 1286 a) := g_fr ok ha (by decide) (by decide)
theorem kT1286 (ok : Ok S h) (ha : sK S a = 11) : sK S (sT S 1286 a) = 7 := g_kT ok ha rfl (by decide)
theorem fr1287 (ok : Ok S h) (ha : sK S a = 11) : FR h 1287 a = some (sT S 1287 a) := g_fr ok ha (by decide) (by decide)
theorem kT1287 (ok : Ok S h) (ha : sK S a = 11) : sK S (sT S 1287 a) = 7 := g_kT ok ha rfl (by decide)
theorem kT1288 (ok : Ok S h) (ha : sK S a = 11) : sK S (sT S 1288 a) = 10 := g_kT ok ha rfl (by decide)
theorem rg1408 (ok : Ok S h) (ha : sK S a = 12) : 0 ≤ FI h 1408 a ∧ FI h 1408 a ≤ 16 := g_rg ok ha (by decide) rfl rfl
theorem fr1409 (ok : Ok S h) (ha : sK S a = 12) : FR h 1409 a = some (sT S 1409 a) := g_fr ok ha (by decide) (by decide)
theorem kT1409 (ok : Ok S h) (ha : sK S a = 12) : sK S (sT S 1409 a) = 40 := g_kT ok ha rfl (by decide)
theorem lT1409 (ok : Ok S h) (ha : sK S a = 12) : LN h (sT S 1409 a) = 192 := g_lT ok ha (by decide) rfl (by decide)
theorem gi1409 {i : Int} (ok : Ok S h) (ha : sK S a = 12) (hi : 0 ≤ i ∧ i < 192) : isIA (KD h (sT S 1409 a)) = true ∧ bnd i (LN h (sT S 1409 a)) := ⟨by rw [(g_ix ok ha (by decide) rfl hi).1]; rfl, (g_ix ok ha (by decide) rfl hi).2⟩
theorem ra1409 (ok : Ok S h) (ha : sK S a = 12) (j : Nat) : 0 ≤ AI h (sT S 1409 a) j ∧ AI h (sT S 1409 a) j ≤ 255 := g_ra ok ha (by decide) rfl rfl j
theorem fr1410 (ok : Ok S h) (ha : sK S a = 12) : FR h 1410 a = some (sT S 1410 a) := g_fr ok ha (by decide) (by decide)
theorem kT1410 (ok : Ok S h) (ha : sK S a = 12) : sK S (sT S 1410 a) = 40 := g_kT ok ha rfl (by decide)
theorem lT1410 (ok : Ok S h) (ha : sK S a = 12) : LN h (sT S 1410 a) = 16 := g_lT ok ha (by decide) rfl (by decide)
theorem gi1410 {i : Int} (ok : Ok S h) (ha : sK S a = 12) (hi : 0 ≤ i ∧ i < 16) : isIA (KD h (sT S 1410 a)) = true ∧ bnd i (LN h (sT S 1410 a)) := ⟨by rw [(g_ix ok ha (by decide) rfl hi).1]; rfl, (g_ix ok ha (by decide) rfl hi).2⟩
theorem ra1410 (ok : Ok S h) (ha : sK S a = 12) (j : Nat) : 0 ≤ AI h (sT S 1410 a) j ∧ AI h (sT S 1410 a) j ≤ 12 := g_ra ok ha (by decide) rfl rfl j
theorem fr1411 (ok : Ok S h) (ha : sK S a = 12) : FR h 1411 a = some (sT S 1411 a) := g_fr ok ha (by decide) (by decide)
theorem kT1411 (ok : Ok S h) (ha : sK S a = 12) : sK S (sT S 1411 a) = 40 := g_kT ok ha rfl (by decide)
theorem lT1411 (ok : Ok S h) (ha : sK S a = 12) : LN h (sT S 1411 a) = 2560 := g_lT ok ha (by decide) rfl (by decide)
theorem gi1411 {i : Int} (ok : Ok S h) (ha : sK S a = 12) (hi : 0 ≤ i ∧ i < 2560) : isIA (KD h (sT S 1411 a)) = true ∧ bnd i (LN h (sT S 1411 a)) := ⟨by rw [(g_ix ok ha (by decide) rfl hi).1]; rfl, (g_ix ok ha (by decide) rfl hi).2⟩
theorem ra1411 (ok : Ok S h) (ha : sK S a = 12) (j : Nat) : 0 ≤ AI h (sT S 1411 a) j ∧ AI h (sT S 1411 a) j ≤ 255 := g_ra ok ha (by decide) rfl rfl j
theorem fr1412 (ok : Ok S h) (ha : sK S a = 12) : FR h 1412 a = some (sT S 1412 a) := g_fr ok ha (by decide) (by decide)
theorem kT1412 (ok : Ok S h) (ha : sK S a = 12) : sK S (sT S 1412 a) = 40 := g_kT ok ha rfl (by decide)
theorem lT1412 (ok : Ok S h) (ha : sK S a = 12) : LN h (sT S 1412 a) = 16 := g_lT ok ha (by decide) rfl (by decide)
theorem gi1412 {i : Int} (ok : Ok S h) (ha : sK S a = 12) (hi : 0 ≤ i ∧ i < 16) : isIA (KD h (sT S 1412 a)) = true ∧ bnd i (LN h (sT S 1412 a)) := ⟨by rw [(g_ix ok ha (by decide) rfl hi).1]; rfl, (g_ix ok ha (by decide) rfl hi).2⟩
theorem ra1412 (ok : Ok S h) (ha : sK S a = 12) (j : Nat) : 0 ≤ AI h (sT S 1412 a) j ∧ AI h (sT S 1412 a) j ≤ 160 := g_ra ok ha (by decide) rfl rfl j
theorem rg1413 (ok : Ok S h) (ha : sK S a = 12) : 0 ≤ FI h 1413 a ∧ FI h 1413 a ≤ 6 := g_rg ok ha (by decide) rfl rfl
theorem fr1414 (ok : Ok S h) (ha : sK S a = 12) : FR h 1414 a = some (sT S 1414 a) := g_fr ok ha (by decide) (by decide)
theorem kT1414 (ok : Ok S h) (ha : sK S a = 12) : sK S (sT S 1414 a) = 40 := g_kT ok ha rfl (by decide)
theorem lT1414 (ok : Ok S h) (ha : sK S a = 12) : LN h (sT S 1414 a) = 48 := g_lT ok ha (by decide) rfl (by decide)
theorem gi1414 {i : Int} (ok : Ok S h) (ha : sK S a = 12) (hi : 0 ≤ i ∧ i < 48) : isIA (KD h (sT S 1414 a)) = true ∧ bnd i (LN h (sT S 1414 a)) := ⟨by rw [(g_ix ok ha (by decide) rfl hi).1]; rfl, (g_ix ok ha (by decide) rfl hi).2⟩
theorem ra1414 (ok : Ok S h) (ha : sK S a = 12) (j : Nat) : 0 ≤ AI h (sT S 1414 a) j ∧ AI h (sT S 1414 a) j ≤ 255 := g_ra ok ha (by decide) rfl rfl j
theorem fr1415 (ok : Ok S h) (ha : sK S a = 12) : FR h 1415 a = some (sT S 1415 a) := g_fr ok ha (by decide) (by decide)
theorem kT1415 (ok : Ok S h) (ha : sK S a = 12) : sK S (sT S 1415 a) = 40 := g_kT ok ha rfl (by decide)
theorem lT1415 (ok : Ok S h) (ha : sK S a = 12) : LN h (sT S 1415 a) = 6 := g_lT ok ha (by decide) rfl (by decide)
theorem gi1415 {i : Int} (ok : Ok S h) (ha : sK S a = 12) (hi : 0 ≤ i ∧ i < 6) : isIA (KD h (sT S 1415 a)) = true ∧ bnd i (LN h (sT S 1415 a)) := ⟨by rw [(g_ix ok ha (by decide) rfl hi).1]; rfl, (g_ix ok ha (by decide) rfl hi).2⟩
theorem ra1415 (ok : Ok S h) (ha : sK S a = 12) (j : Nat) : 0 ≤ AI h (sT S 1415 a) j ∧ AI h (sT S 1415 a) j ≤ 8 := g_ra ok ha (by decide) rfl rfl j
theorem fr1416 (ok : Ok S h) (ha : sK S a = 12) : FR h 1416 a = some (sT S 1416 a) := g_fr ok ha (by decide) (by decide)
theorem kT1416 (ok : Ok S h) (ha : sK S a = 12) : sK S (sT S 1416 a) = 40 := g_kT ok ha rfl (by decide)
theorem lT1416 (ok : Ok S h) (ha : sK S a = 12) : LN h (sT S 1416 a) = 6 := g_lT ok ha (by decide) rfl (by decide)
theorem gi1416 {i : Int} (ok : Ok S h) (ha : sK S a = 12) (hi : 0 ≤ i ∧ i < 6) : isIA (KD h (sT S 1416 a)) = true ∧ bnd i (LN h (sT S 1416 a)) := ⟨by rw [(g_ix ok ha (by decide) rfl hi).1]; rfl, (g_ix ok ha (by decide) rfl hi).2⟩
theorem ra1416 (ok : Ok S h) (ha : sK S a = 12) (j : Nat) : 0 ≤ AI h (sT S 1416 a) j ∧ AI h (sT S 1416 a) j ≤ 9999 := g_ra ok ha (by decide) rfl rfl j
theorem rg1417 (ok : Ok S h) (ha : sK S a = 12) : 0 ≤ FI h 1417 a ∧ FI h 1417 a ≤ 14 := g_rg ok ha (by decide) rfl rfl
theorem fr1418 (ok : Ok S h) (ha : sK S a = 12) : FR h 1418 a = some (sT S 1418 a) := g_fr ok ha (by decide) (by decide)
theorem kT1418 (ok : Ok S h) (ha : sK S a = 12) : sK S (sT S 1418 a) = 40 := g_kT ok ha rfl (by decide)
theorem lT1418 (ok : Ok S h) (ha : sK S a = 12) : LN h (sT S 1418 a) = 112 := g_lT ok ha (by decide) rfl (by decide)
theorem gi1418 {i : Int} (ok : Ok S h) (ha : sK S a = 12) (hi : 0 ≤ i ∧ i < 112) : isIA (KD h (sT S 1418 a)) = true ∧ bnd i (LN h (sT S 1418 a)) := ⟨by rw [(g_ix ok ha (by decide) rfl hi).1]; rfl, (g_ix ok ha (by decide) rfl hi).2⟩
theorem ra1418 (ok : Ok S h) (ha : sK S a = 12) (j : Nat) : 0 ≤ AI h (sT S 1418 a) j ∧ AI h (sT S 1418 a) j ≤ 255 := g_ra ok ha (by decide) rfl rfl j
theorem fr1419 (ok : Ok S h) (ha : sK S a = 12) : FR h 1419 a = some (sT S 1419 a) := g_fr ok ha (by decide) (by decide)
theorem kT1419 (ok : Ok S h) (ha : sK S a = 12) : sK S (sT S 1419 a) = 40 := g_kT ok ha rfl (by decide)
theorem lT1419 (ok : Ok S h) (ha : sK S a = 12) : LN h (sT S 1419 a) = 14 := g_lT ok ha (by decide) rfl (by decide)
theorem gi1419 {i : Int} (ok : Ok S h) (ha : sK S a = 12) (hi : 0 ≤ i ∧ i < 14) : isIA (KD h (sT S 1419 a)) = true ∧ bnd i (LN h (sT S 1419 a)) := ⟨by rw [(g_ix ok ha (by decide) rfl hi).1]; rfl, (g_ix ok ha (by decide) rfl hi).2⟩
theorem ra1419 (ok : Ok S h) (ha : sK S a = 12) (j : Nat) : 0 ≤ AI h (sT S 1419 a) j ∧ AI h (sT S 1419 a) j ≤ 8 := g_ra ok ha (by decide) rfl rfl j
theorem fr1420 (ok : Ok S h) (ha : sK S a = 12) : FR h 1420 a = some (sT S 1420 a) := g_fr ok ha (by decide) (by decide)
theorem kT1420 (ok : Ok S h) (ha : sK S a = 12) : sK S (sT S 1420 a) = 42 := g_kT ok ha rfl (by decide)
theorem lT1420 (ok : Ok S h) (ha : sK S a = 12) : LN h (sT S 1420 a) = 14 := g_lT ok ha (by decide) rfl (by decide)
theorem gi1420 {i : Int} (ok : Ok S h) (ha : sK S a = 12) (hi : 0 ≤ i ∧ i < 14) : isBA (KD h (sT S 1420 a)) = true ∧ bnd i (LN h (sT S 1420 a)) := ⟨by rw [(g_ix ok ha (by decide) rfl hi).1]; rfl, (g_ix ok ha (by decide) rfl hi).2⟩
theorem ra1420 (ok : Ok S h) (ha : sK S a = 12) (j : Nat) : 0 ≤ AI h (sT S 1420 a) j ∧ AI h (sT S 1420 a) j ≤ 1 := g_ra ok ha (by decide) rfl rfl j
theorem fr1421 (ok : Ok S h) (ha : sK S a = 12) : FR h 1421 a = some (sT S 1421 a) := g_fr ok ha (by decide) (by decide)
theorem kT1421 (ok : Ok S h) (ha : sK S a = 12) : sK S (sT S 1421 a) = 40 := g_kT ok ha rfl (by decide)
theorem lT1421 (ok : Ok S h) (ha : sK S a = 12) : LN h (sT S 1421 a) = 14 := g_lT ok ha (by decide) rfl (by decide)
theorem gi1421 {i : Int} (ok : Ok S h) (ha : sK S a = 12) (hi : 0 ≤ i ∧ i < 14) : isIA (KD h (sT S 1421 a)) = true ∧ bnd i (LN h (sT S 1421 a)) := ⟨by rw [(g_ix ok ha (by decide) rfl hi).1]; rfl, (g_ix ok ha (by decide) rfl hi).2⟩
theorem ra1421 (ok : Ok S h) (ha : sK S a = 12) (j : Nat) : 0 ≤ AI h (sT S 1421 a) j ∧ AI h (sT S 1421 a) j ≤ 7 := g_ra ok ha (by decide) rfl rfl j
theorem fr1422 (ok : Ok S h) (ha : sK S a = 12) : FR h 1422 a = some (sT S 1422 a) := g_fr ok ha (by decide) (by decide)
theorem kT1422 (ok : Ok S h) (ha : sK S a = 12) : sK S (sT S 1422 a) = 40 := g_kT ok ha rfl (by decide)
theorem lT1422 (ok : Ok S h) (ha : sK S a = 12) : LN h (sT S 1422 a) = 112 := g_lT ok ha (by decide) rfl (by decide)
theorem gi1422 {i : Int} (ok : Ok S h) (ha : sK S a = 12) (hi : 0 ≤ i ∧ i < 112) : isIA (KD h (sT S 1422 a)) = true ∧ bnd i (LN h (sT S 1422 a)) := ⟨by rw [(g_ix ok ha (by decide) rfl hi).1]; rfl, (g_ix ok ha (by decide) rfl hi).2⟩
theorem ra1422 (ok : Ok S h) (ha : sK S a = 12) (j : Nat) : 0 ≤ AI h (sT S 1422 a) j ∧ AI h (sT S 1422 a) j ≤ 255 := g_ra ok ha (by decide) rfl rfl j
theorem fr1423 (ok : Ok S h) (ha : sK S a = 12) : FR h 1423 a = some (sT S 1423 a) := g_fr ok ha (by decide) (by decide)
theorem kT1423 (ok : Ok S h) (ha : sK S a = 12) : sK S (sT S 1423 a) = 40 := g_kT ok ha rfl (by decide)
theorem lT1423 (ok : Ok S h) (ha : sK S a = 12) : LN h (sT S 1423 a) = 14 := g_lT ok ha (by decide) rfl (by decide)
theorem gi1423 {i : Int} (ok : Ok S h) (ha : sK S a = 12) (hi : 0 ≤ i ∧ i < 14) : isIA (KD h (sT S 1423 a)) = true ∧ bnd i (LN h (sT S 1423 a)) := ⟨by rw [(g_ix ok ha (by decide) rfl hi).1]; rfl, (g_ix ok ha (by decide) rfl hi).2⟩
theorem ra1423 (ok : Ok S h) (ha : sK S a = 12) (j : Nat) : 0 ≤ AI h (sT S 1423 a) j ∧ AI h (sT S 1423 a) j ≤ 8 := g_ra ok ha (by decide) rfl rfl j
theorem fr1424 (ok : Ok S h) (ha : sK S a = 12) : FR h 1424 a = some (sT S 1424 a) := g_fr ok ha (by decide) (by decide)
theorem kT1424 (ok : Ok S h) (ha : sK S a = 12) : sK S (sT S 1424 a) = 40 := g_kT ok ha rfl (by decide)
theorem lT1424 (ok : Ok S h) (ha : sK S a = 12) : LN h (sT S 1424 a) = 14 := g_lT ok ha (by decide) rfl (by decide)
theorem gi1424 {i : Int} (ok : Ok S h) (ha : sK S a = 12) (hi : 0 ≤ i ∧ i < 14) : isIA (KD h (sT S 1424 a)) = true ∧ bnd i (LN h (sT S 1424 a)) := ⟨by rw [(g_ix ok ha (by decide) rfl hi).1]; rfl, (g_ix ok ha (by decide) rfl hi).2⟩
theorem ra1424 (ok : Ok S h) (ha : sK S a = 12) (j : Nat) : 0 ≤ AI h (sT S 1424 a) j ∧ AI h (sT S 1424 a) j ≤ 6 := g_ra ok ha (by decide) rfl rfl j
theorem fr1425 (ok : Ok S h) (ha : sK S a = 12) : FR h 1425 a = some (sT S 1425 a) := g_fr ok ha (by decide) (by decide)
theorem kT1425 (ok : Ok S h) (ha : sK S a = 12) : sK S (sT S 1425 a) = 42 := g_kT ok ha rfl (by decide)
theorem lT1425 (ok : Ok S h) (ha : sK S a = 12) : LN h (sT S 1425 a) = 84 := g_lT ok ha (by decide) rfl (by decide)
theorem gi1425 {i : Int} (ok : Ok S h) (ha : sK S a = 12) (hi : 0 ≤ i ∧ i < 84) : isBA (KD h (sT S 1425 a)) = true ∧ bnd i (LN h (sT S 1425 a)) := ⟨by rw [(g_ix ok ha (by decide) rfl hi).1]; rfl, (g_ix ok ha (by decide) rfl hi).2⟩
theorem ra1425 (ok : Ok S h) (ha : sK S a = 12) (j : Nat) : 0 ≤ AI h (sT S 1425 a) j ∧ AI h (sT S 1425 a) j ≤ 1 := g_ra ok ha (by decide) rfl rfl j
theorem fr1426 (ok : Ok S h) (ha : sK S a = 12) : FR h 1426 a = some (sT S 1426 a) := g_fr ok ha (by decide) (by decide)
theorem kT1426 (ok : Ok S h) (ha : sK S a = 12) : sK S (sT S 1426 a) = 40 := g_kT ok ha rfl (by decide)
theorem lT1426 (ok : Ok S h) (ha : sK S a = 12) : LN h (sT S 1426 a) = 1008 := g_lT ok ha (by decide) rfl (by decide)
theorem gi1426 {i : Int} (ok : Ok S h) (ha : sK S a = 12) (hi : 0 ≤ i ∧ i < 1008) : isIA (KD h (sT S 1426 a)) = true ∧ bnd i (LN h (sT S 1426 a)) := ⟨by rw [(g_ix ok ha (by decide) rfl hi).1]; rfl, (g_ix ok ha (by decide) rfl hi).2⟩
theorem ra1426 (ok : Ok S h) (ha : sK S a = 12) (j : Nat) : 0 ≤ AI h (sT S 1426 a) j ∧ AI h (sT S 1426 a) j ≤ 255 := g_ra ok ha (by decide) rfl rfl j
theorem fr1427 (ok : Ok S h) (ha : sK S a = 12) : FR h 1427 a = some (sT S 1427 a) := g_fr ok ha (by decide) (by decide)
theorem kT1427 (ok : Ok S h) (ha : sK S a = 12) : sK S (sT S 1427 a) = 40 := g_kT ok ha rfl (by decide)
theorem lT1427 (ok : Ok S h) (ha : sK S a = 12) : LN h (sT S 1427 a) = 84 := g_lT ok ha (by decide) rfl (by decide)
theorem gi1427 {i : Int} (ok : Ok S h) (ha : sK S a = 12) (hi : 0 ≤ i ∧ i < 84) : isIA (KD h (sT S 1427 a)) = true ∧ bnd i (LN h (sT S 1427 a)) := ⟨by rw [(g_ix ok ha (by decide) rfl hi).1]; rfl, (g_ix ok ha (by decide) rfl hi).2⟩
theorem ra1427 (ok : Ok S h) (ha : sK S a = 12) (j : Nat) : 0 ≤ AI h (sT S 1427 a) j ∧ AI h (sT S 1427 a) j ≤ 12 := g_ra ok ha (by decide) rfl rfl j
theorem fr1428 (ok : Ok S h) (ha : sK S a = 12) : FR h 1428 a = some (sT S 1428 a) := g_fr ok ha (by decide) (by decide)
theorem kT1428 (ok : Ok S h) (ha : sK S a = 12) : sK S (sT S 1428 a) = 40 := g_kT ok ha rfl (by decide)
theorem lT1428 (ok : Ok S h) (ha : sK S a = 12) : LN h (sT S 1428 a) = 112 := g_lT ok ha (by decide) rfl (by decide)
theorem gi1428 {i : Int} (ok : Ok S h) (ha : sK S a = 12) (hi : 0 ≤ i ∧ i < 112) : isIA (KD h (sT S 1428 a)) = true ∧ bnd i (LN h (sT S 1428 a)) := ⟨by rw [(g_ix ok ha (by decide) rfl hi).1]; rfl, (g_ix ok ha (by decide) rfl hi).2⟩
theorem ra1428 (ok : Ok S h) (ha : sK S a = 12) (j : Nat) : 0 ≤ AI h (sT S 1428 a) j ∧ AI h (sT S 1428 a) j ≤ 255 := g_ra ok ha (by decide) rfl rfl j
theorem fr1429 (ok : Ok S h) (ha : sK S a = 12) : FR h 1429 a = some (sT S 1429 a) := g_fr ok ha (by decide) (by decide)
theorem kT1429 (ok : Ok S h) (ha : sK S a = 12) : sK S (sT S 1429 a) = 40 := g_kT ok ha rfl (by decide)
theorem lT1429 (ok : Ok S h) (ha : sK S a = 12) : LN h (sT S 1429 a) = 14 := g_lT ok ha (by decide) rfl (by decide)
theorem gi1429 {i : Int} (ok : Ok S h) (ha : sK S a = 12) (hi : 0 ≤ i ∧ i < 14) : isIA (KD h (sT S 1429 a)) = true ∧ bnd i (LN h (sT S 1429 a)) := ⟨by rw [(g_ix ok ha (by decide) rfl hi).1]; rfl, (g_ix ok ha (by decide) rfl hi).2⟩
theorem ra1429 (ok : Ok S h) (ha : sK S a = 12) (j : Nat) : 0 ≤ AI h (sT S 1429 a) j ∧ AI h (sT S 1429 a) j ≤ 8 := g_ra ok ha (by decide) rfl rfl j
theorem fr1430 (ok : Ok S h) (ha : sK S a = 12) : FR h 1430 a = some (sT S 1430 a) := g_fr ok ha (by decide) (by decide)
theorem kT1430 (ok : Ok S h) (ha : sK S a = 12) : sK S (sT S 1430 a) = 40 := g_kT ok ha rfl (by decide)
theorem lT1430 (ok : Ok S h) (ha : sK S a = 12) : LN h (sT S 1430 a) = 14 := g_lT ok ha (by decide) rfl (by decide)
theorem gi1430 {i : Int} (ok : Ok S h) (ha : sK S a = 12) (hi : 0 ≤ i ∧ i < 14) : isIA (KD h (sT S 1430 a)) = true ∧ bnd i (LN h (sT S 1430 a)) := ⟨by rw [(g_ix ok ha (by decide) rfl hi).1]; rfl, (g_ix ok ha (by decide) rfl hi).2⟩
theorem ra1430 (ok : Ok S h) (ha : sK S a = 12) (j : Nat) : 0 ≤ AI h (sT S 1430 a) j ∧ AI h (sT S 1430 a) j ≤ 9999 := g_ra ok ha (by decide) rfl rfl j
theorem fr1536 (ok : Ok S h) (ha : sK S a = 13) : FR h 1536 a = some (sT S 1536 a) := g_fr ok ha (by decide) (by decide)
theorem kT1536 (ok : Ok S h) (ha : sK S a = 13) : sK S (sT S 1536 a) = 40 := g_kT ok ha rfl (by decide)
theorem lT1536 (ok : Ok S h) (ha : sK S a = 13) : LN h (sT S 1536 a) = 600 := g_lT ok ha (by decide) rfl (by decide)
theorem gi1536 {i : Int} (ok : Ok S h) (ha : sK S a = 13) (hi : 0 ≤ i ∧ i < 600) : isIA (KD h (sT S 1536 a)) = true ∧ bnd i (LN h (sT S 1536 a)) := ⟨by rw [(g_ix ok ha (by decide) rfl hi).1]; rfl, (g_ix ok ha (by decide) rfl hi).2⟩
theorem ra1536 (ok : Ok S h) (ha : sK S a = 13) (j : Nat) : 0 ≤ AI h (sT S 1536 a) j ∧ AI h (sT S 1536 a) j ≤ 255 := g_ra ok ha (by decide) rfl rfl j
theorem rg1537 (ok : Ok S h) (ha : sK S a = 13) : 0 ≤ FI h 1537 a ∧ FI h 1537 a ≤ 600 := g_rg ok ha (by decide) rfl rfl
theorem fr1538 (ok : Ok S h) (ha : sK S a = 13) : FR h 1538 a = some (sT S 1538 a) := g_fr ok ha (by decide) (by decide)
theorem kT1538 (ok : Ok S h) (ha : sK S a = 13) : sK S (sT S 1538 a) = 40 := g_kT ok ha rfl (by decide)
theorem lT1538 (ok : Ok S h) (ha : sK S a = 13) : LN h (sT S 1538 a) = 600 := g_lT ok ha (by decide) rfl (by decide)
theorem gi1538 {i : Int} (ok : Ok S h) (ha : sK S a = 13) (hi : 0 ≤ i ∧ i < 600) : isIA (KD h (sT S 1538 a)) = true ∧ bnd i (LN h (sT S 1538 a)) := ⟨by rw [(g_ix ok ha (by decide) rfl hi).1]; rfl, (g_ix ok ha (by decide) rfl hi).2⟩
theorem ra1538 (ok : Ok S h) (ha : sK S a = 13) (j : Nat) : 0 ≤ AI h (sT S 1538 a) j ∧ AI h (sT S 1538 a) j ≤ 255 := g_ra ok ha (by decide) rfl rfl j
theorem rg1539 (ok : Ok S h) (ha : sK S a = 13) : 0 ≤ FI h 1539 a ∧ FI h 1539 a ≤ 600 := g_rg ok ha (by decide) rfl rfl
theorem fr1540 (ok : Ok S h) (ha : sK S a = 13) : FR h 1540 a = some (sT S 1540 a) := g_fr ok ha (by decide) (by decide)
theorem kT1540 (ok : Ok S h) (ha : sK S a = 13) : sK S (sT S 1540 a) = 40 := g_kT ok ha rfl (by decide)
theorem lT1540 (ok : Ok S h) (ha : sK S a = 13) : LN h (sT S 1540 a) = 40 := g_lT ok ha (by decide) rfl (by decide)
theorem gi1540 {i : Int} (ok : Ok S h) (ha : sK S a = 13) (hi : 0 ≤ i ∧ i < 40) : isIA (KD h (sT S 1540 a)) = true ∧ bnd i (LN h (sT S 1540 a)) := ⟨by rw [(g_ix ok ha (by decide) rfl hi).1]; rfl, (g_ix ok ha (by decide) rfl hi).2⟩
theorem ra1540 (ok : Ok S h) (ha : sK S a = 13) (j : Nat) : 0 ≤ AI h (sT S 1540 a) j ∧ AI h (sT S 1540 a) j ≤ 255 := g_ra ok ha (by decide) rfl rfl j
theorem rg1541 (ok : Ok S h) (ha : sK S a = 13) : 0 ≤ FI h 1541 a ∧ FI h 1541 a ≤ 40 := g_rg ok ha (by decide) rfl rfl
theorem fr1664 (ok : Ok S h) (ha : sK S a = 14) : FR h 1664 a = some (sT S 1664 a) := g_fr ok ha (by decide) (by decide)
theorem kT1664 (ok : Ok S h) (ha : sK S a = 14) : sK S (sT S 1664 a) = 12 := g_kT ok ha rfl (by decide)
theorem fr1665 (ok : Ok S h) (ha : sK S a = 14) : FR h 1665 a = some (sT S 1665 a) := g_fr ok ha (by decide) (by decide)
theorem kT1665 (ok : Ok S h) (ha : sK S a = 14) : sK S (sT S 1665 a) = 12 := g_kT ok ha rfl (by decide)
theorem fr1666 (ok : Ok S h) (ha : sK S a = 14) : FR h 1666 a = some (sT S 1666 a) := g_fr ok ha (by decide) (by decide)
theorem kT1666 (ok : Ok S h) (ha : sK S a = 14) : sK S (sT S 1666 a) = 42 := g_kT ok ha rfl (by decide)
theorem lT1666 (ok : Ok S h) (ha : sK S a = 14) : LN h (sT S 1666 a) = 14 := g_lT ok ha (by decide) rfl (by decide)
theorem gi1666 {i : Int} (ok : Ok S h) (ha : sK S a = 14) (hi : 0 ≤ i ∧ i < 14) : isBA (KD h (sT S 1666 a)) = true ∧ bnd i (LN h (sT S 1666 a)) := ⟨by rw [(g_ix ok ha (by decide) rfl hi).1]; rfl, (g_ix ok ha (by decide) rfl hi).2⟩
theorem ra1666 (ok : Ok S h) (ha : sK S a = 14) (j : Nat) : 0 ≤ AI h (sT S 1666 a) j ∧ AI h (sT S 1666 a) j ≤ 1 := g_ra ok ha (by decide) rfl rfl j
theorem fr1667 (ok : Ok S h) (ha : sK S a = 14) : FR h 1667 a = some (sT S 1667 a) := g_fr ok ha (by decide) (by decide)
theorem kT1667 (ok : Ok S h) (ha : sK S a = 14) : sK S (sT S 1667 a) = 62 := g_kT ok ha rfl (by decide)
theorem lT1667 (ok : Ok S h) (ha : sK S a = 14) : LN h (sT S 1667 a) = 14 := g_lT ok ha (by decide) rfl (by decide)
theorem gi1667 {i : Int} (ok : Ok S h) (ha : sK S a = 14) (hi : 0 ≤ i ∧ i < 14) : isRA (KD h (sT S 1667 a)) = true ∧ bnd i (LN h (sT S 1667 a)) := ⟨by rw [(g_ix ok ha (by decide) rfl hi).1]; rfl, (g_ix ok ha (by decide) rfl hi).2⟩
theorem er1667 (ok : Ok S h) (ha : sK S a = 14) (hj : j < 14) : AR h (sT S 1667 a) j = some (sE S (sT S 1667 a) j) := g_er ok ha (by decide) rfl rfl hj
theorem kE1667 (ok : Ok S h) (ha : sK S a = 14) (hj : j < 14) : sK S (sE S (sT S 1667 a) j) = 13 := g_kE ok ha (by decide) rfl rfl hj (by decide)
theorem fr1668 (ok : Ok S h) (ha : sK S a = 14) : FR h 1668 a = some (sT S 1668 a) := g_fr ok ha (by decide) (by decide)
theorem kT1668 (ok : Ok S h) (ha : sK S a = 14) : sK S (sT S 1668 a) = 62 := g_kT ok ha rfl (by decide)
theorem lT1668 (ok : Ok S h) (ha : sK S a = 14) : LN h (sT S 1668 a) = 14 := g_lT ok ha (by decide) rfl (by decide)
theorem gi1668 {i : Int} (ok : Ok S h) (ha : sK S a = 14) (hi : 0 ≤ i ∧ i < 14) : isRA (KD h (sT S 1668 a)) = true ∧ bnd i (LN h (sT S 1668 a)) := ⟨by rw [(g_ix ok ha (by decide) rfl hi).1]; rfl, (g_ix ok ha (by decide) rfl hi).2⟩
theorem er1668 (ok : Ok S h) (ha : sK S a = 14) (hj : j < 14) : AR h (sT S 1668 a) j = some (sE S (sT S 1668 a) j) := g_er ok ha (by decide) rfl rfl hj
theorem kE1668 (ok : Ok S h) (ha : sK S a = 14) (hj : j < 14) : sK S (sE S (sT S 1668 a) j) = 13 := g_kE ok ha (by decide) rfl rfl hj (by decide)
theorem fr1669 (ok : Ok S h) (ha : sK S a = 14) : FR h 1669 a = some (sT S 1669 a) := g_fr ok ha (by decide) (by decide)
theorem kT1669 (ok : Ok S h) (ha : sK S a = 14) : sK S (sT S 1669 a) = 62 := g_kT ok ha rfl (by decide)
theorem lT1669 (ok : Ok S h) (ha : sK S a = 14) : LN h (sT S 1669 a) = 14 := g_lT ok ha (by decide) rfl (by decide)
theorem gi1669 {i : Int} (ok : Ok S h) (ha : sK S a = 14) (hi : 0 ≤ i ∧ i < 14) : isRA (KD h (sT S 1669 a)) = true ∧ bnd i (LN h (sT S 1669 a)) := ⟨by rw [(g_ix ok ha (by decide) rfl hi).1]; rfl, (g_ix ok ha (by decide) rfl hi).2⟩
theorem er1669 (ok : Ok S h) (ha : sK S a = 14) (hj : j < 14) : AR h (sT S 1669 a) j = some (sE S (sT S 1669 a) j) := g_er ok ha (by decide) rfl rfl hj
theorem kE1669 (ok : Ok S h) (ha : sK S a = 14) (hj : j < 14) : sK S (sE S (sT S 1669 a) j) = 13 := g_kE ok ha (by decide) rfl rfl hj (by decide)
theorem fr1670 (ok : Ok S h) (ha : sK S a = 14) : FR h 1670 a = some (sT S 1670 a) := g_fr ok ha (by decide) (by decide)
theorem kT1670 (ok : Ok S h) (ha : sK S a = 14) : sK S (sT S 1670 a) = 44 := g_kT ok ha rfl (by decide)
theorem lT1670 (ok : Ok S h) (ha : sK S a = 14) : LN h (sT S 1670 a) = 98 := g_lT ok ha (by decide) rfl (by decide)
theorem gi1670 {i : Int} (ok : Ok S h) (ha : sK S a = 14) (hi : 0 ≤ i ∧ i < 98) : KD h (sT S 1670 a) = 44 ∧ bnd i (LN h (sT S 1670 a)) := g_ix ok ha (by decide) rfl hi
theorem fr1671 (ok : Ok S h) (ha : sK S a = 14) : FR h 1671 a = some (sT S 1671 a) := g_fr ok ha (by decide) (by decide)
theorem kT1671 (ok : Ok S h) (ha : sK S a = 14) : sK S (sT S 1671 a) = 40 := g_kT ok ha rfl (by decide)
theorem lT1671 (ok : Ok S h) (ha : sK S a = 14) : LN h (sT S 1671 a) = 14 := g_lT ok ha (by decide) rfl (by decide)
theorem gi1671 {i : Int} (ok : Ok S h) (ha : sK S a = 14) (hi : 0 ≤ i ∧ i < 14) : isIA (KD h (sT S 1671 a)) = true ∧ bnd i (LN h (sT S 1671 a)) := ⟨by rw [(g_ix ok ha (by decide) rfl hi).1]; rfl, (g_ix ok ha (by decide) rfl hi).2⟩
theorem ra1671 (ok : Ok S h) (ha : sK S a = 14) (j : Nat) : 0 ≤ AI h (sT S 1671 a) j ∧ AI h (sT S 1671 a) j ≤ 7 := g_ra ok ha (by decide) rfl rfl j
theorem fr1672 (ok : Ok S h) (ha : sK S a = 14) : FR h 1672 a = some (sT S 1672 a) := g_fr ok ha (by decide) (by decide)
theorem kT1672 (ok : Ok S h) (ha : sK S a = 14) : sK S (sT S 1672 a) = 40 := g_kT ok ha rfl (by decide)
theorem lT1672 (ok : Ok S h) (ha : sK S a = 14) : LN h (sT S 1672 a) = 14 := g_lT ok ha (by decide) rfl (by decide)
theorem gi1672 {i : Int} (ok : Ok S h) (ha : sK S a = 14) (hi : 0 ≤ i ∧ i < 14) : isIA (KD h (sT S 1672 a)) = true ∧ bnd i (LN h (sT S 1672 a)) := ⟨by rw [(g_ix ok ha (by decide) rfl hi).1]; rfl, (g_ix ok ha (by decide) rfl hi).2⟩
theorem ra1672 (ok : Ok S h) (ha : sK S a = 14) (j : Nat) : 0 ≤ AI h (sT S 1672 a) j ∧ AI h (sT S 1672 a) j ≤ 5 := g_ra ok ha (by decide) rfl rfl j
theorem fr1673 (ok : Ok S h) (ha : sK S a = 14) : FR h 1673 a = some (sT S 1673 a) := g_fr ok ha (by decide) (by decide)
theorem kT1673 (ok : Ok S h) (ha : sK S a = 14) : sK S (sT S 1673 a) = 40 := g_kT ok ha rfl (by decide)
theorem lT1673 (ok : Ok S h) (ha : sK S a = 14) : LN h (sT S 1673 a) = 14 := g_lT ok ha (by decide) rfl (by decide)
theorem gi1673 {i : Int} (ok : Ok S h) (ha : sK S a = 14) (hi : 0 ≤ i ∧ i < 14) : isIA (KD h (sT S 1673 a)) = true ∧ bnd i (LN h (sT S 1673 a)) := ⟨by rw [(g_ix ok ha (by decide) rfl hi).1]; rfl, (g_ix ok ha (by decide) rfl hi).2⟩
theorem ra1673 (ok : Ok S h) (ha : sK S a = 14) (j : Nat) : 0 ≤ AI h (sT S 1673 a) j ∧ AI h (sT S 1673 a) j ≤ 6 := g_ra ok ha (by decide) rfl rfl j
theorem fr1674 (ok : Ok S h) (ha : sK S a = 14) : FR h 1674 a = some (sT S 1674 a) := g_fr ok ha (by decide) (by decide)
theorem kT1674 (ok : Ok S h) (ha : sK S a = 14) : sK S (sT S 1674 a) = 42 := g_kT ok ha rfl (by decide)
theorem lT1674 (ok : Ok S h) (ha : sK S a = 14) : LN h (sT S 1674 a) = 14 := g_lT ok ha (by decide) rfl (by decide)
theorem gi1674 {i : Int} (ok : Ok S h) (ha : sK S a = 14) (hi : 0 ≤ i ∧ i < 14) : isBA (KD h (sT S 1674 a)) = true ∧ bnd i (LN h (sT S 1674 a)) := ⟨by rw [(g_ix ok ha (by decide) rfl hi).1]; rfl, (g_ix ok ha (by decide) rfl hi).2⟩
theorem ra1674 (ok : Ok S h) (ha : sK S a = 14) (j : Nat) : 0 ≤ AI h (sT S 1674 a) j ∧ AI h (sT S 1674 a) j ≤ 1 := g_ra ok ha (by decide) rfl rfl j
theorem fr1675 (ok : Ok S h) (ha : sK S a = 14) : FR h 1675 a = some (sT S 1675 a) := g_fr ok ha (by decide) (by decide)
theorem kT1675 (ok : Ok S h) (ha : sK S a = 14) : sK S (sT S 1675 a) = 62 := g_kT ok ha rfl (by decide)
theorem lT1675 (ok : Ok S h) (ha : sK S a = 14) : LN h (sT S 1675 a) = 14 := g_lT ok ha (by decide) rfl (by decide)
theorem gi1675 {i : Int} (ok : Ok S h) (ha : sK S a = 14) (hi : 0 ≤ i ∧ i < 14) : isRA (KD h (sT S 1675 a)) = true ∧ bnd i (LN h (sT S 1675 a)) := ⟨by rw [(g_ix ok ha (by decide) rfl hi).1]; rfl, (g_ix ok ha (by decide) rfl hi).2⟩
theorem er1675 (ok : Ok S h) (ha : sK S a = 14) (hj : j < 14) : AR h (sT S 1675 a) j = some (sE S (sT S 1675 a) j) := g_er ok ha (by decide) rfl rfl hj
theorem kE1675 (ok : Ok S h) (ha : sK S a = 14) (hj : j < 14) : sK S (sE S (sT S 1675 a) j) = 13 := g_kE ok ha (by decide) rfl rfl hj (by decide)
theorem fr1676 (ok : Ok S h) (ha : sK S a = 14) : FR h 1676 a = some (sT S 1676 a) := g_fr ok ha (by decide) (by decide)
theorem kT1676 (ok : Ok S h) (ha : sK S a = 14) : sK S (sT S 1676 a) = 40 := g_kT ok ha rfl (by decide)
theorem lT1676 (ok : Ok S h) (ha : sK S a = 14) : LN h (sT S 1676 a) = 42 := g_lT ok ha (by decide) rfl (by decide)
theorem gi1676 {i : Int} (ok : Ok S h) (ha : sK S a = 14) (hi : 0 ≤ i ∧ i < 42) : isIA (KD h (sT S 1676 a)) = true ∧ bnd i (LN h (sT S 1676 a)) := ⟨by rw [(g_ix ok ha (by decide) rfl hi).1]; rfl, (g_ix ok ha (by decide) rfl hi).2⟩
theorem ra1676 (ok : Ok S h) (ha : sK S a = 14) (j : Nat) : 0 ≤ AI h (sT S 1676 a) j ∧ AI h (sT S 1676 a) j ≤ 2147483647 := g_ra ok ha (by decide) rfl rfl j
theorem fr1678 (ok : Ok S h) (ha : sK S a = 14) : FR h 1678 a = some (sT S 1678 a) := g_fr ok ha (by decide) (by decide)
theorem kT1678 (ok : Ok S h) (ha : sK S a = 14) : sK S (sT S 1678 a) = 44 := g_kT ok ha rfl (by decide)
theorem lT1678 (ok : Ok S h) (ha : sK S a = 14) : LN h (sT S 1678 a) = 7 := g_lT ok ha (by decide) rfl (by decide)
theorem gi1678 {i : Int} (ok : Ok S h) (ha : sK S a = 14) (hi : 0 ≤ i ∧ i < 7) : KD h (sT S 1678 a) = 44 ∧ bnd i (LN h (sT S 1678 a)) := g_ix ok ha (by decide) rfl hi
theorem rg1679 (ok : Ok S h) (ha : sK S a = 14) : 0 ≤ FI h 1679 a ∧ FI h 1679 a ≤ 7 := g_rg ok ha (by decide) rfl rfl
theorem fr1681 (ok : Ok S h) (ha : sK S a = 14) : FR h 1681 a = some (sT S 1681 a) := g_fr ok ha (by decide) (by decide)
theorem kT1681 (ok : Ok S h) (ha : sK S a = 14) : sK S (sT S 1681 a) = 40 := g_kT ok ha rfl (by decide)
theorem lT1681 (ok : Ok S h) (ha : sK S a = 14) : LN h (sT S 1681 a) = 3600 := g_lT ok ha (by decide) rfl (by decide)
theorem gi1681 {i : Int} (ok : Ok S h) (ha : sK S a = 14) (hi : 0 ≤ i ∧ i < 3600) : isIA (KD h (sT S 1681 a)) = true ∧ bnd i (LN h (sT S 1681 a)) := ⟨by rw [(g_ix ok ha (by decide) rfl hi).1]; rfl, (g_ix ok ha (by decide) rfl hi).2⟩
theorem ra1681 (ok : Ok S h) (ha : sK S a = 14) (j : Nat) : 0 ≤ AI h (sT S 1681 a) j ∧ AI h (sT S 1681 a) j ≤ 255 := g_ra ok ha (by decide) rfl rfl j
theorem rg1682 (ok : Ok S h) (ha : sK S a = 14) : 0 ≤ FI h 1682 a ∧ FI h 1682 a ≤ 3600 := g_rg ok ha (by decide) rfl rfl
theorem fr1683 (ok : Ok S h) (ha : sK S a = 14) : FR h 1683 a = some (sT S 1683 a) := g_fr ok ha (by decide) (by decide)
theorem kT1683 (ok : Ok S h) (ha : sK S a = 14) : sK S (sT S 1683 a) = 13 := g_kT ok ha rfl (by decide)
theorem fr1684 (ok : Ok S h) (ha : sK S a = 14) : FR h 1684 a = some (sT S 1684 a) := g_fr ok ha (by decide) (by decide)
theorem kT1684 (ok : Ok S h) (ha : sK S a = 14) : sK S (sT S 1684 a) = 40 := g_kT ok ha rfl (by decide)
theorem lT1684 (ok : Ok S h) (ha : sK S a = 14) : LN h (sT S 1684 a) = 7 := g_lT ok ha (by decide) rfl (by decide)
theorem gi1684 {i : Int} (ok : Ok S h) (ha : sK S a = 14) (hi : 0 ≤ i ∧ i < 7) : isIA (KD h (sT S 1684 a)) = true ∧ bnd i (LN h (sT S 1684 a)) := ⟨by rw [(g_ix ok ha (by decide) rfl hi).1]; rfl, (g_ix ok ha (by decide) rfl hi).2⟩
theorem ra1684 (ok : Ok S h) (ha : sK S a = 14) (j : Nat) : 0 ≤ AI h (sT S 1684 a) j ∧ AI h (sT S 1684 a) j ≤ 3600 := g_ra ok ha (by decide) rfl rfl j
theorem rg1685 (ok : Ok S h) (ha : sK S a = 14) : 0 ≤ FI h 1685 a ∧ FI h 1685 a ≤ 1 := g_rg ok ha (by decide) rfl rfl
theorem fr1686 (ok : Ok S h) (ha : sK S a = 14) : FR h 1686 a = some (sT S 1686 a) := g_fr ok ha (by decide) (by decide)
theorem kT1686 (ok : Ok S h) (ha : sK S a = 14) : sK S (sT S 1686 a) = 40 := g_kT ok ha rfl (by decide)
theorem lT1686 (ok : Ok S h) (ha : sK S a = 14) : LN h (sT S 1686 a) = 3601 := g_lT ok ha (by decide) rfl (by decide)
theorem gi1686 {i : Int} (ok : Ok S h) (ha : sK S a = 14) (hi : 0 ≤ i ∧ i < 3601) : isIA (KD h (sT S 1686 a)) = true ∧ bnd i (LN h (sT S 1686 a)) := ⟨by rw [(g_ix ok ha (by decide) rfl hi).1]; rfl, (g_ix ok ha (by decide) rfl hi).2⟩
theorem ra1686 (ok : Ok S h) (ha : sK S a = 14) (j : Nat) : 0 ≤ AI h (sT S 1686 a) j ∧ AI h (sT S 1686 a) j ≤ 3600 := g_ra ok ha (by decide) rfl rfl j
theorem fr1687 (ok : Ok S h) (ha : sK S a = 14) : FR h 1687 a = some (sT S 1687 a) := g_fr ok ha (by decide) (by decide)
theorem kT1687 (ok : Ok S h) (ha : sK S a = 14) : sK S (sT S 1687 a) = 40 := g_kT ok ha rfl (by decide)
theorem lT1687 (ok : Ok S h) (ha : sK S a = 14) : LN h (sT S 1687 a) = 3601 := g_lT ok ha (by decide) rfl (by decide)
theorem gi1687 {i : Int} (ok : Ok S h) (ha : sK S a = 14) (hi : 0 ≤ i ∧ i < 3601) : isIA (KD h (sT S 1687 a)) = true ∧ bnd i (LN h (sT S 1687 a)) := ⟨by rw [(g_ix ok ha (by decide) rfl hi).1]; rfl, (g_ix ok ha (by decide) rfl hi).2⟩
theorem ra1687 (ok : Ok S h) (ha : sK S a = 14) (j : Nat) : 0 ≤ AI h (sT S 1687 a) j ∧ AI h (sT S 1687 a) j ≤ 3600 := g_ra ok ha (by decide) rfl rfl j
theorem rg1688 (ok : Ok S h) (ha : sK S a = 14) : 0 ≤ FI h 1688 a ∧ FI h 1688 a ≤ 3601 := g_rg ok ha (by decide) rfl rfl
theorem fr1689 (ok : Ok S h) (ha : sK S a = 14) : FR h 1689 a = some (sT S 1689 a) := g_fr ok ha (by decide) (by decide)
theorem kT1689 (ok : Ok S h) (ha : sK S a = 14) : sK S (sT S 1689 a) = 40 := g_kT ok ha rfl (by decide)
theorem lT1689 (ok : Ok S h) (ha : sK S a = 14) : LN h (sT S 1689 a) = 1300 := g_lT ok ha (by decide) rfl (by decide)
theorem gi1689 {i : Int} (ok : Ok S h) (ha : sK S a = 14) (hi : 0 ≤ i ∧ i < 1300) : isIA (KD h (sT S 1689 a)) = true ∧ bnd i (LN h (sT S 1689 a)) := ⟨by rw [(g_ix ok ha (by decide) rfl hi).1]; rfl, (g_ix ok ha (by decide) rfl hi).2⟩
theorem ra1689 (ok : Ok S h) (ha : sK S a = 14) (j : Nat) : 0 ≤ AI h (sT S 1689 a) j ∧ AI h (sT S 1689 a) j ≤ 3600 := g_ra ok ha (by decide) rfl rfl j
theorem fr1690 (ok : Ok S h) (ha : sK S a = 14) : FR h 1690 a = some (sT S 1690 a) := g_fr ok ha (by decide) (by decide)
theorem kT1690 (ok : Ok S h) (ha : sK S a = 14) : sK S (sT S 1690 a) = 40 := g_kT ok ha rfl (by decide)
theorem lT1690 (ok : Ok S h) (ha : sK S a = 14) : LN h (sT S 1690 a) = 1300 := g_lT ok ha (by decide) rfl (by decide)
theorem gi1690 {i : Int} (ok : Ok S h) (ha : sK S a = 14) (hi : 0 ≤ i ∧ i < 1300) : isIA (KD h (sT S 1690 a)) = true ∧ bnd i (LN h (sT S 1690 a)) := ⟨by rw [(g_ix ok ha (by decide) rfl hi).1]; rfl, (g_ix ok ha (by decide) rfl hi).2⟩
theorem ra1690 (ok : Ok S h) (ha : sK S a = 14) (j : Nat) : 0 ≤ AI h (sT S 1690 a) j ∧ AI h (sT S 1690 a) j ≤ 3600 := g_ra ok ha (by decide) rfl rfl j
theorem fr1691 (ok : Ok S h) (ha : sK S a = 14) : FR h 1691 a = some (sT S 1691 a) := g_fr ok ha (by decide) (by decide)
theorem kT1691 (ok : Ok S h) (ha : sK S a = 14) : sK S (sT S 1691 a) = 40 := g_kT ok ha rfl (by decide)
theorem lT1691 (ok : Ok S h) (ha : sK S a = 14) : LN h (sT S 1691 a) = 1300 := g_lT ok ha (by decide) rfl (by decide)
theorem gi1691 {i : Int} (ok : Ok S h) (ha : sK S a = 14) (hi : 0 ≤ i ∧ i < 1300) : isIA (KD h (sT S 1691 a)) = true ∧ bnd i (LN h (sT S 1691 a)) := ⟨by rw [(g_ix ok ha (by decide) rfl hi).1]; rfl, (g_ix ok ha (by decide) rfl hi).2⟩
theorem ra1691 (ok : Ok S h) (ha : sK S a = 14) (j : Nat) : 0 ≤ AI h (sT S 1691 a) j ∧ AI h (sT S 1691 a) j ≤ 9999 := g_ra ok ha (by decide) rfl rfl j
theorem fr1692 (ok : Ok S h) (ha : sK S a = 14) : FR h 1692 a = some (sT S 1692 a) := g_fr ok ha (by decide) (by decide)
theorem kT1692 (ok : Ok S h) (ha : sK S a = 14) : sK S (sT S 1692 a) = 42 := g_kT ok ha rfl (by decide)
theorem lT1692 (ok : Ok S h) (ha : sK S a = 14) : LN h (sT S 1692 a) = 1300 := g_lT ok ha (by decide) rfl (by decide)
theorem gi1692 {i : Int} (ok : Ok S h) (ha : sK S a = 14) (hi : 0 ≤ i ∧ i < 1300) : isBA (KD h (sT S 1692 a)) = true ∧ bnd i (LN h (sT S 1692 a)) := ⟨by rw [(g_ix ok ha (by decide) rfl hi).1]; rfl, (g_ix ok ha (by decide) rfl hi).2⟩
theorem ra1692 (ok : Ok S h) (ha : sK S a = 14) (j : Nat) : 0 ≤ AI h (sT S 1692 a) j ∧ AI h (sT S 1692 a) j ≤ 1 := g_ra ok ha (by decide) rfl rfl j
theorem rg1693 (ok : Ok S h) (ha : sK S a = 14) : 0 ≤ FI h 1693 a ∧ FI h 1693 a ≤ 1300 := g_rg ok ha (by decide) rfl rfl
theorem fr1694 (ok : Ok S h) (ha : sK S a = 14) : FR h 1694 a = some (sT S 1694 a) := g_fr ok ha (by decide) (by decide)
theorem kT1694 (ok : Ok S h) (ha : sK S a = 14) : sK S (sT S 1694 a) = 40 := g_kT ok ha rfl (by decide)
theorem lT1694 (ok : Ok S h) (ha : sK S a = 14) : LN h (sT S 1694 a) = 1300 := g_lT ok ha (by decide) rfl (by decide)
theorem gi1694 {i : Int} (ok : Ok S h) (ha : sK S a = 14) (hi : 0 ≤ i ∧ i < 1300) : isIA (KD h (sT S 1694 a)) = true ∧ bnd i (LN h (sT S 1694 a)) := ⟨by rw [(g_ix ok ha (by decide) rfl hi).1]; rfl, (g_ix ok ha (by decide) rfl hi).2⟩
theorem ra1694 (ok : Ok S h) (ha : sK S a = 14) (j : Nat) : 0 ≤ AI h (sT S 1694 a) j ∧ AI h (sT S 1694 a) j ≤ 3600 := g_ra ok ha (by decide) rfl rfl j
theorem fr1695 (ok : Ok S h) (ha : sK S a = 14) : FR h 1695 a = some (sT S 1695 a) := g_fr ok ha (by decide) (by decide)
theorem kT1695 (ok : Ok S h) (ha : sK S a = 14) : sK S (sT S 1695 a) = 40 := g_kT ok ha rfl (by decide)
theorem lT1695 (ok : Ok S h) (ha : sK S a = 14) : LN h (sT S 1695 a) = 1300 := g_lT ok ha (by decide) rfl (by decide)
theorem gi1695 {i : Int} (ok : Ok S h) (ha : sK S a = 14) (hi : 0 ≤ i ∧ i < 1300) : isIA (KD h (sT S 1695 a)) = true ∧ bnd i (LN h (sT S 1695 a)) := ⟨by rw [(g_ix ok ha (by decide) rfl hi).1]; rfl, (g_ix ok ha (by decide) rfl hi).2⟩
theorem ra1695 (ok : Ok S h) (ha : sK S a = 14) (j : Nat) : 0 ≤ AI h (sT S 1695 a) j ∧ AI h (sT S 1695 a) j ≤ 3600 := g_ra ok ha (by decide) rfl rfl j
theorem fr1696 (ok : Ok S h) (ha : sK S a = 14) : FR h 1696 a = some (sT S 1696 a) := g_fr ok ha (by decide) (by decide)
theorem kT1696 (ok : Ok S h) (ha : sK S a = 14) : sK S (sT S 1696 a) = 40 := g_kT ok ha rfl (by decide)
theorem lT1696 (ok : Ok S h) (ha : sK S a = 14) : LN h (sT S 1696 a) = 1300 := g_lT ok ha (by decide) rfl (by decide)
theorem gi1696 {i : Int} (ok : Ok S h) (ha : sK S a = 14) (hi : 0 ≤ i ∧ i < 1300) : isIA (KD h (sT S 1696 a)) = true ∧ bnd i (LN h (sT S 1696 a)) := ⟨by rw [(g_ix ok ha (by decide) rfl hi).1]; rfl, (g_ix ok ha (by decide) rfl hi).2⟩
theorem ra1696 (ok : Ok S h) (ha : sK S a = 14) (j : Nat) : 0 ≤ AI h (sT S 1696 a) j ∧ AI h (sT S 1696 a) j ≤ 9999 := g_ra ok ha (by decide) rfl rfl j
theorem rg1697 (ok : Ok S h) (ha : sK S a = 14) : 0 ≤ FI h 1697 a ∧ FI h 1697 a ≤ 1300 := g_rg ok ha (by decide) rfl rfl
theorem rg1698 (ok : Ok S h) (ha : sK S a = 14) : 0 ≤ FI h 1698 a ∧ FI h 1698 a ≤ 3700 := g_rg ok ha (by decide) rfl rfl
theorem rg1699 (ok : Ok S h) (ha : sK S a = 14) : 0 ≤ FI h 1699 a ∧ FI h 1699 a ≤ 3600 := g_rg ok ha (by decide) rfl rfl
theorem rg1700 (ok : Ok S h) (ha : sK S a = 14) : 0 ≤ FI h 1700 a ∧ FI h 1700 a ≤ 1 := g_rg ok ha (by decide) rfl rfl
theorem rg1701 (ok : Ok S h) (ha : sK S a = 14) : 0 ≤ FI h 1701 a ∧ FI h 1701 a ≤ 24 := g_rg ok ha (by decide) rfl rfl
theorem fr1702 (ok : Ok S h) (ha : sK S a = 14) : FR h 1702 a = some (sT S 1702 a) := g_fr ok ha (by decide) (by decide)
theorem kT1702 (ok : Ok S h) (ha : sK S a = 14) : sK S (sT S 1702 a) = 44 := g_kT ok ha rfl (by decide)
theorem lT1702 (ok : Ok S h) (ha : sK S a = 14) : LN h (sT S 1702 a) = 24 := g_lT ok ha (by decide) rfl (by decide)
theorem gi1702 {i : Int} (ok : Ok S h) (ha : sK S a = 14) (hi : 0 ≤ i ∧ i < 24) : KD h (sT S 1702 a) = 44 ∧ bnd i (LN h (sT S 1702 a)) := g_ix ok ha (by decide) rfl hi
theorem fr1703 (ok : Ok S h) (ha : sK S a = 14) : FR h 1703 a = some (sT S 1703 a) := g_fr ok ha (by decide) (by decide)
theorem kT1703 (ok : Ok S h) (ha : sK S a = 14) : sK S (sT S 1703 a) = 62 := g_kT ok ha rfl (by decide)
theorem lT1703 (ok : Ok S h) (ha : sK S a = 14) : LN h (sT S 1703 a) = 24 := g_lT ok ha (by decide) rfl (by decide)
theorem gi1703 {i : Int} (ok : Ok S h) (ha : sK S a = 14) (hi : 0 ≤ i ∧ i < 24) : isRA (KD h (sT S 1703 a)) = true ∧ bnd i (LN h (sT S 1703 a)) := ⟨by rw [(g_ix ok ha (by decide) rfl hi).1]; rfl, (g_ix ok ha (by decide) rfl hi).2⟩
theorem kE1703 (ok : Ok S h) (ha : sK S a = 14) (hj : j < 24) : sK S (sE S (sT S 1703 a) j) = 13 := g_kE ok ha (by decide) rfl rfl hj (by decide)
theorem rg1704 (ok : Ok S h) (ha : sK S a = 14) : 0 ≤ FI h 1704 a ∧ FI h 1704 a ≤ 1 := g_rg ok ha (by decide) rfl rfl
theorem rg1705 (ok : Ok S h) (ha : sK S a = 14) : 0 ≤ FI h 1705 a ∧ FI h 1705 a ≤ 16383 := g_rg ok ha (by decide) rfl rfl
theorem rg1706 (ok : Ok S h) (ha : sK S a = 14) : 0 ≤ FI h 1706 a ∧ FI h 1706 a ≤ 2147483647 := g_rg ok ha (by decide) rfl rfl
theorem fr1707 (ok : Ok S h) (ha : sK S a = 14) : FR h 1707 a = some (sT S 1707 a) := g_fr ok ha (by decide) (by decide)
theorem kT1707 (ok : Ok S h) (ha : sK S a = 14) : sK S (sT S 1707 a) = 40 := g_kT ok ha rfl (by decide)
theorem lT1707 (ok : Ok S h) (ha : sK S a = 14) : LN h (sT S 1707 a) = 14 := g_lT ok ha (by decide) rfl (by decide)
theorem gi1707 {i : Int} (ok : Ok S h) (ha : sK S a = 14) (hi : 0 ≤ i ∧ i < 14) : isIA (KD h (sT S 1707 a)) = true ∧ bnd i (LN h (sT S 1707 a)) := ⟨by rw [(g_ix ok ha (by decide) rfl hi).1]; rfl, (g_ix ok ha (by decide) rfl hi).2⟩
theorem ra1707 (ok : Ok S h) (ha : sK S a = 14) (j : Nat) : 0 ≤ AI h (sT S 1707 a) j ∧ AI h (sT S 1707 a) j ≤ 2 := g_ra ok ha (by decide) rfl rfl j
theorem fr1708 (ok : Ok S h) (ha : sK S a = 14) : FR h 1708 a = some (sT S 1708 a) := g_fr ok ha (by decide) (by decide)
theorem kT1708 (ok : Ok S h) (ha : sK S a = 14) : sK S (sT S 1708 a) = 40 := g_kT ok ha rfl (by decide)
theorem lT1708 (ok : Ok S h) (ha : sK S a = 14) : LN h (sT S 1708 a) = 14 := g_lT ok ha (by decide) rfl (by decide)
theorem gi1708 {i : Int} (ok : Ok S h) (ha : sK S a = 14) (hi : 0 ≤ i ∧ i < 14) : isIA (KD h (sT S 1708 a)) = true ∧ bnd i (LN h (sT S 1708 a)) := ⟨by rw [(g_ix ok ha (by decide) rfl hi).1]; rfl, (g_ix ok ha (by decide) rfl hi).2⟩
theorem ra1708 (ok : Ok S h) (ha : sK S a = 14) (j : Nat) : 0 ≤ AI h (sT S 1708 a) j ∧ AI h (sT S 1708 a) j ≤ 13 := g_ra ok ha (by decide) rfl rfl j
theorem rg1709 (ok : Ok S h) (ha : sK S a = 14) : 0 ≤ FI h 1709 a ∧ FI h 1709 a ≤ 14 := g_rg ok ha (by decide) rfl rfl
theorem rg1710 (ok : Ok S h) (ha : sK S a = 14) : 0 ≤ FI h 1710 a ∧ FI h 1710 a ≤ 2147483647 := g_rg ok ha (by decide) rfl rfl
theorem rg1711 (ok : Ok S h) (ha : sK S a = 14) : 0 ≤ FI h 1711 a ∧ FI h 1711 a ≤ 2147483647 := g_rg ok ha (by decide) rfl rfl
theorem rg1712 (ok : Ok S h) (ha : sK S a = 14) : 0 ≤ FI h 1712 a ∧ FI h 1712 a ≤ 2147483647 := g_rg ok ha (by decide) rfl rfl
theorem fr1713 (ok : Ok S h) (ha : sK S a = 14) : FR h 1713 a = some (sT S 1713 a) := g_fr ok ha (by decide) (by decide)
theorem kT1713 (ok : Ok S h) (ha : sK S a = 14) : sK S (sT S 1713 a) = 40 := g_kT ok ha rfl (by decide)
theorem lT1713 (ok : Ok S h) (ha : sK S a = 14) : LN h (sT S 1713 a) = 2 := g_lT ok ha (by decide) rfl (by decide)
theorem gi1713 {i : Int} (ok : Ok S h) (ha : sK S a = 14) (hi : 0 ≤ i ∧ i < 2) : isIA (KD h (sT S 1713 a)) = true ∧ bnd i (LN h (sT S 1713 a)) := ⟨by rw [(g_ix ok ha (by decide) rfl hi).1]; rfl, (g_ix ok ha (by decide) rfl hi).2⟩
theorem ra1713 (ok : Ok S h) (ha : sK S a = 14) (j : Nat) : (-1) ≤ AI h (sT S 1713 a) j ∧ AI h (sT S 1713 a) j ≤ 13 := g_ra ok ha (by decide) rfl rfl j
theorem fr1714 (ok : Ok S h) (ha : sK S a = 14) : FR h 1714 a = some (sT S 1714 a) := g_fr ok ha (by decide) (by decide)
theorem kT1714 (ok : Ok S h) (ha : sK S a = 14) : sK S (sT S 1714 a) = 40 := g_kT ok ha rfl (by decide)
theorem lT1714 (ok : Ok S h) (ha : sK S a = 14) : LN h (sT S 1714 a) = 2 := g_lT ok ha (by decide) rfl (by decide)
theorem gi1714 {i : Int} (ok : Ok S h) (ha : sK S a = 14) (hi : 0 ≤ i ∧ i < 2) : isIA (KD h (sT S 1714 a)) = true ∧ bnd i (LN h (sT S 1714 a)) := ⟨by rw [(g_ix ok ha (by decide) rfl hi).1]; rfl, (g_ix ok ha (by decide) rfl hi).2⟩
theorem ra1714 (ok : Ok S h) (ha : sK S a = 14) (j : Nat) : (-10) ≤ AI h (sT S 1714 a) j ∧ AI h (sT S 1714 a) j ≤ 1000 := g_ra ok ha (by decide) rfl rfl j
theorem fr1715 (ok : Ok S h) (ha : sK S a = 14) : FR h 1715 a = some (sT S 1715 a) := g_fr ok ha (by decide) (by decide)
theorem kT1715 (ok : Ok S h) (ha : sK S a = 14) : sK S (sT S 1715 a) = 40 := g_kT ok ha rfl (by decide)
theorem lT1715 (ok : Ok S h) (ha : sK S a = 14) : LN h (sT S 1715 a) = 2 := g_lT ok ha (by decide) rfl (by decide)
theorem gi1715 {i : Int} (ok : Ok S h) (ha : sK S a = 14) (hi : 0 ≤ i ∧ i < 2) : isIA (KD h (sT S 1715 a)) = true ∧ bnd i (LN h (sT S 1715 a)) := ⟨by rw [(g_ix ok ha (by decide) rfl hi).1]; rfl, (g_ix ok ha (by decide) rfl hi).2⟩
theorem ra1715 (ok : Ok S h) (ha : sK S a = 14) (j : Nat) : 0 ≤ AI h (sT S 1715 a) j ∧ AI h (sT S 1715 a) j ≤ 2 := g_ra ok ha (by decide) rfl rfl j
theorem fr1716 (ok : Ok S h) (ha : sK S a = 14) : FR h 1716 a = some (sT S 1716 a) := g_fr ok ha (by decide) (by decide)
theorem kT1716 (ok : Ok S h) (ha : sK S a = 14) : sK S (sT S 1716 a) = 62 := g_kT ok ha rfl (by decide)
theorem lT1716 (ok : Ok S h) (ha : sK S a = 14) : LN h (sT S 1716 a) = 2 := g_lT ok ha (by decide) rfl (by decide)
theorem gi1716 {i : Int} (ok : Ok S h) (ha : sK S a = 14) (hi : 0 ≤ i ∧ i < 2) : isRA (KD h (sT S 1716 a)) = true ∧ bnd i (LN h (sT S 1716 a)) := ⟨by rw [(g_ix ok ha (by decide) rfl hi).1]; rfl, (g_ix ok ha (by decide) rfl hi).2⟩
theorem er1716 (ok : Ok S h) (ha : sK S a = 14) (hj : j < 2) : AR h (sT S 1716 a) j = some (sE S (sT S 1716 a) j) := g_er ok ha (by decide) rfl rfl hj
theorem kE1716 (ok : Ok S h) (ha : sK S a = 14) (hj : j < 2) : sK S (sE S (sT S 1716 a) j) = 13 := g_kE ok ha (by decide) rfl rfl hj (by decide)
theorem fr1717 (ok : Ok S h) (ha : sK S a = 14) : FR h 1717 a = some (sT S 1717 a) := g_fr ok ha (by decide) (by decide)
theorem kT1717 (ok : Ok S h) (ha : sK S a = 14) : sK S (sT S 1717 a) = 44 := g_kT ok ha rfl (by decide)
theorem lT1717 (ok : Ok S h) (ha : sK S a = 14) : LN h (sT S 1717 a) = 2 := g_lT ok ha (by decide) rfl (by decide)
theorem gi1717 {i : Int} (ok : Ok S h) (ha : sK S a = 14) (hi : 0 ≤ i ∧ i < 2) : KD h (sT S 1717 a) = 44 ∧ bnd i (LN h (sT S 1717 a)) := g_ix ok ha (by decide) rfl hi
theorem fr1718 (ok : Ok S h) (ha : sK S a = 14) : FR h 1718 a = some (sT S 1718 a) := g_fr ok ha (by decide) (by decide)
theorem kT1718 (ok : Ok S h) (ha : sK S a = 14) : sK S (sT S 1718 a) = 44 := g_kT ok ha rfl (by decide)
theorem lT1718 (ok : Ok S h) (ha : sK S a = 14) : LN h (sT S 1718 a) = 14 := g_lT ok ha (by decide) rfl (by decide)
theorem gi1718 {i : Int} (ok : Ok S h) (ha : sK S a = 14) (hi : 0 ≤ i ∧ i < 14) : KD h (sT S 1718 a) = 44 ∧ bnd i (LN h (sT S 1718 a)) := g_ix ok ha (by decide) rfl hi
theorem fr1719 (ok : Ok S h) (ha : sK S a = 14) : FR h 1719 a = some (sT S 1719 a) := g_fr ok ha (by decide) (by decide)
theorem kT1719 (ok : Ok S h) (ha : sK S a = 14) : sK S (sT S 1719 a) = 40 := g_kT ok ha rfl (by decide)
theorem lT1719 (ok : Ok S h) (ha : sK S a = 14) : LN h (sT S 1719 a) = 2 := g_lT ok ha (by decide) rfl (by decide)
theorem gi1719 {i : Int} (ok : Ok S h) (ha : sK S a = 14) (hi : 0 ≤ i ∧ i < 2) : isIA (KD h (sT S 1719 a)) = true ∧ bnd i (LN h (sT S 1719 a)) := ⟨by rw [(g_ix ok ha (by decide) rfl hi).1]; rfl, (g_ix ok ha (by decide) rfl hi).2⟩
theorem ra1719 (ok : Ok S h) (ha : sK S a = 14) (j : Nat) : 0 ≤ AI h (sT S 1719 a) j ∧ AI h (sT S 1719 a) j ≤ 7 := g_ra ok ha (by decide) rfl rfl j
theorem rg1720 (ok : Ok S h) (ha : sK S a = 14) : 0 ≤ FI h 1720 a ∧ FI h 1720 a ≤ 20 := g_rg ok ha (by decide) rfl rfl
theorem fr1721 (ok : Ok S h) (ha : sK S a = 14) : FR h 1721 a = some (sT S 1721 a) := g_fr ok ha (by decide) (by decide)
theorem kT1721 (ok : Ok S h) (ha : sK S a = 14) : sK S (sT S 1721 a) = 40 := g_kT ok ha rfl (by decide)
theorem lT1721 (ok : Ok S h) (ha : sK S a = 14) : LN h (sT S 1721 a) = 20 := g_lT ok ha (by decide) rfl (by decide)
theorem gi1721 {i : Int} (ok : Ok S h) (ha : sK S a = 14) (hi : 0 ≤ i ∧ i < 20) : isIA (KD h (sT S 1721 a)) = true ∧ bnd i (LN h (sT S 1721 a)) := ⟨by rw [(g_ix ok ha (by decide) rfl hi).1]; rfl, (g_ix ok ha (by decide) rfl hi).2⟩
theorem ra1721 (ok : Ok S h) (ha : sK S a = 14) (j : Nat) : (-1) ≤ AI h (sT S 1721 a) j ∧ AI h (sT S 1721 a) j ≤ 4 := g_ra ok ha (by decide) rfl rfl j
theorem fr1722 (ok : Ok S h) (ha : sK S a = 14) : FR h 1722 a = some (sT S 1722 a) := g_fr ok ha (by decide) (by decide)
theorem kT1722 (ok : Ok S h) (ha : sK S a = 14) : sK S (sT S 1722 a) = 40 := g_kT ok ha rfl (by decide)
theorem lT1722 (ok : Ok S h) (ha : sK S a = 14) : LN h (sT S 1722 a) = 20 := g_lT ok ha (by decide) rfl (by decide)
theorem gi1722 {i : Int} (ok : Ok S h) (ha : sK S a = 14) (hi : 0 ≤ i ∧ i < 20) : isIA (KD h (sT S 1722 a)) = true ∧ bnd i (LN h (sT S 1722 a)) := ⟨by rw [(g_ix ok ha (by decide) rfl hi).1]; rfl, (g_ix ok ha (by decide) rfl hi).2⟩
theorem ra1722 (ok : Ok S h) (ha : sK S a = 14) (j : Nat) : 0 ≤ AI h (sT S 1722 a) j ∧ AI h (sT S 1722 a) j ≤ 3 := g_ra ok ha (by decide) rfl rfl j
theorem fr1723 (ok : Ok S h) (ha : sK S a = 14) : FR h 1723 a = some (sT S 1723 a) := g_fr ok ha (by decide) (by decide)
theorem kT1723 (ok : Ok S h) (ha : sK S a = 14) : sK S (sT S 1723 a) = 40 := g_kT ok ha rfl (by decide)
theorem lT1723 (ok : Ok S h) (ha : sK S a = 14) : LN h (sT S 1723 a) = 20 := g_lT ok ha (by decide) rfl (by decide)
theorem gi1723 {i : Int} (ok : Ok S h) (ha : sK S a = 14) (hi : 0 ≤ i ∧ i < 20) : isIA (KD h (sT S 1723 a)) = true ∧ bnd i (LN h (sT S 1723 a)) := ⟨by rw [(g_ix ok ha (by decide) rfl hi).1]; rfl, (g_ix ok ha (by decide) rfl hi).2⟩
theorem ra1723 (ok : Ok S h) (ha : sK S a = 14) (j : Nat) : 0 ≤ AI h (sT S 1723 a) j ∧ AI h (sT S 1723 a) j ≤ 4 := g_ra ok ha (by decide) rfl rfl j
theorem fr1724 (ok : Ok S h) (ha : sK S a = 14) : FR h 1724 a = some (sT S 1724 a) := g_fr ok ha (by decide) (by decide)
theorem kT1724 (ok : Ok S h) (ha : sK S a = 14) : sK S (sT S 1724 a) = 40 := g_kT ok ha rfl (by decide)
theorem lT1724 (ok : Ok S h) (ha : sK S a = 14) : LN h (sT S 1724 a) = 20 := g_lT ok ha (by decide) rfl (by decide)
theorem gi1724 {i : Int} (ok : Ok S h) (ha : sK S a = 14) (hi : 0 ≤ i ∧ i < 20) : isIA (KD h (sT S 1724 a)) = true ∧ bnd i (LN h (sT S 1724 a)) := ⟨by rw [(g_ix ok ha (by decide) rfl hi).1]; rfl, (g_ix ok ha (by decide) rfl hi).2⟩
theorem ra1724 (ok : Ok S h) (ha : sK S a = 14) (j : Nat) : 0 ≤ AI h (sT S 1724 a) j ∧ AI h (sT S 1724 a) j ≤ 3 := g_ra ok ha (by decide) rfl rfl j
theorem fr1725 (ok : Ok S h) (ha : sK S a = 14) : FR h 1725 a = some (sT S 1725 a) := g_fr ok ha (by decide) (by decide)
theorem kT1725 (ok : Ok S h) (ha : sK S a = 14) : sK S (sT S 1725 a) = 40 := g_kT ok ha rfl (by decide)
theorem lT1725 (ok : Ok S h) (ha : sK S a = 14) : LN h (sT S 1725 a) = 20 := g_lT ok ha (by decide) rfl (by decide)
theorem gi1725 {i : Int} (ok : Ok S h) (ha : sK S a = 14) (hi : 0 ≤ i ∧ i < 20) : isIA (KD h (sT S 1725 a)) = true ∧ bnd i (LN h (sT S 1725 a)) := ⟨by rw [(g_ix ok ha (by decide) rfl hi).1]; rfl, (g_ix ok ha (by decide) rfl hi).2⟩
theorem ra1725 (ok : Ok S h) (ha : sK S a = 14) (j : Nat) : 0 ≤ AI h (sT S 1725 a) j ∧ AI h (sT S 1725 a) j ≤ 3 := g_ra ok ha (by decide) rfl rfl j
theorem fr1726 (ok : Ok S h) (ha : sK S a = 14) : FR h 1726 a = some (sT S 1726 a) := g_fr ok ha (by decide) (by decide)
theorem kT1726 (ok : Ok S h) (ha : sK S a = 14) : sK S (sT S 1726 a) = 40 := g_kT ok ha rfl (by decide)
theorem lT1726 (ok : Ok S h) (ha : sK S a = 14) : LN h (sT S 1726 a) = 5 := g_lT ok ha (by decide) rfl (by decide)
theorem gi1726 {i : Int} (ok : Ok S h) (ha : sK S a = 14) (hi : 0 ≤ i ∧ i < 5) : isIA (KD h (sT S 1726 a)) = true ∧ bnd i (LN h (sT S 1726 a)) := ⟨by rw [(g_ix ok ha (by decide) rfl hi).1]; rfl, (g_ix ok ha (by decide) rfl hi).2⟩
theorem ra1726 (ok : Ok S h) (ha : sK S a = 14) (j : Nat) : 0 ≤ AI h (sT S 1726 a) j ∧ AI h (sT S 1726 a) j ≤ 3 := g_ra ok ha (by decide) rfl rfl j
theorem fr1727 (ok : Ok S h) (ha : sK S a = 14) : FR h 1727 a = some (sT S 1727 a) := g_fr ok ha (by decide) (by decide)
theorem kT1727 (ok : Ok S h) (ha : sK S a = 14) : sK S (sT S 1727 a) = 42 := g_kT ok ha rfl (by decide)
theorem lT1727 (ok : Ok S h) (ha : sK S a = 14) : LN h (sT S 1727 a) = 5 := g_lT ok ha (by decide) rfl (by decide)
theorem gi1727 {i : Int} (ok : Ok S h) (ha : sK S a = 14) (hi : 0 ≤ i ∧ i < 5) : isBA (KD h (sT S 1727 a)) = true ∧ bnd i (LN h (sT S 1727 a)) := ⟨by rw [(g_ix ok ha (by decide) rfl hi).1]; rfl, (g_ix ok ha (by decide) rfl hi).2⟩
theorem ra1727 (ok : Ok S h) (ha : sK S a = 14) (j : Nat) : 0 ≤ AI h (sT S 1727 a) j ∧ AI h (sT S 1727 a) j ≤ 1 := g_ra ok ha (by decide) rfl rfl j
theorem fr1728 (ok : Ok S h) (ha : sK S a = 14) : FR h 1728 a = some (sT S 1728 a) := g_fr ok ha (by decide) (by decide)
theorem kT1728 (ok : Ok S h) (ha : sK S a = 14) : sK S (sT S 1728 a) = 40 := g_kT ok ha rfl (by decide)
theorem lT1728 (ok : Ok S h) (ha : sK S a = 14) : LN h (sT S 1728 a) = 4000 := g_lT ok ha (by decide) rfl (by decide)
theorem gi1728 {i : Int} (ok : Ok S h) (ha : sK S a = 14) (hi : 0 ≤ i ∧ i < 4000) : isIA (KD h (sT S 1728 a)) = true ∧ bnd i (LN h (sT S 1728 a)) := ⟨by rw [(g_ix ok ha (by decide) rfl hi).1]; rfl, (g_ix ok ha (by decide) rfl hi).2⟩
theorem ra1728 (ok : Ok S h) (ha : sK S a = 14) (j : Nat) : 0 ≤ AI h (sT S 1728 a) j ∧ AI h (sT S 1728 a) j ≤ 255 := g_ra ok ha (by decide) rfl rfl j
theorem rg1729 (ok : Ok S h) (ha : sK S a = 14) : 0 ≤ FI h 1729 a ∧ FI h 1729 a ≤ 4000 := g_rg ok ha (by decide) rfl rfl
theorem fr1730 (ok : Ok S h) (ha : sK S a = 14) : FR h 1730 a = some (sT S 1730 a) := g_fr ok ha (by decide) (by decide)
theorem kT1730 (ok : Ok S h) (ha : sK S a = 14) : sK S (sT S 1730 a) = 40 := g_kT ok ha rfl (by decide)
theorem lT1730 (ok : Ok S h) (ha : sK S a = 14) : LN h (sT S 1730 a) = 20020 := g_lT ok ha (by decide) rfl (by decide)
theorem gi1730 {i : Int} (ok : Ok S h) (ha : sK S a = 14) (hi : 0 ≤ i ∧ i < 20020) : isIA (KD h (sT S 1730 a)) = true ∧ bnd i (LN h (sT S 1730 a)) := ⟨by rw [(g_ix ok ha (by decide) rfl hi).1]; rfl, (g_ix ok ha (by decide) rfl hi).2⟩
theorem ra1730 (ok : Ok S h) (ha : sK S a = 14) (j : Nat) : 0 ≤ AI h (sT S 1730 a) j ∧ AI h (sT S 1730 a) j ≤ 255 := g_ra ok ha (by decide) rfl rfl j
theorem rg1731 (ok : Ok S h) (ha : sK S a = 14) : 0 ≤ FI h 1731 a ∧ FI h 1731 a ≤ 20009 := g_rg ok ha (by decide) rfl rfl
theorem fr1732 (ok : Ok S h) (ha : sK S a = 14) : FR h 1732 a = some (sT S 1732 a) := g_fr ok ha (by decide) (by decide)
theorem kT1732 (ok : Ok S h) (ha : sK S a = 14) : sK S (sT S 1732 a) = 40 := g_kT ok ha rfl (by decide)
theorem lT1732 (ok : Ok S h) (ha : sK S a = 14) : LN h (sT S 1732 a) = 20000 := g_lT ok ha (by decide) rfl (by decide)
theorem gi1732 {i : Int} (ok : Ok S h) (ha : sK S a = 14) (hi : 0 ≤ i ∧ i < 20000) : isIA (KD h (sT S 1732 a)) = true ∧ bnd i (LN h (sT S 1732 a)) := ⟨by rw [(g_ix ok ha (by decide) rfl hi).1]; rfl, (g_ix ok ha (by decide) rfl hi).2⟩
theorem ra1732 (ok : Ok S h) (ha : sK S a = 14) (j : Nat) : 0 ≤ AI h (sT S 1732 a) j ∧ AI h (sT S 1732 a) j ≤ 255 := g_ra ok ha (by decide) rfl rfl j
theorem rg1733 (ok : Ok S h) (ha : sK S a = 14) : 0 ≤ FI h 1733 a ∧ FI h 1733 a ≤ 20000 := g_rg ok ha (by decide) rfl rfl
theorem fr1734 (ok : Ok S h) (ha : sK S a = 14) : FR h 1734 a = some (sT S 1734 a) := g_fr ok ha (by decide) (by decide)
theorem kT1734 (ok : Ok S h) (ha : sK S a = 14) : sK S (sT S 1734 a) = 40 := g_kT ok ha rfl (by decide)
theorem lT1734 (ok : Ok S h) (ha : sK S a = 14) : LN h (sT S 1734 a) = 2048 := g_lT ok ha (by decide) rfl (by decide)
theorem gi1734 {i : Int} (ok : Ok S h) (ha : sK S a = 14) (hi : 0 ≤ i ∧ i < 2048) : isIA (KD h (sT S 1734 a)) = true ∧ bnd i (LN h (sT S 1734 a)) := ⟨by rw [(g_ix ok ha (by decide) rfl hi).1]; rfl, (g_ix ok ha (by decide) rfl hi).2⟩
theorem ra1734 (ok : Ok S h) (ha : sK S a = 14) (j : Nat) : 0 ≤ AI h (sT S 1734 a) j ∧ AI h (sT S 1734 a) j ≤ 255 := g_ra ok ha (by decide) rfl rfl j
theorem rg1735 (ok : Ok S h) (ha : sK S a = 14) : 0 ≤ FI h 1735 a ∧ FI h 1735 a ≤ 2048 := g_rg ok ha (by decide) rfl rfl
theorem rg1736 (ok : Ok S h) (ha : sK S a = 14) : 0 ≤ FI h 1736 a ∧ FI h 1736 a ≤ 1 := g_rg ok ha (by decide) rfl rfl
theorem rg1737 (ok : Ok S h) (ha : sK S a = 14) : (-1) ≤ FI h 1737 a ∧ FI h 1737 a ≤ 2048 := g_rg ok ha (by decide) rfl rfl
theorem rg1738 (ok : Ok S h) (ha : sK S a = 14) : (-1) ≤ FI h 1738 a ∧ FI h 1738 a ≤ 20020 := g_rg ok ha (by decide) rfl rfl
theorem rg1739 (ok : Ok S h) (ha : sK S a = 14) : (-1) ≤ FI h 1739 a ∧ FI h 1739 a ≤ 34 := g_rg ok ha (by decide) rfl rfl
theorem rg1740 (ok : Ok S h) (ha : sK S a = 14) : 0 ≤ FI h 1740 a ∧ FI h 1740 a ≤ 20020 := g_rg ok ha (by decide) rfl rfl
theorem fr1741 (ok : Ok S h) (ha : sK S a = 14) : FR h 1741 a = some (sT S 1741 a) := g_fr ok ha (by decide) (by decide)
theorem kT1741 (ok : Ok S h) (ha : sK S a = 14) : sK S (sT S 1741 a) = 40 := g_kT ok ha rfl (by decide)
theorem lT1741 (ok : Ok S h) (ha : sK S a = 14) : LN h (sT S 1741 a) = 5 := g_lT ok ha (by decide) rfl (by decide)
theorem gi1741 {i : Int} (ok : Ok S h) (ha : sK S a = 14) (hi : 0 ≤ i ∧ i < 5) : isIA (KD h (sT S 1741 a)) = true ∧ bnd i (LN h (sT S 1741 a)) := ⟨by rw [(g_ix ok ha (by decide) rfl hi).1]; rfl, (g_ix ok ha (by decide) rfl hi).2⟩
theorem ra1741 (ok : Ok S h) (ha : sK S a = 14) (j : Nat) : 0 ≤ AI h (sT S 1741 a) j ∧ AI h (sT S 1741 a) j ≤ 9999 := g_ra ok ha (by decide) rfl rfl j
theorem rg1742 (ok : Ok S h) (ha : sK S a = 14) : 0 ≤ FI h 1742 a ∧ FI h 1742 a ≤ 20020 := g_rg ok ha (by decide) rfl rfl
theorem rg1743 (ok : Ok S h) (ha : sK S a = 14) : 0 ≤ FI h 1743 a ∧ FI h 1743 a ≤ 20020 := g_rg ok ha (by decide) rfl rfl
theorem rg1744 (ok : Ok S h) (ha : sK S a = 14) : 0 ≤ FI h 1744 a ∧ FI h 1744 a ≤ 20020 := g_rg ok ha (by decide) rfl rfl
theorem rg1745 (ok : Ok S h) (ha : sK S a = 14) : 0 ≤ FI h 1745 a ∧ FI h 1745 a ≤ 20020 := g_rg ok ha (by decide) rfl rfl
theorem rg1746 (ok : Ok S h) (ha : sK S a = 14) : 0 ≤ FI h 1746 a ∧ FI h 1746 a ≤ 20020 := g_rg ok ha (by decide) rfl rfl
theorem rg1747 (ok : Ok S h) (ha : sK S a = 14) : 0 ≤ FI h 1747 a ∧ FI h 1747 a ≤ 20020 := g_rg ok ha (by decide) rfl rfl
theorem rg1748 (ok : Ok S h) (ha : sK S a = 14) : 0 ≤ FI h 1748 a ∧ FI h 1748 a ≤ 20020 := g_rg ok ha (by decide) rfl rfl
theorem rg1749 (ok : Ok S h) (ha : sK S a = 14) : 0 ≤ FI h 1749 a ∧ FI h 1749 a ≤ 20020 := g_rg ok ha (by decide) rfl rfl
theorem rg1750 (ok : Ok S h) (ha : sK S a = 14) : 0 ≤ FI h 1750 a ∧ FI h 1750 a ≤ 20020 := g_rg ok ha (by decide) rfl rfl
theorem rg1751 (ok : Ok S h) (ha : sK S a = 14) : 0 ≤ FI h 1751 a ∧ FI h 1751 a ≤ 20020 := g_rg ok ha (by decide) rfl rfl
theorem rg1752 (ok : Ok S h) (ha : sK S a = 14) : 0 ≤ FI h 1752 a ∧ FI h 1752 a ≤ 6 := g_rg ok ha (by decide) rfl rfl
theorem fr1753 (ok : Ok S h) (ha : sK S a = 14) : FR h 1753 a = some (sT S 1753 a) := g_fr ok ha (by decide) (by decide)
theorem kT1753 (ok : Ok S h) (ha : sK S a = 14) : sK S (sT S 1753 a) = 42 := g_kT ok ha rfl (by decide)
theorem lT1753 (ok : Ok S h) (ha : sK S a = 14) : LN h (sT S 1753 a) = 6 := g_lT ok ha (by decide) rfl (by decide)
theorem gi1753 {i : Int} (ok : Ok S h) (ha : sK S a = 14) (hi : 0 ≤ i ∧ i < 6) : isBA (KD h (sT S 1753 a)) = true ∧ bnd i (LN h (sT S 1753 a)) := ⟨by rw [(g_ix ok ha (by decide) rfl hi).1]; rfl, (g_ix ok ha (by decide) rfl hi).2⟩
theorem ra1753 (ok : Ok S h) (ha : sK S a = 14) (j : Nat) : 0 ≤ AI h (sT S 1753 a) j ∧ AI h (sT S 1753 a) j ≤ 1 := g_ra ok ha (by decide) rfl rfl j
theorem fr1754 (ok : Ok S h) (ha : sK S a = 14) : FR h 1754 a = some (sT S 1754 a) := g_fr ok ha (by decide) (by decide)
theorem kT1754 (ok : Ok S h) (ha : sK S a = 14) : sK S (sT S 1754 a) = 40 := g_kT ok ha rfl (by decide)
theorem lT1754 (ok : Ok S h) (ha : sK S a = 14) : LN h (sT S 1754 a) = 6 := g_lT ok ha (by decide) rfl (by decide)
theorem gi1754 {i : Int} (ok : Ok S h) (ha : sK S a = 14) (hi : 0 ≤ i ∧ i < 6) : isIA (KD h (sT S 1754 a)) = true ∧ bnd i (LN h (sT S 1754 a)) := ⟨by rw [(g_ix ok ha (by decide) rfl hi).1]; rfl, (g_ix ok ha (by decide) rfl hi).2⟩
theorem ra1754 (ok : Ok S h) (ha : sK S a = 14) (j : Nat) : 0 ≤ AI h (sT S 1754 a) j ∧ AI h (sT S 1754 a) j ≤ 20020 := g_ra ok ha (by decide) rfl rfl j
theorem fr1755 (ok : Ok S h) (ha : sK S a = 14) : FR h 1755 a = some (sT S 1755 a) := g_fr ok ha (by decide) (by decide)
theorem kT1755 (ok : Ok S h) (ha : sK S a = 14) : sK S (sT S 1755 a) = 40 := g_kT ok ha rfl (by decide)
theorem lT1755 (ok : Ok S h) (ha : sK S a = 14) : LN h (sT S 1755 a) = 6 := g_lT ok ha (by decide) rfl (by decide)
theorem gi1755 {i : Int} (ok : Ok S h) (ha : sK S a = 14) (hi : 0 ≤ i ∧ i < 6) : isIA (KD h (sT S 1755 a)) = true ∧ bnd i (LN h (sT S 1755 a)) := ⟨by rw [(g_ix ok ha (by decide) rfl hi).1]; rfl, (g_ix ok ha (by decide) rfl hi).2⟩
theorem ra1755 (ok : Ok S h) (ha : sK S a = 14) (j : Nat) : 0 ≤ AI h (sT S 1755 a) j ∧ AI h (sT S 1755 a) j ≤ 20020 := g_ra ok ha (by decide) rfl rfl j
theorem rg1756 (ok : Ok S h) (ha : sK S a = 14) : 0 ≤ FI h 1756 a ∧ FI h 1756 a ≤ 1 := g_rg ok ha (by decide) rfl rfl
theorem rg1757 (ok : Ok S h) (ha : sK S a = 14) : 0 ≤ FI h 1757 a ∧ FI h 1757 a ≤ 20020 := g_rg ok ha (by decide) rfl rfl
theorem rg1758 (ok : Ok S h) (ha : sK S a = 14) : 0 ≤ FI h 1758 a ∧ FI h 1758 a ≤ 20020 := g_rg ok ha (by decide) rfl rfl
theorem fr1759 (ok : Ok S h) (ha : sK S a = 14) : FR h 1759 a = some (sT S 1759 a) := g_fr ok ha (by decide) (by decide)
theorem kT1759 (ok : Ok S h) (ha : sK S a = 14) : sK S (sT S 1759 a) = 40 := g_kT ok ha rfl (by decide)
theorem lT1759 (ok : Ok S h) (ha : sK S a = 14) : LN h (sT S 1759 a) = 20000 := g_lT ok ha (by decide) rfl (by decide)
theorem gi1759 {i : Int} (ok : Ok S h) (ha : sK S a = 14) (hi : 0 ≤ i ∧ i < 20000) : isIA (KD h (sT S 1759 a)) = true ∧ bnd i (LN h (sT S 1759 a)) := ⟨by rw [(g_ix ok ha (by decide) rfl hi).1]; rfl, (g_ix ok ha (by decide) rfl hi).2⟩
theorem ra1759 (ok : Ok S h) (ha : sK S a = 14) (j : Nat) : 0 ≤ AI h (sT S 1759 a) j ∧ AI h (sT S 1759 a) j ≤ 3 := g_ra ok ha (by decide) rfl rfl j
theorem rg1760 (ok : Ok S h) (ha : sK S a = 14) : 0 ≤ FI h 1760 a ∧ FI h 1760 a ≤ 20000 := g_rg ok ha (by decide) rfl rfl
theorem rg1761 (ok : Ok S h) (ha : sK S a = 14) : 0 ≤ FI h 1761 a ∧ FI h 1761 a ≤ 20020 := g_rg ok ha (by decide) rfl rfl
theorem fr1762 (ok : Ok S h) (ha : sK S a = 14) : FR h 1762 a = some (sT S 1762 a) := g_fr ok ha (by decide) (by decide)
theorem kT1762 (ok : Ok S h) (ha : sK S a = 14) : sK S (sT S 1762 a) = 40 := g_kT ok ha rfl (by decide)
theorem lT1762 (ok : Ok S h) (ha : sK S a = 14) : LN h (sT S 1762 a) = 20000 := g_lT ok ha (by decide) rfl (by decide)
theorem gi1762 {i : Int} (ok : Ok S h) (ha : sK S a = 14) (hi : 0 ≤ i ∧ i < 20000) : isIA (KD h (sT S 1762 a)) = true ∧ bnd i (LN h (sT S 1762 a)) := ⟨by rw [(g_ix ok ha (by decide) rfl hi).1]; rfl, (g_ix ok ha (by decide) rfl hi).2⟩
theorem ra1762 (ok : Ok S h) (ha : sK S a = 14) (j : Nat) : 0 ≤ AI h (sT S 1762 a) j ∧ AI h (sT S 1762 a) j ≤ 4 := g_ra ok ha (by decide) rfl rfl j
theorem fr1763 (ok : Ok S h) (ha : sK S a = 14) : FR h 1763 a = some (sT S 1763 a) := g_fr ok ha (by decide) (by decide)
theorem kT1763 (ok : Ok S h) (ha : sK S a = 14) : sK S (sT S 1763 a) = 40 := g_kT ok ha rfl (by decide)
theorem lT1763 (ok : Ok S h) (ha : sK S a = 14) : LN h (sT S 1763 a) = 20000 := g_lT ok ha (by decide) rfl (by decide)
theorem gi1763 {i : Int} (ok : Ok S h) (ha : sK S a = 14) (hi : 0 ≤ i ∧ i < 20000) : isIA (KD h (sT S 1763 a)) = true ∧ bnd i (LN h (sT S 1763 a)) := ⟨by rw [(g_ix ok ha (by decide) rfl hi).1]; rfl, (g_ix ok ha (by decide) rfl hi).2⟩
theorem ra1763 (ok : Ok S h) (ha : sK S a = 14) (j : Nat) : 0 ≤ AI h (sT S 1763 a) j ∧ AI h (sT S 1763 a) j ≤ 3 := g_ra ok ha (by decide) rfl rfl j
variable {G : Nat → Option Nat} {d k pc pc' : Nat} {ls : List (Option MV)} {st : List MV} {Q : Option MV → Hp → Prop}
theorem wl0 (hd : dc k pc = some (.arraylength, pc')) (ok : Ok S h) (ha : sK S a = 1) (kk : Wp G d k pc' ls (vI 2048 :: st) h Q) : Wp G d k pc ls (vR (some (sT S 0 a)) :: st) h Q := p_len hd ok ha (by decide) rfl (by decide) kk
theorem wf1 {x : Int} (hd : dc k pc = some (.putfield 1, pc')) (ok : Ok S h) (ha : sK S a = 1) (hr : 0 ≤ x ∧ x ≤ 2048) (kk : ∀ h', h' = sFI h 1 a x → Mo S (fun y => y = a) h h' → Wp G d k pc' ls st h' Q) : Wp G d k pc ls (vI x :: vR (some a) :: st) h Q := p_FI (Or.inl hd) ok ha (by decide) hr kk
theorem wf2 {x : Int} (hd : dc k pc = some (.putfield 2, pc')) (ok : Ok S h) (ha : sK S a = 1) (hr : (-1) ≤ x ∧ x ≤ 2048) (kk : ∀ h', h' = sFI h 2 a x → Mo S (fun y => y = a) h h' → Wp G d k pc' ls st h' Q) : Wp G d k pc ls (vI x :: vR (some a) :: st) h Q := p_FI (Or.inl hd) ok ha (by decide) hr kk
theorem wf3 {x : Int} (hd : dc k pc = some (.putstatic 3, pc')) (ok : Ok S h) (ha : sK S a = 1) (hr : x = 0 ∨ x = 1) (kk : ∀ h', h' = sFI h 3 a x → Mo S (fun y => y = a) h h' → Wp G d k pc' ls st h' Q) : Wp G d k pc ls (vI x :: vR (some a) :: st) h Q := p_FI (Or.inr ⟨hd, hr⟩) ok ha (by decide) (show (0 : Int) ≤ x ∧ x ≤ (1 : Int) by omega) kk
theorem wf128 {x : Int} (hd : dc k pc = some (.putstatic 128, pc')) (ok : Ok S h) (ha : sK S a = 2) (hr : x = 0 ∨ x = 1) (kk : ∀ h', h' = sFI h 128 a x → Mo S (fun y => y = a) h h' → Wp G d k pc' ls st h' Q) : Wp G d k pc ls (vI x :: vR (some a) :: st) h Q := p_FI (Or.inr ⟨hd, hr⟩) ok ha (by decide) (show (0 : Int) ≤ x ∧ x ≤ (1 : Int) by omega) kk
theorem wf129 {x : Int64} (hd : dc k pc = some (.fstore 129, pc')) (ok : Ok S h) (ha : sK S a = 2) (kk : ∀ h', h' = sFL h 129 a x → Mo S (fun y => y = a) h h' → Wp G d k pc' ls st h' Q) : Wp G d k pc ls (vJ x :: vR (some a) :: st) h Q := p_FL hd ok ha (by decide) kk
theorem wf130 {x : Int64} (hd : dc k pc = some (.fstore 130, pc')) (ok : Ok S h) (ha : sK S a = 2) (kk : ∀ h', h' = sFL h 130 a x → Mo S (fun y => y = a) h h' → Wp G d k pc' ls st h' Q) : Wp G d k pc ls (vJ x :: vR (some a) :: st) h Q := p_FL hd ok ha (by decide) kk
theorem wf131 {x : Int} (hd : dc k pc = some (.putfield 131, pc')) (ok : Ok S h) (ha : sK S a = 2) (hr : (-1) ≤ x ∧ x ≤ 7) (kk : ∀ h', h' = sFI h 131 a x → Mo S (fun y => y = a) h h' → Wp G d k pc' ls st h' Q) : Wp G d k pc ls (vI x :: vR (some a) :: st) h Q := p_FI (Or.inl hd) ok ha (by decide) hr kk
theorem wf132 {x : Int64} (hd : dc k pc = some (.fstore 132, pc')) (ok : Ok S h) (ha : sK S a = 2) (kk : ∀ h', h' = sFL h 132 a x → Mo S (fun y => y = a) h h' → Wp G d k pc' ls st h' Q) : Wp G d k pc ls (vJ x :: vR (some a) :: st) h Q := p_FL hd ok ha (by decide) kk
theorem wf133 {x : Int} (hd : dc k pc = some (.putfield 133, pc')) (ok : Ok S h) (ha : sK S a = 2) (hr : 0 ≤ x ∧ x ≤ 6) (kk : ∀ h', h' = sFI h 133 a x → Mo S (fun y => y = a) h h' → Wp G d k pc' ls st h' Q) : Wp G d k pc ls (vI x :: vR (some a) :: st) h Q := p_FI (Or.inl hd) ok ha (by decide) hr kk
theorem wa134 {x i : Int} (hd : dc k pc = some (.bastore, pc')) (ok : Ok S h) (ha : sK S a = 2) (hi : 0 ≤ i ∧ i < 6) (hr : x = 0 ∨ x = 1) (kk : ∀ h', h' = sAI h (sT S 134 a) i.toNat x → Mo S (fun y => y = sT S 134 a) h h' → Wp G d k pc' ls st h' Q) : Wp G d k pc ls (vI x :: vI i :: vR (some (sT S 134 a)) :: st) h Q := p_AZ hd ok ha rfl rfl ⟨rfl, rfl⟩ hi hr kk
theorem wl134 (hd : dc k pc = some (.arraylength, pc')) (ok : Ok S h) (ha : sK S a = 2) (kk : Wp G d k pc' ls (vI 6 :: st) h Q) : Wp G d k pc ls (vR (some (sT S 134 a)) :: st) h Q := p_len hd ok ha (by decide) rfl (by decide) kk
theorem wa135 {x : Int64} {i : Int} (hd : dc k pc = some (.lastore, pc')) (ok : Ok S h) (ha : sK S a = 2) (hi : 0 ≤ i ∧ i < 6) (kk : ∀ h', h' = sAL h (sT S 135 a) i.toNat x → Mo S (fun y => y = sT S 135 a) h h' → Wp G d k pc' ls st h' Q) : Wp G d k pc ls (vJ x :: vI i :: vR (some (sT S 135 a)) :: st) h Q := p_AL hd ok ha rfl rfl hi kk
theorem wl135 (hd : dc k pc = some (.arraylength, pc')) (ok : Ok S h) (ha : sK S a = 2) (kk : Wp G d k pc' ls (vI 6 :: st) h Q) : Wp G d k pc ls (vR (some (sT S 135 a)) :: st) h Q := p_len hd ok ha (by decide) rfl (by decide) kk
theorem wa136 {x : Int64} {i : Int} (hd : dc k pc = some (.lastore, pc')) (ok : Ok S h) (ha : sK S a = 2) (hi : 0 ≤ i ∧ i < 6) (kk : ∀ h', h' = sAL h (sT S 136 a) i.toNat x → Mo S (fun y => y = sT S 136 a) h h' → Wp G d k pc' ls st h' Q) : Wp G d k pc ls (vJ x :: vI i :: vR (some (sT S 136 a)) :: st) h Q := p_AL hd ok ha rfl rfl hi kk
theorem wl136 (hd : dc k pc = some (.arraylength, pc')) (ok : Ok S h) (ha : sK S a = 2) (kk : Wp G d k pc' ls (vI 6 :: st) h Q) : Wp G d k pc ls (vR (some (sT S 136 a)) :: st) h Q := p_len hd ok ha (by decide) rfl (by decide) kk
theorem wf137 {x : Int64} (hd : dc k pc = some (.fstore 137, pc')) (ok : Ok S h) (ha : sK S a = 2) (kk : ∀ h', h' = sFL h 137 a x → Mo S (fun y => y = a) h h' → Wp G d k pc' ls st h' Q) : Wp G d k pc ls (vJ x :: vR (some a) :: st) h Q := p_FL hd ok ha (by decide) kk
theorem wf138 {x : Int} (hd : dc k pc = some (.putfield 138, pc')) (ok : Ok S h) (ha : sK S a = 2) (hr : 0 ≤ x ∧ x ≤ 9999) (kk : ∀ h', h' = sFI h 138 a x → Mo S (fun y => y = a) h h' → Wp G d k pc' ls st h' Q) : Wp G d k pc ls (vI x :: vR (some a) :: st) h Q := p_FI (Or.inl hd) ok ha (by decide) hr kk
theorem wf256 {x : Int} (hd : dc k pc = some (.putstatic 256, pc')) (ok : Ok S h) (ha : sK S a = 3) (hr : x = 0 ∨ x = 1) (kk : ∀ h', h' = sFI h 256 a x → Mo S (fun y => y = a) h h' → Wp G d k pc' ls st h' Q) : Wp G d k pc ls (vI x :: vR (some a) :: st) h Q := p_FI (Or.inr ⟨hd, hr⟩) ok ha (by decide) (show (0 : Int) ≤ x ∧ x ≤ (1 : Int) by omega) kk
theorem wa260 {x : Int64} {i : Int} (hd : dc k pc = some (.lastore, pc')) (ok : Ok S h) (ha : sK S a = 3) (hi : 0 ≤ i ∧ i < 7) (kk : ∀ h', h' = sAL h (sT S 260 a) i.toNat x → Mo S (fun y => y = sT S 260 a) h h' → Wp G d k pc' ls st h' Q) : Wp G d k pc ls (vJ x :: vI i :: vR (some (sT S 260 a)) :: st) h Q := p_AL hd ok ha rfl rfl hi kk
theorem wl260 (hd : dc k pc = some (.arraylength, pc')) (ok : Ok S h) (ha : sK S a = 3) (kk : Wp G d k pc' ls (vI 7 :: st) h Q) : Wp G d k pc ls (vR (some (sT S 260 a)) :: st) h Q := p_len hd ok ha (by decide) rfl (by decide) kk
theorem wf261 {x : Int} (hd : dc k pc = some (.putfield 261, pc')) (ok : Ok S h) (ha : sK S a = 3) (hr : 0 ≤ x ∧ x ≤ 7) (kk : ∀ h', h' = sFI h 261 a x → Mo S (fun y => y = a) h h' → Wp G d k pc' ls st h' Q) : Wp G d k pc ls (vI x :: vR (some a) :: st) h Q := p_FI (Or.inl hd) ok ha (by decide) hr kk
theorem wf262 {x : Int64} (hd : dc k pc = some (.fstore 262, pc')) (ok : Ok S h) (ha : sK S a = 3) (kk : ∀ h', h' = sFL h 262 a x → Mo S (fun y => y = a) h h' → Wp G d k pc' ls st h' Q) : Wp G d k pc ls (vJ x :: vR (some a) :: st) h Q := p_FL hd ok ha (by decide) kk
theorem wf384 {x : Int} (hd : dc k pc = some (.putfield 384, pc')) (ok : Ok S h) (ha : sK S a = 4) (hr : 0 ≤ x ∧ x ≤ 16) (kk : ∀ h', h' = sFI h 384 a x → Mo S (fun y => y = a) h h' → Wp G d k pc' ls st h' Q) : Wp G d k pc ls (vI x :: vR (some a) :: st) h Q := p_FI (Or.inl hd) ok ha (by decide) hr kk
theorem wa385 {x : Int64} {i : Int} (hd : dc k pc = some (.lastore, pc')) (ok : Ok S h) (ha : sK S a = 4) (hi : 0 ≤ i ∧ i < 16) (kk : ∀ h', h' = sAL h (sT S 385 a) i.toNat x → Mo S (fun y => y = sT S 385 a) h h' → Wp G d k pc' ls st h' Q) : Wp G d k pc ls (vJ x :: vI i :: vR (some (sT S 385 a)) :: st) h Q := p_AL hd ok ha rfl rfl hi kk
theorem wl385 (hd : dc k pc = some (.arraylength, pc')) (ok : Ok S h) (ha : sK S a = 4) (kk : Wp G d k pc' ls (vI 16 :: st) h Q) : Wp G d k pc ls (vR (some (sT S 385 a)) :: st) h Q := p_len hd ok ha (by decide) rfl (by decide) kk
theorem wa386 {x : Int64} {i : Int} (hd : dc k pc = some (.lastore, pc')) (ok : Ok S h) (ha : sK S a = 4) (hi : 0 ≤ i ∧ i < 16) (kk : ∀ h', h' = sAL h (sT S 386 a) i.toNat x → Mo S (fun y => y = sT S 386 a) h h' → Wp G d k pc' ls st h' Q) : Wp G d k pc ls (vJ x :: vI i :: vR (some (sT S 386 a)) :: st) h Q := p_AL hd ok ha rfl rfl hi kk
theorem wl386 (hd : dc k pc = some (.arraylength, pc')) (ok : Ok S h) (ha : sK S a = 4) (kk : Wp G d k pc' ls (vI 16 :: st) h Q) : Wp G d k pc ls (vR (some (sT S 386 a)) :: st) h Q := p_len hd ok ha (by decide) rfl (by decide) kk
theorem wl387 (hd : dc k pc = some (.arraylength, pc')) (ok : Ok S h) (ha : sK S a = 4) (kk : Wp G d k pc' ls (vI 16 :: st) h Q) : Wp G d k pc ls (vR (some (sT S 387 a)) :: st) h Q := p_len hd ok ha (by decide) rfl (by decide) kk
theorem wf388 {x : Int} (hd : dc k pc = some (.putfield 388, pc')) (ok : Ok S h) (ha : sK S a = 4) (hr : 0 ≤ x ∧ x ≤ 6) (kk : ∀ h', h' = sFI h 388 a x → Mo S (fun y => y = a) h h' → Wp G d k pc' ls st h' Q) : Wp G d k pc ls (vI x :: vR (some a) :: st) h Q := p_FI (Or.inl hd) ok ha (by decide) hr kk
theorem wa389 {x : Int64} {i : Int} (hd : dc k pc = some (.lastore, pc')) (ok : Ok S h) (ha : sK S a = 4) (hi : 0 ≤ i ∧ i < 6) (kk : ∀ h', h' = sAL h (sT S 389 a) i.toNat x → Mo S (fun y => y = sT S 389 a) h h' → Wp G d k pc' ls st h' Q) : Wp G d k pc ls (vJ x :: vI i :: vR (some (sT S 389 a)) :: st) h Q := p_AL hd ok ha rfl rfl hi kk
theorem wl389 (hd : dc k pc = some (.arraylength, pc')) (ok : Ok S h) (ha : sK S a = 4) (kk : Wp G d k pc' ls (vI 6 :: st) h Q) : Wp G d k pc ls (vR (some (sT S 389 a)) :: st) h Q := p_len hd ok ha (by decide) rfl (by decide) kk
theorem wa390 {x i : Int} (hd : dc k pc = some (.iastore, pc')) (ok : Ok S h) (ha : sK S a = 4) (hi : 0 ≤ i ∧ i < 6) (hr : 0 ≤ x ∧ x ≤ 9999) (kk : ∀ h', h' = sAI h (sT S 390 a) i.toNat x → Mo S (fun y => y = sT S 390 a) h h' → Wp G d k pc' ls st h' Q) : Wp G d k pc ls (vI x :: vI i :: vR (some (sT S 390 a)) :: st) h Q := p_AI hd ok ha rfl rfl hi hr kk
theorem wl390 (hd : dc k pc = some (.arraylength, pc')) (ok : Ok S h) (ha : sK S a = 4) (kk : Wp G d k pc' ls (vI 6 :: st) h Q) : Wp G d k pc ls (vR (some (sT S 390 a)) :: st) h Q := p_len hd ok ha (by decide) rfl (by decide) kk
theorem wf391 {x : Int} (hd : dc k pc = some (.putfield 391, pc')) (ok : Ok S h) (ha : sK S a = 4) (hr : 0 ≤ x ∧ x ≤ 14) (kk : ∀ h', h' = sFI h 391 a x → Mo S (fun y => y = a) h h' → Wp G d k pc' ls st h' Q) : Wp G d k pc ls (vI x :: vR (some a) :: st) h Q := p_FI (Or.inl hd) ok ha (by decide) hr kk
theorem wl392 (hd : dc k pc = some (.arraylength, pc')) (ok : Ok S h) (ha : sK S a = 4) (kk : Wp G d k pc' ls (vI 14 :: st) h Q) : Wp G d k pc ls (vR (some (sT S 392 a)) :: st) h Q := p_len hd ok ha (by decide) rfl (by decide) kk
theorem wa393 {x i : Int} (hd : dc k pc = some (.iastore, pc')) (ok : Ok S h) (ha : sK S a = 4) (hi : 0 ≤ i ∧ i < 14) (hr : 0 ≤ x ∧ x ≤ 15) (kk : ∀ h', h' = sAI h (sT S 393 a) i.toNat x → Mo S (fun y => y = sT S 393 a) h h' → Wp G d k pc' ls st h' Q) : Wp G d k pc ls (vI x :: vI i :: vR (some (sT S 393 a)) :: st) h Q := p_AI hd ok ha rfl rfl hi hr kk
theorem wl393 (hd : dc k pc = some (.arraylength, pc')) (ok : Ok S h) (ha : sK S a = 4) (kk : Wp G d k pc' ls (vI 14 :: st) h Q) : Wp G d k pc ls (vR (some (sT S 393 a)) :: st) h Q := p_len hd ok ha (by decide) rfl (by decide) kk
theorem wl513 (hd : dc k pc = some (.arraylength, pc')) (ok : Ok S h) (ha : sK S a = 5) (kk : Wp G d k pc' ls (vI 35 :: st) h Q) : Wp G d k pc ls (vR (some (sT S 513 a)) :: st) h Q := p_len hd ok ha (by decide) rfl (by decide) kk
theorem wf515 {x : Int} (hd : dc k pc = some (.putfield 515, pc')) (ok : Ok S h) (ha : sK S a = 5) (hr : (-1) ≤ x ∧ x ≤ 5000) (kk : ∀ h', h' = sFI h 515 a x → Mo S (fun y => y = a) h h' → Wp G d k pc' ls st h' Q) : Wp G d k pc ls (vI x :: vR (some a) :: st) h Q := p_FI (Or.inl hd) ok ha (by decide) hr kk
theorem wf516 {x : Int} (hd : dc k pc = some (.putfield 516, pc')) (ok : Ok S h) (ha : sK S a = 5) (hr : 0 ≤ x ∧ x ≤ 5000) (kk : ∀ h', h' = sFI h 516 a x → Mo S (fun y => y = a) h h' → Wp G d k pc' ls st h' Q) : Wp G d k pc ls (vI x :: vR (some a) :: st) h Q := p_FI (Or.inl hd) ok ha (by decide) hr kk
theorem wa517 {x : Int64} {i : Int} (hd : dc k pc = some (.lastore, pc')) (ok : Ok S h) (ha : sK S a = 5) (hi : 0 ≤ i ∧ i < 2) (kk : ∀ h', h' = sAL h (sT S 517 a) i.toNat x → Mo S (fun y => y = sT S 517 a) h h' → Wp G d k pc' ls st h' Q) : Wp G d k pc ls (vJ x :: vI i :: vR (some (sT S 517 a)) :: st) h Q := p_AL hd ok ha rfl rfl hi kk
theorem wl517 (hd : dc k pc = some (.arraylength, pc')) (ok : Ok S h) (ha : sK S a = 5) (kk : Wp G d k pc' ls (vI 2 :: st) h Q) : Wp G d k pc ls (vR (some (sT S 517 a)) :: st) h Q := p_len hd ok ha (by decide) rfl (by decide) kk
theorem wa518 {x : Int64} {i : Int} (hd : dc k pc = some (.lastore, pc')) (ok : Ok S h) (ha : sK S a = 5) (hi : 0 ≤ i ∧ i < 2) (kk : ∀ h', h' = sAL h (sT S 518 a) i.toNat x → Mo S (fun y => y = sT S 518 a) h h' → Wp G d k pc' ls st h' Q) : Wp G d k pc ls (vJ x :: vI i :: vR (some (sT S 518 a)) :: st) h Q := p_AL hd ok ha rfl rfl hi kk
theorem wl518 (hd : dc k pc = some (.arraylength, pc')) (ok : Ok S h) (ha : sK S a = 5) (kk : Wp G d k pc' ls (vI 2 :: st) h Q) : Wp G d k pc ls (vR (some (sT S 518 a)) :: st) h Q := p_len hd ok ha (by decide) rfl (by decide) kk
theorem wf519 {x : Int} (hd : dc k pc = some (.putfield 519, pc')) (ok : Ok S h) (ha : sK S a = 5) (hr : 0 ≤ x ∧ x ≤ 2) (kk : ∀ h', h' = sFI h 519 a x → Mo S (fun y => y = a) h h' → Wp G d k pc' ls st h' Q) : Wp G d k pc ls (vI x :: vR (some a) :: st) h Q := p_FI (Or.inl hd) ok ha (by decide) hr kk
theorem wa520 {x i : Int} (hd : dc k pc = some (.iastore, pc')) (ok : Ok S h) (ha : sK S a = 5) (hi : 0 ≤ i ∧ i < 5) (hr : 0 ≤ x ∧ x ≤ 9999) (kk : ∀ h', h' = sAI h (sT S 520 a) i.toNat x → Mo S (fun y => y = sT S 520 a) h h' → Wp G d k pc' ls st h' Q) : Wp G d k pc ls (vI x :: vI i :: vR (some (sT S 520 a)) :: st) h Q := p_AI hd ok ha rfl rfl hi hr kk
theorem wl520 (hd : dc k pc = some (.arraylength, pc')) (ok : Ok S h) (ha : sK S a = 5) (kk : Wp G d k pc' ls (vI 5 :: st) h Q) : Wp G d k pc ls (vR (some (sT S 520 a)) :: st) h Q := p_len hd ok ha (by decide) rfl (by decide) kk
theorem wf521 {x : Int} (hd : dc k pc = some (.putfield 521, pc')) (ok : Ok S h) (ha : sK S a = 5) (hr : 0 ≤ x ∧ x ≤ 5000) (kk : ∀ h', h' = sFI h 521 a x → Mo S (fun y => y = a) h h' → Wp G d k pc' ls st h' Q) : Wp G d k pc ls (vI x :: vR (some a) :: st) h Q := p_FI (Or.inl hd) ok ha (by decide) hr kk
theorem wf522 {x : Int} (hd : dc k pc = some (.putfield 522, pc')) (ok : Ok S h) (ha : sK S a = 5) (hr : 0 ≤ x ∧ x ≤ 5000) (kk : ∀ h', h' = sFI h 522 a x → Mo S (fun y => y = a) h h' → Wp G d k pc' ls st h' Q) : Wp G d k pc ls (vI x :: vR (some a) :: st) h Q := p_FI (Or.inl hd) ok ha (by decide) hr kk
theorem wf523 {x : Int} (hd : dc k pc = some (.putfield 523, pc')) (ok : Ok S h) (ha : sK S a = 5) (hr : 0 ≤ x ∧ x ≤ 5000) (kk : ∀ h', h' = sFI h 523 a x → Mo S (fun y => y = a) h h' → Wp G d k pc' ls st h' Q) : Wp G d k pc ls (vI x :: vR (some a) :: st) h Q := p_FI (Or.inl hd) ok ha (by decide) hr kk
theorem wf771 {x : Int} (hd : dc k pc = some (.putstatic 771, pc')) (ok : Ok S h) (ha : sK S a = 7) (hr : x = 0 ∨ x = 1) (kk : ∀ h', h' = sFI h 771 a x → Mo S (fun y => y = a) h h' → Wp G d k pc' ls st h' Q) : Wp G d k pc ls (vI x :: vR (some a) :: st) h Q := p_FI (Or.inr ⟨hd, hr⟩) ok ha (by decide) (show (0 : Int) ≤ x ∧ x ≤ (1 : Int) by omega) kk
theorem wf772 {x : Int} (hd : dc k pc = some (.putfield 772, pc')) (ok : Ok S h) (ha : sK S a = 7) (hr : 0 ≤ x ∧ x ≤ 2147483647) (kk : ∀ h', h' = sFI h 772 a x → Mo S (fun y => y = a) h h' → Wp G d k pc' ls st h' Q) : Wp G d k pc ls (vI x :: vR (some a) :: st) h Q := p_FI (Or.inl hd) ok ha (by decide) hr kk
theorem wa773 {x i : Int} (hd : dc k pc = some (.iastore, pc')) (ok : Ok S h) (ha : sK S a = 7) (hi : 0 ≤ i ∧ i < 14) (hr : 0 ≤ x ∧ x ≤ 1) (kk : ∀ h', h' = sAI h (sT S 773 a) i.toNat x → Mo S (fun y => y = sT S 773 a) h h' → Wp G d k pc' ls st h' Q) : Wp G d k pc ls (vI x :: vI i :: vR (some (sT S 773 a)) :: st) h Q := p_AI hd ok ha rfl rfl hi hr kk
theorem wl773 (hd : dc k pc = some (.arraylength, pc')) (ok : Ok S h) (ha : sK S a = 7) (kk : Wp G d k pc' ls (vI 14 :: st) h Q) : Wp G d k pc ls (vR (some (sT S 773 a)) :: st) h Q := p_len hd ok ha (by decide) rfl (by decide) kk
theorem wa774 {x i : Int} (hd : dc k pc = some (.iastore, pc')) (ok : Ok S h) (ha : sK S a = 7) (hi : 0 ≤ i ∧ i < 14) (hr : 0 ≤ x ∧ x ≤ 2) (kk : ∀ h', h' = sAI h (sT S 774 a) i.toNat x → Mo S (fun y => y = sT S 774 a) h h' → Wp G d k pc' ls st h' Q) : Wp G d k pc ls (vI x :: vI i :: vR (some (sT S 774 a)) :: st) h Q := p_AI hd ok ha rfl rfl hi hr kk
theorem wl774 (hd : dc k pc = some (.arraylength, pc')) (ok : Ok S h) (ha : sK S a = 7) (kk : Wp G d k pc' ls (vI 14 :: st) h Q) : Wp G d k pc ls (vR (some (sT S 774 a)) :: st) h Q := p_len hd ok ha (by decide) rfl (by decide) kk
theorem wa775 {x i : Int} (hd : dc k pc = some (.iastore, pc')) (ok : Ok S h) (ha : sK S a = 7) (hi : 0 ≤ i ∧ i < 2) (hr : (-1) ≤ x ∧ x ≤ 13) (kk : ∀ h', h' = sAI h (sT S 775 a) i.toNat x → Mo S (fun y => y = sT S 775 a) h h' → Wp G d k pc' ls st h' Q) : Wp G d k pc ls (vI x :: vI i :: vR (some (sT S 775 a)) :: st) h Q := p_AI hd ok ha rfl rfl hi hr kk
theorem wl775 (hd : dc k pc = some (.arraylength, pc')) (ok : Ok S h) (ha : sK S a = 7) (kk : Wp G d k pc' ls (vI 2 :: st) h Q) : Wp G d k pc ls (vR (some (sT S 775 a)) :: st) h Q := p_len hd ok ha (by decide) rfl (by decide) kk
theorem wa776 {x i : Int} (hd : dc k pc = some (.iastore, pc')) (ok : Ok S h) (ha : sK S a = 7) (hi : 0 ≤ i ∧ i < 2) (hr : (-10) ≤ x ∧ x ≤ 1000) (kk : ∀ h', h' = sAI h (sT S 776 a) i.toNat x → Mo S (fun y => y = sT S 776 a) h h' → Wp G d k pc' ls st h' Q) : Wp G d k pc ls (vI x :: vI i :: vR (some (sT S 776 a)) :: st) h Q := p_AI hd ok ha rfl rfl hi hr kk
theorem wl776 (hd : dc k pc = some (.arraylength, pc')) (ok : Ok S h) (ha : sK S a = 7) (kk : Wp G d k pc' ls (vI 2 :: st) h Q) : Wp G d k pc ls (vR (some (sT S 776 a)) :: st) h Q := p_len hd ok ha (by decide) rfl (by decide) kk
theorem wa777 {x i : Int} (hd : dc k pc = some (.iastore, pc')) (ok : Ok S h) (ha : sK S a = 7) (hi : 0 ≤ i ∧ i < 2) (hr : 0 ≤ x ∧ x ≤ 2) (kk : ∀ h', h' = sAI h (sT S 777 a) i.toNat x → Mo S (fun y => y = sT S 777 a) h h' → Wp G d k pc' ls st h' Q) : Wp G d k pc ls (vI x :: vI i :: vR (some (sT S 777 a)) :: st) h Q := p_AI hd ok ha rfl rfl hi hr kk
theorem wl777 (hd : dc k pc = some (.arraylength, pc')) (ok : Ok S h) (ha : sK S a = 7) (kk : Wp G d k pc' ls (vI 2 :: st) h Q) : Wp G d k pc ls (vR (some (sT S 777 a)) :: st) h Q := p_len hd ok ha (by decide) rfl (by decide) kk
theorem wl778 (hd : dc k pc = some (.arraylength, pc')) (ok : Ok S h) (ha : sK S a = 7) (kk : Wp G d k pc' ls (vI 2 :: st) h Q) : Wp G d k pc ls (vR (some (sT S 778 a)) :: st) h Q := p_len hd ok ha (by decide) rfl (by decide) kk
theorem wa779 {x i : Int} (hd : dc k pc = some (.iastore, pc')) (ok : Ok S h) (ha : sK S a = 7) (hi : 0 ≤ i ∧ i < 14) (hr : 0 ≤ x ∧ x ≤ 13) (kk : ∀ h', h' = sAI h (sT S 779 a) i.toNat x → Mo S (fun y => y = sT S 779 a) h h' → Wp G d k pc' ls st h' Q) : Wp G d k pc ls (vI x :: vI i :: vR (some (sT S 779 a)) :: st) h Q := p_AI hd ok ha rfl rfl hi hr kk
theorem wl779 (hd : dc k pc = some (.arraylength, pc')) (ok : Ok S h) (ha : sK S a = 7) (kk : Wp G d k pc' ls (vI 14 :: st) h Q) : Wp G d k pc ls (vR (some (sT S 779 a)) :: st) h Q := p_len hd ok ha (by decide) rfl (by decide) kk
theorem wf780 {x : Int} (hd : dc k pc = some (.putfield 780, pc')) (ok : Ok S h) (ha : sK S a = 7) (hr : 0 ≤ x ∧ x ≤ 14) (kk : ∀ h', h' = sFI h 780 a x → Mo S (fun y => y = a) h h' → Wp G d k pc' ls st h' Q) : Wp G d k pc ls (vI x :: vR (some a) :: st) h Q := p_FI (Or.inl hd) ok ha (by decide) hr kk
theorem wa781 {x i : Int} (hd : dc k pc = some (.iastore, pc')) (ok : Ok S h) (ha : sK S a = 7) (hi : 0 ≤ i ∧ i < 3) (hr : 0 ≤ x ∧ x ≤ 2147483647) (kk : ∀ h', h' = sAI h (sT S 781 a) i.toNat x → Mo S (fun y => y = sT S 781 a) h h' → Wp G d k pc' ls st h' Q) : Wp G d k pc ls (vI x :: vI i :: vR (some (sT S 781 a)) :: st) h Q := p_AI hd ok ha rfl rfl hi hr kk
theorem wl781 (hd : dc k pc = some (.arraylength, pc')) (ok : Ok S h) (ha : sK S a = 7) (kk : Wp G d k pc' ls (vI 3 :: st) h Q) : Wp G d k pc ls (vR (some (sT S 781 a)) :: st) h Q := p_len hd ok ha (by decide) rfl (by decide) kk
theorem wf782 {x : Int} (hd : dc k pc = some (.putfield 782, pc')) (ok : Ok S h) (ha : sK S a = 7) (hr : (-1) ≤ x ∧ x ≤ 13) (kk : ∀ h', h' = sFI h 782 a x → Mo S (fun y => y = a) h h' → Wp G d k pc' ls st h' Q) : Wp G d k pc ls (vI x :: vR (some a) :: st) h Q := p_FI (Or.inl hd) ok ha (by decide) hr kk
theorem wf783 {x : Int} (hd : dc k pc = some (.putstatic 783, pc')) (ok : Ok S h) (ha : sK S a = 7) (hr : x = 0 ∨ x = 1) (kk : ∀ h', h' = sFI h 783 a x → Mo S (fun y => y = a) h h' → Wp G d k pc' ls st h' Q) : Wp G d k pc ls (vI x :: vR (some a) :: st) h Q := p_FI (Or.inr ⟨hd, hr⟩) ok ha (by decide) (show (0 : Int) ≤ x ∧ x ≤ (1 : Int) by omega) kk
theorem wl896 (hd : dc k pc = some (.arraylength, pc')) (ok : Ok S h) (ha : sK S a = 8) (kk : Wp G d k pc' ls (vI 14 :: st) h Q) : Wp G d k pc ls (vR (some (sT S 896 a)) :: st) h Q := p_len hd ok ha (by decide) rfl (by decide) kk
theorem wl897 (hd : dc k pc = some (.arraylength, pc')) (ok : Ok S h) (ha : sK S a = 8) (kk : Wp G d k pc' ls (vI 14 :: st) h Q) : Wp G d k pc ls (vR (some (sT S 897 a)) :: st) h Q := p_len hd ok ha (by decide) rfl (by decide) kk
theorem wl898 (hd : dc k pc = some (.arraylength, pc')) (ok : Ok S h) (ha : sK S a = 8) (kk : Wp G d k pc' ls (vI 14 :: st) h Q) : Wp G d k pc ls (vR (some (sT S 898 a)) :: st) h Q := p_len hd ok ha (by decide) rfl (by decide) kk
theorem wa899 {x i : Int} (hd : dc k pc = some (.iastore, pc')) (ok : Ok S h) (ha : sK S a = 8) (hi : 0 ≤ i ∧ i < 14) (hr : 0 ≤ x ∧ x ≤ 11) (kk : ∀ h', h' = sAI h (sT S 899 a) i.toNat x → Mo S (fun y => y = sT S 899 a) h h' → Wp G d k pc' ls st h' Q) : Wp G d k pc ls (vI x :: vI i :: vR (some (sT S 899 a)) :: st) h Q := p_AI hd ok ha rfl rfl hi hr kk
theorem wl899 (hd : dc k pc = some (.arraylength, pc')) (ok : Ok S h) (ha : sK S a = 8) (kk : Wp G d k pc' ls (vI 14 :: st) h Q) : Wp G d k pc ls (vR (some (sT S 899 a)) :: st) h Q := p_len hd ok ha (by decide) rfl (by decide) kk
theorem wf901 {x : Int} (hd : dc k pc = some (.putfield 901, pc')) (ok : Ok S h) (ha : sK S a = 8) (hr : 0 ≤ x ∧ x ≤ 24) (kk : ∀ h', h' = sFI h 901 a x → Mo S (fun y => y = a) h h' → Wp G d k pc' ls st h' Q) : Wp G d k pc ls (vI x :: vR (some a) :: st) h Q := p_FI (Or.inl hd) ok ha (by decide) hr kk
theorem wf1024 {x : Int} (hd : dc k pc = some (.putfield 1024, pc')) (ok : Ok S h) (ha : sK S a = 9) (hr : 0 ≤ x ∧ x ≤ 20) (kk : ∀ h', h' = sFI h 1024 a x → Mo S (fun y => y = a) h h' → Wp G d k pc' ls st h' Q) : Wp G d k pc ls (vI x :: vR (some a) :: st) h Q := p_FI (Or.inl hd) ok ha (by decide) hr kk
theorem wa1025 {x i : Int} (hd : dc k pc = some (.iastore, pc')) (ok : Ok S h) (ha : sK S a = 9) (hi : 0 ≤ i ∧ i < 20) (hr : (-1) ≤ x ∧ x ≤ 4) (kk : ∀ h', h' = sAI h (sT S 1025 a) i.toNat x → Mo S (fun y => y = sT S 1025 a) h h' → Wp G d k pc' ls st h' Q) : Wp G d k pc ls (vI x :: vI i :: vR (some (sT S 1025 a)) :: st) h Q := p_AI hd ok ha rfl rfl hi hr kk
theorem wl1025 (hd : dc k pc = some (.arraylength, pc')) (ok : Ok S h) (ha : sK S a = 9) (kk : Wp G d k pc' ls (vI 20 :: st) h Q) : Wp G d k pc ls (vR (some (sT S 1025 a)) :: st) h Q := p_len hd ok ha (by decide) rfl (by decide) kk
theorem wa1026 {x i : Int} (hd : dc k pc = some (.iastore, pc')) (ok : Ok S h) (ha : sK S a = 9) (hi : 0 ≤ i ∧ i < 20) (hr : 0 ≤ x ∧ x ≤ 3) (kk : ∀ h', h' = sAI h (sT S 1026 a) i.toNat x → Mo S (fun y => y = sT S 1026 a) h h' → Wp G d k pc' ls st h' Q) : Wp G d k pc ls (vI x :: vI i :: vR (some (sT S 1026 a)) :: st) h Q := p_AI hd ok ha rfl rfl hi hr kk
theorem wl1026 (hd : dc k pc = some (.arraylength, pc')) (ok : Ok S h) (ha : sK S a = 9) (kk : Wp G d k pc' ls (vI 20 :: st) h Q) : Wp G d k pc ls (vR (some (sT S 1026 a)) :: st) h Q := p_len hd ok ha (by decide) rfl (by decide) kk
theorem wa1027 {x i : Int} (hd : dc k pc = some (.iastore, pc')) (ok : Ok S h) (ha : sK S a = 9) (hi : 0 ≤ i ∧ i < 20) (hr : 0 ≤ x ∧ x ≤ 4) (kk : ∀ h', h' = sAI h (sT S 1027 a) i.toNat x → Mo S (fun y => y = sT S 1027 a) h h' → Wp G d k pc' ls st h' Q) : Wp G d k pc ls (vI x :: vI i :: vR (some (sT S 1027 a)) :: st) h Q := p_AI hd ok ha rfl rfl hi hr kk
theorem wl1027 (hd : dc k pc = some (.arraylength, pc')) (ok : Ok S h) (ha : sK S a = 9) (kk : Wp G d k pc' ls (vI 20 :: st) h Q) : Wp G d k pc ls (vR (some (sT S 1027 a)) :: st) h Q := p_len hd ok ha (by decide) rfl (by decide) kk
theorem wa1028 {x i : Int} (hd : dc k pc = some (.iastore, pc')) (ok : Ok S h) (ha : sK S a = 9) (hi : 0 ≤ i ∧ i < 20) (hr : 0 ≤ x ∧ x ≤ 3) (kk : ∀ h', h' = sAI h (sT S 1028 a) i.toNat x → Mo S (fun y => y = sT S 1028 a) h h' → Wp G d k pc' ls st h' Q) : Wp G d k pc ls (vI x :: vI i :: vR (some (sT S 1028 a)) :: st) h Q := p_AI hd ok ha rfl rfl hi hr kk
theorem wl1028 (hd : dc k pc = some (.arraylength, pc')) (ok : Ok S h) (ha : sK S a = 9) (kk : Wp G d k pc' ls (vI 20 :: st) h Q) : Wp G d k pc ls (vR (some (sT S 1028 a)) :: st) h Q := p_len hd ok ha (by decide) rfl (by decide) kk
theorem wa1029 {x i : Int} (hd : dc k pc = some (.iastore, pc')) (ok : Ok S h) (ha : sK S a = 9) (hi : 0 ≤ i ∧ i < 20) (hr : 0 ≤ x ∧ x ≤ 3) (kk : ∀ h', h' = sAI h (sT S 1029 a) i.toNat x → Mo S (fun y => y = sT S 1029 a) h h' → Wp G d k pc' ls st h' Q) : Wp G d k pc ls (vI x :: vI i :: vR (some (sT S 1029 a)) :: st) h Q := p_AI hd ok ha rfl rfl hi hr kk
theorem wl1029 (hd : dc k pc = some (.arraylength, pc')) (ok : Ok S h) (ha : sK S a = 9) (kk : Wp G d k pc' ls (vI 20 :: st) h Q) : Wp G d k pc ls (vR (some (sT S 1029 a)) :: st) h Q := p_len hd ok ha (by decide) rfl (by decide) kk
theorem wa1030 {x i : Int} (hd : dc k pc = some (.iastore, pc')) (ok : Ok S h) (ha : sK S a = 9) (hi : 0 ≤ i ∧ i < 5) (hr : (-1) ≤ x ∧ x ≤ 3) (kk : ∀ h', h' = sAI h (sT S 1030 a) i.toNat x → Mo S (fun y => y = sT S 1030 a) h h' → Wp G d k pc' ls st h' Q) : Wp G d k pc ls (vI x :: vI i :: vR (some (sT S 1030 a)) :: st) h Q := p_AI hd ok ha rfl rfl hi hr kk
theorem wl1030 (hd : dc k pc = some (.arraylength, pc')) (ok : Ok S h) (ha : sK S a = 9) (kk : Wp G d k pc' ls (vI 5 :: st) h Q) : Wp G d k pc ls (vR (some (sT S 1030 a)) :: st) h Q := p_len hd ok ha (by decide) rfl (by decide) kk
theorem wa1031 {x i : Int} (hd : dc k pc = some (.iastore, pc')) (ok : Ok S h) (ha : sK S a = 9) (hi : 0 ≤ i ∧ i < 5) (hr : (-1) ≤ x ∧ x ≤ 3) (kk : ∀ h', h' = sAI h (sT S 1031 a) i.toNat x → Mo S (fun y => y = sT S 1031 a) h h' → Wp G d k pc' ls st h' Q) : Wp G d k pc ls (vI x :: vI i :: vR (some (sT S 1031 a)) :: st) h Q := p_AI hd ok ha rfl rfl hi hr kk
theorem wl1031 (hd : dc k pc = some (.arraylength, pc')) (ok : Ok S h) (ha : sK S a = 9) (kk : Wp G d k pc' ls (vI 5 :: st) h Q) : Wp G d k pc ls (vR (some (sT S 1031 a)) :: st) h Q := p_len hd ok ha (by decide) rfl (by decide) kk
theorem wa1032 {x i : Int} (hd : dc k pc = some (.iastore, pc')) (ok : Ok S h) (ha : sK S a = 9) (hi : 0 ≤ i ∧ i < 512) (hr : 0 ≤ x ∧ x ≤ 4) (kk : ∀ h', h' = sAI h (sT S 1032 a) i.toNat x → Mo S (fun y => y = sT S 1032 a) h h' → Wp G d k pc' ls st h' Q) : Wp G d k pc ls (vI x :: vI i :: vR (some (sT S 1032 a)) :: st) h Q := p_AI hd ok ha rfl rfl hi hr kk
theorem wl1032 (hd : dc k pc = some (.arraylength, pc')) (ok : Ok S h) (ha : sK S a = 9) (kk : Wp G d k pc' ls (vI 512 :: st) h Q) : Wp G d k pc ls (vR (some (sT S 1032 a)) :: st) h Q := p_len hd ok ha (by decide) rfl (by decide) kk
theorem wa1033 {x i : Int} (hd : dc k pc = some (.iastore, pc')) (ok : Ok S h) (ha : sK S a = 9) (hi : 0 ≤ i ∧ i < 512) (hr : (-1) ≤ x ∧ x ≤ 3) (kk : ∀ h', h' = sAI h (sT S 1033 a) i.toNat x → Mo S (fun y => y = sT S 1033 a) h h' → Wp G d k pc' ls st h' Q) : Wp G d k pc ls (vI x :: vI i :: vR (some (sT S 1033 a)) :: st) h Q := p_AI hd ok ha rfl rfl hi hr kk
theorem wl1033 (hd : dc k pc = some (.arraylength, pc')) (ok : Ok S h) (ha : sK S a = 9) (kk : Wp G d k pc' ls (vI 512 :: st) h Q) : Wp G d k pc ls (vR (some (sT S 1033 a)) :: st) h Q := p_len hd ok ha (by decide) rfl (by decide) kk
theorem wa1034 {x i : Int} (hd : dc k pc = some (.iastore, pc')) (ok : Ok S h) (ha : sK S a = 9) (hi : 0 ≤ i ∧ i < 512) (hr : 0 ≤ x ∧ x ≤ 3) (kk : ∀ h', h' = sAI h (sT S 1034 a) i.toNat x → Mo S (fun y => y = sT S 1034 a) h h' → Wp G d k pc' ls st h' Q) : Wp G d k pc ls (vI x :: vI i :: vR (some (sT S 1034 a)) :: st) h Q := p_AI hd ok ha rfl rfl hi hr kk
theorem wl1034 (hd : dc k pc = some (.arraylength, pc')) (ok : Ok S h) (ha : sK S a = 9) (kk : Wp G d k pc' ls (vI 512 :: st) h Q) : Wp G d k pc ls (vR (some (sT S 1034 a)) :: st) h Q := p_len hd ok ha (by decide) rfl (by decide) kk
theorem wl1153 (hd : dc k pc = some (.arraylength, pc')) (ok : Ok S h) (ha : sK S a = 10) (kk : Wp G d k pc' ls (vI 6 :: st) h Q) : Wp G d k pc ls (vR (some (sT S 1153 a)) :: st) h Q := p_len hd ok ha (by decide) rfl (by decide) kk
theorem wa1157 {x i : Int} (hd : dc k pc = some (.iastore, pc')) (ok : Ok S h) (ha : sK S a = 10) (hi : 0 ≤ i ∧ i < 600) (hr : 0 ≤ x ∧ x ≤ 4000) (kk : ∀ h', h' = sAI h (sT S 1157 a) i.toNat x → Mo S (fun y => y = sT S 1157 a) h h' → Wp G d k pc' ls st h' Q) : Wp G d k pc ls (vI x :: vI i :: vR (some (sT S 1157 a)) :: st) h Q := p_AI hd ok ha rfl rfl hi hr kk
theorem wl1157 (hd : dc k pc = some (.arraylength, pc')) (ok : Ok S h) (ha : sK S a = 10) (kk : Wp G d k pc' ls (vI 600 :: st) h Q) : Wp G d k pc ls (vR (some (sT S 1157 a)) :: st) h Q := p_len hd ok ha (by decide) rfl (by decide) kk
theorem wa1158 {x i : Int} (hd : dc k pc = some (.iastore, pc')) (ok : Ok S h) (ha : sK S a = 10) (hi : 0 ≤ i ∧ i < 600) (hr : 0 ≤ x ∧ x ≤ 4000) (kk : ∀ h', h' = sAI h (sT S 1158 a) i.toNat x → Mo S (fun y => y = sT S 1158 a) h h' → Wp G d k pc' ls st h' Q) : Wp G d k pc ls (vI x :: vI i :: vR (some (sT S 1158 a)) :: st) h Q := p_AI hd ok ha rfl rfl hi hr kk
theorem wl1158 (hd : dc k pc = some (.arraylength, pc')) (ok : Ok S h) (ha : sK S a = 10) (kk : Wp G d k pc' ls (vI 600 :: st) h Q) : Wp G d k pc ls (vR (some (sT S 1158 a)) :: st) h Q := p_len hd ok ha (by decide) rfl (by decide) kk
theorem wa1159 {x : Int64} {i : Int} (hd : dc k pc = some (.lastore, pc')) (ok : Ok S h) (ha : sK S a = 10) (hi : 0 ≤ i ∧ i < 246) (kk : ∀ h', h' = sAL h (sT S 1159 a) i.toNat x → Mo S (fun y => y = sT S 1159 a) h h' → Wp G d k pc' ls st h' Q) : Wp G d k pc ls (vJ x :: vI i :: vR (some (sT S 1159 a)) :: st) h Q := p_AL hd ok ha rfl rfl hi kk
theorem wl1159 (hd : dc k pc = some (.arraylength, pc')) (ok : Ok S h) (ha : sK S a = 10) (kk : Wp G d k pc' ls (vI 246 :: st) h Q) : Wp G d k pc ls (vR (some (sT S 1159 a)) :: st) h Q := p_len hd ok ha (by decide) rfl (by decide) kk
theorem wa1160 {x i : Int} (hd : dc k pc = some (.iastore, pc')) (ok : Ok S h) (ha : sK S a = 10) (hi : 0 ≤ i ∧ i < 246) (hr : 0 ≤ x ∧ x ≤ 9999) (kk : ∀ h', h' = sAI h (sT S 1160 a) i.toNat x → Mo S (fun y => y = sT S 1160 a) h h' → Wp G d k pc' ls st h' Q) : Wp G d k pc ls (vI x :: vI i :: vR (some (sT S 1160 a)) :: st) h Q := p_AI hd ok ha rfl rfl hi hr kk
theorem wl1160 (hd : dc k pc = some (.arraylength, pc')) (ok : Ok S h) (ha : sK S a = 10) (kk : Wp G d k pc' ls (vI 246 :: st) h Q) : Wp G d k pc ls (vR (some (sT S 1160 a)) :: st) h Q := p_len hd ok ha (by decide) rfl (by decide) kk
theorem wa1161 {x i : Int} (hd : dc k pc = some (.bastore, pc')) (ok : Ok S h) (ha : sK S a = 10) (hi : 0 ≤ i ∧ i < 246) (hr : x = 0 ∨ x = 1) (kk : ∀ h', h' = sAI h (sT S 1161 a) i.toNat x → Mo S (fun y => y = sT S 1161 a) h h' → Wp G d k pc' ls st h' Q) : Wp G d k pc ls (vI x :: vI i :: vR (some (sT S 1161 a)) :: st) h Q := p_AZ hd ok ha rfl rfl ⟨rfl, rfl⟩ hi hr kk
theorem wl1161 (hd : dc k pc = some (.arraylength, pc')) (ok : Ok S h) (ha : sK S a = 10) (kk : Wp G d k pc' ls (vI 246 :: st) h Q) : Wp G d k pc ls (vR (some (sT S 1161 a)) :: st) h Q := p_len hd ok ha (by decide) rfl (by decide) kk
theorem wf1162 {x : Int} (hd : dc k pc = some (.putfield 1162, pc')) (ok : Ok S h) (ha : sK S a = 10) (hr : 0 ≤ x ∧ x ≤ 246) (kk : ∀ h', h' = sFI h 1162 a x → Mo S (fun y => y = a) h h' → Wp G d k pc' ls st h' Q) : Wp G d k pc ls (vI x :: vR (some a) :: st) h Q := p_FI (Or.inl hd) ok ha (by decide) hr kk
theorem wa1163 {x : Int64} {i : Int} (hd : dc k pc = some (.lastore, pc')) (ok : Ok S h) (ha : sK S a = 10) (hi : 0 ≤ i ∧ i < 906) (kk : ∀ h', h' = sAL h (sT S 1163 a) i.toNat x → Mo S (fun y => y = sT S 1163 a) h h' → Wp G d k pc' ls st h' Q) : Wp G d k pc ls (vJ x :: vI i :: vR (some (sT S 1163 a)) :: st) h Q := p_AL hd ok ha rfl rfl hi kk
theorem wl1163 (hd : dc k pc = some (.arraylength, pc')) (ok : Ok S h) (ha : sK S a = 10) (kk : Wp G d k pc' ls (vI 906 :: st) h Q) : Wp G d k pc ls (vR (some (sT S 1163 a)) :: st) h Q := p_len hd ok ha (by decide) rfl (by decide) kk
theorem wa1164 {x i : Int} (hd : dc k pc = some (.iastore, pc')) (ok : Ok S h) (ha : sK S a = 10) (hi : 0 ≤ i ∧ i < 906) (hr : 0 ≤ x ∧ x ≤ 9999) (kk : ∀ h', h' = sAI h (sT S 1164 a) i.toNat x → Mo S (fun y => y = sT S 1164 a) h h' → Wp G d k pc' ls st h' Q) : Wp G d k pc ls (vI x :: vI i :: vR (some (sT S 1164 a)) :: st) h Q := p_AI hd ok ha rfl rfl hi hr kk
theorem wl1164 (hd : dc k pc = some (.arraylength, pc')) (ok : Ok S h) (ha : sK S a = 10) (kk : Wp G d k pc' ls (vI 906 :: st) h Q) : Wp G d k pc ls (vR (some (sT S 1164 a)) :: st) h Q := p_len hd ok ha (by decide) rfl (by decide) kk
theorem wf1165 {x : Int} (hd : dc k pc = some (.putfield 1165, pc')) (ok : Ok S h) (ha : sK S a = 10) (hr : 0 ≤ x ∧ x ≤ 906) (kk : ∀ h', h' = sFI h 1165 a x → Mo S (fun y => y = a) h h' → Wp G d k pc' ls st h' Q) : Wp G d k pc ls (vI x :: vR (some a) :: st) h Q := p_FI (Or.inl hd) ok ha (by decide) hr kk
theorem wf1408 {x : Int} (hd : dc k pc = some (.putfield 1408, pc')) (ok : Ok S h) (ha : sK S a = 12) (hr : 0 ≤ x ∧ x ≤ 16) (kk : ∀ h', h' = sFI h 1408 a x → Mo S (fun y => y = a) h h' → Wp G d k pc' ls st h' Q) : Wp G d k pc ls (vI x :: vR (some a) :: st) h Q := p_FI (Or.inl hd) ok ha (by decide) hr kk
theorem wa1409 {x i : Int} (hd : dc k pc = some (.iastore, pc')) (ok : Ok S h) (ha : sK S a = 12) (hi : 0 ≤ i ∧ i < 192) (hr : 0 ≤ x ∧ x ≤ 255) (kk : ∀ h', h' = sAI h (sT S 1409 a) i.toNat x → Mo S (fun y => y = sT S 1409 a) h h' → Wp G d k pc' ls st h' Q) : Wp G d k pc ls (vI x :: vI i :: vR (some (sT S 1409 a)) :: st) h Q := p_AI hd ok ha rfl rfl hi hr kk
theorem wl1409 (hd : dc k pc = some (.arraylength, pc')) (ok : Ok S h) (ha : sK S a = 12) (kk : Wp G d k pc' ls (vI 192 :: st) h Q) : Wp G d k pc ls (vR (some (sT S 1409 a)) :: st) h Q := p_len hd ok ha (by decide) rfl (by decide) kk
theorem wa1410 {x i : Int} (hd : dc k pc = some (.iastore, pc')) (ok : Ok S h) (ha : sK S a = 12) (hi : 0 ≤ i ∧ i < 16) (hr : 0 ≤ x ∧ x ≤ 12) (kk : ∀ h', h' = sAI h (sT S 1410 a) i.toNat x → Mo S (fun y => y = sT S 1410 a) h h' → Wp G d k pc' ls st h' Q) : Wp G d k pc ls (vI x :: vI i :: vR (some (sT S 1410 a)) :: st) h Q := p_AI hd ok ha rfl rfl hi hr kk
theorem wl1410 (hd : dc k pc = some (.arraylength, pc')) (ok : Ok S h) (ha : sK S a = 12) (kk : Wp G d k pc' ls (vI 16 :: st) h Q) : Wp G d k pc ls (vR (some (sT S 1410 a)) :: st) h Q := p_len hd ok ha (by decide) rfl (by decide) kk
theorem wa1411 {x i : Int} (hd : dc k pc = some (.iastore, pc')) (ok : Ok S h) (ha : sK S a = 12) (hi : 0 ≤ i ∧ i < 2560) (hr : 0 ≤ x ∧ x ≤ 255) (kk : ∀ h', h' = sAI h (sT S 1411 a) i.toNat x → Mo S (fun y => y = sT S 1411 a) h h' → Wp G d k pc' ls st h' Q) : Wp G d k pc ls (vI x :: vI i :: vR (some (sT S 1411 a)) :: st) h Q := p_AI hd ok ha rfl rfl hi hr kk
theorem wl1411 (hd : dc k pc = some (.arraylength, pc')) (ok : Ok S h) (ha : sK S a = 12) (kk : Wp G d k pc' ls (vI 2560 :: st) h Q) : Wp G d k pc ls (vR (some (sT S 1411 a)) :: st) h Q := p_len hd ok ha (by decide) rfl (by decide) kk
theorem wa1412 {x i : Int} (hd : dc k pc = some (.iastore, pc')) (ok : Ok S h) (ha : sK S a = 12) (hi : 0 ≤ i ∧ i < 16) (hr : 0 ≤ x ∧ x ≤ 160) (kk : ∀ h', h' = sAI h (sT S 1412 a) i.toNat x → Mo S (fun y => y = sT S 1412 a) h h' → Wp G d k pc' ls st h' Q) : Wp G d k pc ls (vI x :: vI i :: vR (some (sT S 1412 a)) :: st) h Q := p_AI hd ok ha rfl rfl hi hr kk
theorem wl1412 (hd : dc k pc = some (.arraylength, pc')) (ok : Ok S h) (ha : sK S a = 12) (kk : Wp G d k pc' ls (vI 16 :: st) h Q) : Wp G d k pc ls (vR (some (sT S 1412 a)) :: st) h Q := p_len hd ok ha (by decide) rfl (by decide) kk
theorem wf1413 {x : Int} (hd : dc k pc = some (.putfield 1413, pc')) (ok : Ok S h) (ha : sK S a = 12) (hr : 0 ≤ x ∧ x ≤ 6) (kk : ∀ h', h' = sFI h 1413 a x → Mo S (fun y => y = a) h h' → Wp G d k pc' ls st h' Q) : Wp G d k pc ls (vI x :: vR (some a) :: st) h Q := p_FI (Or.inl hd) ok ha (by decide) hr kk
theorem wa1414 {x i : Int} (hd : dc k pc = some (.iastore, pc')) (ok : Ok S h) (ha : sK S a = 12) (hi : 0 ≤ i ∧ i < 48) (hr : 0 ≤ x ∧ x ≤ 255) (kk : ∀ h', h' = sAI h (sT S 1414 a) i.toNat x → Mo S (fun y => y = sT S 1414 a) h h' → Wp G d k pc' ls st h' Q) : Wp G d k pc ls (vI x :: vI i :: vR (some (sT S 1414 a)) :: st) h Q := p_AI hd ok ha rfl rfl hi hr kk
theorem wl1414 (hd : dc k pc = some (.arraylength, pc')) (ok : Ok S h) (ha : sK S a = 12) (kk : Wp G d k pc' ls (vI 48 :: st) h Q) : Wp G d k pc ls (vR (some (sT S 1414 a)) :: st) h Q := p_len hd ok ha (by decide) rfl (by decide) kk
theorem wa1415 {x i : Int} (hd : dc k pc = some (.iastore, pc')) (ok : Ok S h) (ha : sK S a = 12) (hi : 0 ≤ i ∧ i < 6) (hr : 0 ≤ x ∧ x ≤ 8) (kk : ∀ h', h' = sAI h (sT S 1415 a) i.toNat x → Mo S (fun y => y = sT S 1415 a) h h' → Wp G d k pc' ls st h' Q) : Wp G d k pc ls (vI x :: vI i :: vR (some (sT S 1415 a)) :: st) h Q := p_AI hd ok ha rfl rfl hi hr kk
theorem wl1415 (hd : dc k pc = some (.arraylength, pc')) (ok : Ok S h) (ha : sK S a = 12) (kk : Wp G d k pc' ls (vI 6 :: st) h Q) : Wp G d k pc ls (vR (some (sT S 1415 a)) :: st) h Q := p_len hd ok ha (by decide) rfl (by decide) kk
theorem wa1416 {x i : Int} (hd : dc k pc = some (.iastore, pc')) (ok : Ok S h) (ha : sK S a = 12) (hi : 0 ≤ i ∧ i < 6) (hr : 0 ≤ x ∧ x ≤ 9999) (kk : ∀ h', h' = sAI h (sT S 1416 a) i.toNat x → Mo S (fun y => y = sT S 1416 a) h h' → Wp G d k pc' ls st h' Q) : Wp G d k pc ls (vI x :: vI i :: vR (some (sT S 1416 a)) :: st) h Q := p_AI hd ok ha rfl rfl hi hr kk
theorem wl1416 (hd : dc k pc = some (.arraylength, pc')) (ok : Ok S h) (ha : sK S a = 12) (kk : Wp G d k pc' ls (vI 6 :: st) h Q) : Wp G d k pc ls (vR (some (sT S 1416 a)) :: st) h Q := p_len hd ok ha (by decide) rfl (by decide) kk
theorem wf1417 {x : Int} (hd : dc k pc = some (.putfield 1417, pc')) (ok : Ok S h) (ha : sK S a = 12) (hr : 0 ≤ x ∧ x ≤ 14) (kk : ∀ h', h' = sFI h 1417 a x → Mo S (fun y => y = a) h h' → Wp G d k pc' ls st h' Q) : Wp G d k pc ls (vI x :: vR (some a) :: st) h Q := p_FI (Or.inl hd) ok ha (by decide) hr kk
theorem wa1418 {x i : Int} (hd : dc k pc = some (.iastore, pc')) (ok : Ok S h) (ha : sK S a = 12) (hi : 0 ≤ i ∧ i < 112) (hr : 0 ≤ x ∧ x ≤ 255) (kk : ∀ h', h' = sAI h (sT S 1418 a) i.toNat x → Mo S (fun y => y = sT S 1418 a) h h' → Wp G d k pc' ls st h' Q) : Wp G d k pc ls (vI x :: vI i :: vR (some (sT S 1418 a)) :: st) h Q := p_AI hd ok ha rfl rfl hi hr kk
theorem wl1418 (hd : dc k pc = some (.arraylength, pc')) (ok : Ok S h) (ha : sK S a = 12) (kk : Wp G d k pc' ls (vI 112 :: st) h Q) : Wp G d k pc ls (vR (some (sT S 1418 a)) :: st) h Q := p_len hd ok ha (by decide) rfl (by decide) kk
theorem wa1419 {x i : Int} (hd : dc k pc = some (.iastore, pc')) (ok : Ok S h) (ha : sK S a = 12) (hi : 0 ≤ i ∧ i < 14) (hr : 0 ≤ x ∧ x ≤ 8) (kk : ∀ h', h' = sAI h (sT S 1419 a) i.toNat x → Mo S (fun y => y = sT S 1419 a) h h' → Wp G d k pc' ls st h' Q) : Wp G d k pc ls (vI x :: vI i :: vR (some (sT S 1419 a)) :: st) h Q := p_AI hd ok ha rfl rfl hi hr kk
theorem wl1419 (hd : dc k pc = some (.arraylength, pc')) (ok : Ok S h) (ha : sK S a = 12) (kk : Wp G d k pc' ls (vI 14 :: st) h Q) : Wp G d k pc ls (vR (some (sT S 1419 a)) :: st) h Q := p_len hd ok ha (by decide) rfl (by decide) kk
theorem wa1420 {x i : Int} (hd : dc k pc = some (.bastore, pc')) (ok : Ok S h) (ha : sK S a = 12) (hi : 0 ≤ i ∧ i < 14) (hr : x = 0 ∨ x = 1) (kk : ∀ h', h' = sAI h (sT S 1420 a) i.toNat x → Mo S (fun y => y = sT S 1420 a) h h' → Wp G d k pc' ls st h' Q) : Wp G d k pc ls (vI x :: vI i :: vR (some (sT S 1420 a)) :: st) h Q := p_AZ hd ok ha rfl rfl ⟨rfl, rfl⟩ hi hr kk
theorem wl1420 (hd : dc k pc = some (.arraylength, pc')) (ok : Ok S h) (ha : sK S a = 12) (kk : Wp G d k pc' ls (vI 14 :: st) h Q) : Wp G d k pc ls (vR (some (sT S 1420 a)) :: st) h Q := p_len hd ok ha (by decide) rfl (by decide) kk
theorem wa1421 {x i : Int} (hd : dc k pc = some (.iastore, pc')) (ok : Ok S h) (ha : sK S a = 12) (hi : 0 ≤ i ∧ i < 14) (hr : 0 ≤ x ∧ x ≤ 7) (kk : ∀ h', h' = sAI h (sT S 1421 a) i.toNat x → Mo S (fun y => y = sT S 1421 a) h h' → Wp G d k pc' ls st h' Q) : Wp G d k pc ls (vI x :: vI i :: vR (some (sT S 1421 a)) :: st) h Q := p_AI hd ok ha rfl rfl hi hr kk
theorem wl1421 (hd : dc k pc = some (.arraylength, pc')) (ok : Ok S h) (ha : sK S a = 12) (kk : Wp G d k pc' ls (vI 14 :: st) h Q) : Wp G d k pc ls (vR (some (sT S 1421 a)) :: st) h Q := p_len hd ok ha (by decide) rfl (by decide) kk
theorem wa1422 {x i : Int} (hd : dc k pc = some (.iastore, pc')) (ok : Ok S h) (ha : sK S a = 12) (hi : 0 ≤ i ∧ i < 112) (hr : 0 ≤ x ∧ x ≤ 255) (kk : ∀ h', h' = sAI h (sT S 1422 a) i.toNat x → Mo S (fun y => y = sT S 1422 a) h h' → Wp G d k pc' ls st h' Q) : Wp G d k pc ls (vI x :: vI i :: vR (some (sT S 1422 a)) :: st) h Q := p_AI hd ok ha rfl rfl hi hr kk
theorem wl1422 (hd : dc k pc = some (.arraylength, pc')) (ok : Ok S h) (ha : sK S a = 12) (kk : Wp G d k pc' ls (vI 112 :: st) h Q) : Wp G d k pc ls (vR (some (sT S 1422 a)) :: st) h Q := p_len hd ok ha (by decide) rfl (by decide) kk
theorem wa1423 {x i : Int} (hd : dc k pc = some (.iastore, pc')) (ok : Ok S h) (ha : sK S a = 12) (hi : 0 ≤ i ∧ i < 14) (hr : 0 ≤ x ∧ x ≤ 8) (kk : ∀ h', h' = sAI h (sT S 1423 a) i.toNat x → Mo S (fun y => y = sT S 1423 a) h h' → Wp G d k pc' ls st h' Q) : Wp G d k pc ls (vI x :: vI i :: vR (some (sT S 1423 a)) :: st) h Q := p_AI hd ok ha rfl rfl hi hr kk
theorem wl1423 (hd : dc k pc = some (.arraylength, pc')) (ok : Ok S h) (ha : sK S a = 12) (kk : Wp G d k pc' ls (vI 14 :: st) h Q) : Wp G d k pc ls (vR (some (sT S 1423 a)) :: st) h Q := p_len hd ok ha (by decide) rfl (by decide) kk
theorem wa1424 {x i : Int} (hd : dc k pc = some (.iastore, pc')) (ok : Ok S h) (ha : sK S a = 12) (hi : 0 ≤ i ∧ i < 14) (hr : 0 ≤ x ∧ x ≤ 6) (kk : ∀ h', h' = sAI h (sT S 1424 a) i.toNat x → Mo S (fun y => y = sT S 1424 a) h h' → Wp G d k pc' ls st h' Q) : Wp G d k pc ls (vI x :: vI i :: vR (some (sT S 1424 a)) :: st) h Q := p_AI hd ok ha rfl rfl hi hr kk
theorem wl1424 (hd : dc k pc = some (.arraylength, pc')) (ok : Ok S h) (ha : sK S a = 12) (kk : Wp G d k pc' ls (vI 14 :: st) h Q) : Wp G d k pc ls (vR (some (sT S 1424 a)) :: st) h Q := p_len hd ok ha (by decide) rfl (by decide) kk
theorem wa1425 {x i : Int} (hd : dc k pc = some (.bastore, pc')) (ok : Ok S h) (ha : sK S a = 12) (hi : 0 ≤ i ∧ i < 84) (hr : x = 0 ∨ x = 1) (kk : ∀ h', h' = sAI h (sT S 1425 a) i.toNat x → Mo S (fun y => y = sT S 1425 a) h h' → Wp G d k pc' ls st h' Q) : Wp G d k pc ls (vI x :: vI i :: vR (some (sT S 1425 a)) :: st) h Q := p_AZ hd ok ha rfl rfl ⟨rfl, rfl⟩ hi hr kk
theorem wl1425 (hd : dc k pc = some (.arraylength, pc')) (ok : Ok S h) (ha : sK S a = 12) (kk : Wp G d k pc' ls (vI 84 :: st) h Q) : Wp G d k pc ls (vR (some (sT S 1425 a)) :: st) h Q := p_len hd ok ha (by decide) rfl (by decide) kk
theorem wa1426 {x i : Int} (hd : dc k pc = some (.iastore, pc')) (ok : Ok S h) (ha : sK S a = 12) (hi : 0 ≤ i ∧ i < 1008) (hr : 0 ≤ x ∧ x ≤ 255) (kk : ∀ h', h' = sAI h (sT S 1426 a) i.toNat x → Mo S (fun y => y = sT S 1426 a) h h' → Wp G d k pc' ls st h' Q) : Wp G d k pc ls (vI x :: vI i :: vR (some (sT S 1426 a)) :: st) h Q := p_AI hd ok ha rfl rfl hi hr kk
theorem wl1426 (hd : dc k pc = some (.arraylength, pc')) (ok : Ok S h) (ha : sK S a = 12) (kk : Wp G d k pc' ls (vI 1008 :: st) h Q) : Wp G d k pc ls (vR (some (sT S 1426 a)) :: st) h Q := p_len hd ok ha (by decide) rfl (by decide) kk
theorem wa1427 {x i : Int} (hd : dc k pc = some (.iastore, pc')) (ok : Ok S h) (ha : sK S a = 12) (hi : 0 ≤ i ∧ i < 84) (hr : 0 ≤ x ∧ x ≤ 12) (kk : ∀ h', h' = sAI h (sT S 1427 a) i.toNat x → Mo S (fun y => y = sT S 1427 a) h h' → Wp G d k pc' ls st h' Q) : Wp G d k pc ls (vI x :: vI i :: vR (some (sT S 1427 a)) :: st) h Q := p_AI hd ok ha rfl rfl hi hr kk
theorem wl1427 (hd : dc k pc = some (.arraylength, pc')) (ok : Ok S h) (ha : sK S a = 12) (kk : Wp G d k pc' ls (vI 84 :: st) h Q) : Wp G d k pc ls (vR (some (sT S 1427 a)) :: st) h Q := p_len hd ok ha (by decide) rfl (by decide) kk
theorem wa1428 {x i : Int} (hd : dc k pc = some (.iastore, pc')) (ok : Ok S h) (ha : sK S a = 12) (hi : 0 ≤ i ∧ i < 112) (hr : 0 ≤ x ∧ x ≤ 255) (kk : ∀ h', h' = sAI h (sT S 1428 a) i.toNat x → Mo S (fun y => y = sT S 1428 a) h h' → Wp G d k pc' ls st h' Q) : Wp G d k pc ls (vI x :: vI i :: vR (some (sT S 1428 a)) :: st) h Q := p_AI hd ok ha rfl rfl hi hr kk
theorem wl1428 (hd : dc k pc = some (.arraylength, pc')) (ok : Ok S h) (ha : sK S a = 12) (kk : Wp G d k pc' ls (vI 112 :: st) h Q) : Wp G d k pc ls (vR (some (sT S 1428 a)) :: st) h Q := p_len hd ok ha (by decide) rfl (by decide) kk
theorem wa1429 {x i : Int} (hd : dc k pc = some (.iastore, pc')) (ok : Ok S h) (ha : sK S a = 12) (hi : 0 ≤ i ∧ i < 14) (hr : 0 ≤ x ∧ x ≤ 8) (kk : ∀ h', h' = sAI h (sT S 1429 a) i.toNat x → Mo S (fun y => y = sT S 1429 a) h h' → Wp G d k pc' ls st h' Q) : Wp G d k pc ls (vI x :: vI i :: vR (some (sT S 1429 a)) :: st) h Q := p_AI hd ok ha rfl rfl hi hr kk
theorem wl1429 (hd : dc k pc = some (.arraylength, pc')) (ok : Ok S h) (ha : sK S a = 12) (kk : Wp G d k pc' ls (vI 14 :: st) h Q) : Wp G d k pc ls (vR (some (sT S 1429 a)) :: st) h Q := p_len hd ok ha (by decide) rfl (by decide) kk
theorem wa1430 {x i : Int} (hd : dc k pc = some (.iastore, pc')) (ok : Ok S h) (ha : sK S a = 12) (hi : 0 ≤ i ∧ i < 14) (hr : 0 ≤ x ∧ x ≤ 9999) (kk : ∀ h', h' = sAI h (sT S 1430 a) i.toNat x → Mo S (fun y => y = sT S 1430 a) h h' → Wp G d k pc' ls st h' Q) : Wp G d k pc ls (vI x :: vI i :: vR (some (sT S 1430 a)) :: st) h Q := p_AI hd ok ha rfl rfl hi hr kk
theorem wl1430 (hd : dc k pc = some (.arraylength, pc')) (ok : Ok S h) (ha : sK S a = 12) (kk : Wp G d k pc' ls (vI 14 :: st) h Q) : Wp G d k pc ls (vR (some (sT S 1430 a)) :: st) h Q := p_len hd ok ha (by decide) rfl (by decide) kk
theorem wa1536 {x i : Int} (hd : dc k pc = some (.iastore, pc')) (ok : Ok S h) (ha : sK S a = 13) (hi : 0 ≤ i ∧ i < 600) (hr : 0 ≤ x ∧ x ≤ 255) (kk : ∀ h', h' = sAI h (sT S 1536 a) i.toNat x → Mo S (fun y => y = sT S 1536 a) h h' → Wp G d k pc' ls st h' Q) : Wp G d k pc ls (vI x :: vI i :: vR (some (sT S 1536 a)) :: st) h Q := p_AI hd ok ha rfl rfl hi hr kk
theorem wl1536 (hd : dc k pc = some (.arraylength, pc')) (ok : Ok S h) (ha : sK S a = 13) (kk : Wp G d k pc' ls (vI 600 :: st) h Q) : Wp G d k pc ls (vR (some (sT S 1536 a)) :: st) h Q := p_len hd ok ha (by decide) rfl (by decide) kk
theorem wf1537 {x : Int} (hd : dc k pc = some (.putfield 1537, pc')) (ok : Ok S h) (ha : sK S a = 13) (hr : 0 ≤ x ∧ x ≤ 600) (kk : ∀ h', h' = sFI h 1537 a x → Mo S (fun y => y = a) h h' → Wp G d k pc' ls st h' Q) : Wp G d k pc ls (vI x :: vR (some a) :: st) h Q := p_FI (Or.inl hd) ok ha (by decide) hr kk
theorem wa1538 {x i : Int} (hd : dc k pc = some (.iastore, pc')) (ok : Ok S h) (ha : sK S a = 13) (hi : 0 ≤ i ∧ i < 600) (hr : 0 ≤ x ∧ x ≤ 255) (kk : ∀ h', h' = sAI h (sT S 1538 a) i.toNat x → Mo S (fun y => y = sT S 1538 a) h h' → Wp G d k pc' ls st h' Q) : Wp G d k pc ls (vI x :: vI i :: vR (some (sT S 1538 a)) :: st) h Q := p_AI hd ok ha rfl rfl hi hr kk
theorem wl1538 (hd : dc k pc = some (.arraylength, pc')) (ok : Ok S h) (ha : sK S a = 13) (kk : Wp G d k pc' ls (vI 600 :: st) h Q) : Wp G d k pc ls (vR (some (sT S 1538 a)) :: st) h Q := p_len hd ok ha (by decide) rfl (by decide) kk
theorem wf1539 {x : Int} (hd : dc k pc = some (.putfield 1539, pc')) (ok : Ok S h) (ha : sK S a = 13) (hr : 0 ≤ x ∧ x ≤ 600) (kk : ∀ h', h' = sFI h 1539 a x → Mo S (fun y => y = a) h h' → Wp G d k pc' ls st h' Q) : Wp G d k pc ls (vI x :: vR (some a) :: st) h Q := p_FI (Or.inl hd) ok ha (by decide) hr kk
theorem wa1540 {x i : Int} (hd : dc k pc = some (.iastore, pc')) (ok : Ok S h) (ha : sK S a = 13) (hi : 0 ≤ i ∧ i < 40) (hr : 0 ≤ x ∧ x ≤ 255) (kk : ∀ h', h' = sAI h (sT S 1540 a) i.toNat x → Mo S (fun y => y = sT S 1540 a) h h' → Wp G d k pc' ls st h' Q) : Wp G d k pc ls (vI x :: vI i :: vR (some (sT S 1540 a)) :: st) h Q := p_AI hd ok ha rfl rfl hi hr kk
theorem wl1540 (hd : dc k pc = some (.arraylength, pc')) (ok : Ok S h) (ha : sK S a = 13) (kk : Wp G d k pc' ls (vI 40 :: st) h Q) : Wp G d k pc ls (vR (some (sT S 1540 a)) :: st) h Q := p_len hd ok ha (by decide) rfl (by decide) kk
theorem wf1541 {x : Int} (hd : dc k pc = some (.putfield 1541, pc')) (ok : Ok S h) (ha : sK S a = 13) (hr : 0 ≤ x ∧ x ≤ 40) (kk : ∀ h', h' = sFI h 1541 a x → Mo S (fun y => y = a) h h' → Wp G d k pc' ls st h' Q) : Wp G d k pc ls (vI x :: vR (some a) :: st) h Q := p_FI (Or.inl hd) ok ha (by decide) hr kk
theorem wa1666 {x i : Int} (hd : dc k pc = some (.bastore, pc')) (ok : Ok S h) (ha : sK S a = 14) (hi : 0 ≤ i ∧ i < 14) (hr : x = 0 ∨ x = 1) (kk : ∀ h', h' = sAI h (sT S 1666 a) i.toNat x → Mo S (fun y => y = sT S 1666 a) h h' → Wp G d k pc' ls st h' Q) : Wp G d k pc ls (vI x :: vI i :: vR (some (sT S 1666 a)) :: st) h Q := p_AZ hd ok ha rfl rfl ⟨rfl, rfl⟩ hi hr kk
theorem wl1666 (hd : dc k pc = some (.arraylength, pc')) (ok : Ok S h) (ha : sK S a = 14) (kk : Wp G d k pc' ls (vI 14 :: st) h Q) : Wp G d k pc ls (vR (some (sT S 1666 a)) :: st) h Q := p_len hd ok ha (by decide) rfl (by decide) kk
theorem wl1667 (hd : dc k pc = some (.arraylength, pc')) (ok : Ok S h) (ha : sK S a = 14) (kk : Wp G d k pc' ls (vI 14 :: st) h Q) : Wp G d k pc ls (vR (some (sT S 1667 a)) :: st) h Q := p_len hd ok ha (by decide) rfl (by decide) kk
theorem wl1668 (hd : dc k pc = some (.arraylength, pc')) (ok : Ok S h) (ha : sK S a = 14) (kk : Wp G d k pc' ls (vI 14 :: st) h Q) : Wp G d k pc ls (vR (some (sT S 1668 a)) :: st) h Q := p_len hd ok ha (by decide) rfl (by decide) kk
theorem wl1669 (hd : dc k pc = some (.arraylength, pc')) (ok : Ok S h) (ha : sK S a = 14) (kk : Wp G d k pc' ls (vI 14 :: st) h Q) : Wp G d k pc ls (vR (some (sT S 1669 a)) :: st) h Q := p_len hd ok ha (by decide) rfl (by decide) kk
theorem wa1670 {x : Int64} {i : Int} (hd : dc k pc = some (.lastore, pc')) (ok : Ok S h) (ha : sK S a = 14) (hi : 0 ≤ i ∧ i < 98) (kk : ∀ h', h' = sAL h (sT S 1670 a) i.toNat x → Mo S (fun y => y = sT S 1670 a) h h' → Wp G d k pc' ls st h' Q) : Wp G d k pc ls (vJ x :: vI i :: vR (some (sT S 1670 a)) :: st) h Q := p_AL hd ok ha rfl rfl hi kk
theorem wl1670 (hd : dc k pc = some (.arraylength, pc')) (ok : Ok S h) (ha : sK S a = 14) (kk : Wp G d k pc' ls (vI 98 :: st) h Q) : Wp G d k pc ls (vR (some (sT S 1670 a)) :: st) h Q := p_len hd ok ha (by decide) rfl (by decide) kk
theorem wa1671 {x i : Int} (hd : dc k pc = some (.iastore, pc')) (ok : Ok S h) (ha : sK S a = 14) (hi : 0 ≤ i ∧ i < 14) (hr : 0 ≤ x ∧ x ≤ 7) (kk : ∀ h', h' = sAI h (sT S 1671 a) i.toNat x → Mo S (fun y => y = sT S 1671 a) h h' → Wp G d k pc' ls st h' Q) : Wp G d k pc ls (vI x :: vI i :: vR (some (sT S 1671 a)) :: st) h Q := p_AI hd ok ha rfl rfl hi hr kk
theorem wl1671 (hd : dc k pc = some (.arraylength, pc')) (ok : Ok S h) (ha : sK S a = 14) (kk : Wp G d k pc' ls (vI 14 :: st) h Q) : Wp G d k pc ls (vR (some (sT S 1671 a)) :: st) h Q := p_len hd ok ha (by decide) rfl (by decide) kk
theorem wa1672 {x i : Int} (hd : dc k pc = some (.iastore, pc')) (ok : Ok S h) (ha : sK S a = 14) (hi : 0 ≤ i ∧ i < 14) (hr : 0 ≤ x ∧ x ≤ 5) (kk : ∀ h', h' = sAI h (sT S 1672 a) i.toNat x → Mo S (fun y => y = sT S 1672 a) h h' → Wp G d k pc' ls st h' Q) : Wp G d k pc ls (vI x :: vI i :: vR (some (sT S 1672 a)) :: st) h Q := p_AI hd ok ha rfl rfl hi hr kk
theorem wl1672 (hd : dc k pc = some (.arraylength, pc')) (ok : Ok S h) (ha : sK S a = 14) (kk : Wp G d k pc' ls (vI 14 :: st) h Q) : Wp G d k pc ls (vR (some (sT S 1672 a)) :: st) h Q := p_len hd ok ha (by decide) rfl (by decide) kk
theorem wa1673 {x i : Int} (hd : dc k pc = some (.iastore, pc')) (ok : Ok S h) (ha : sK S a = 14) (hi : 0 ≤ i ∧ i < 14) (hr : 0 ≤ x ∧ x ≤ 6) (kk : ∀ h', h' = sAI h (sT S 1673 a) i.toNat x → Mo S (fun y => y = sT S 1673 a) h h' → Wp G d k pc' ls st h' Q) : Wp G d k pc ls (vI x :: vI i :: vR (some (sT S 1673 a)) :: st) h Q := p_AI hd ok ha rfl rfl hi hr kk
theorem wl1673 (hd : dc k pc = some (.arraylength, pc')) (ok : Ok S h) (ha : sK S a = 14) (kk : Wp G d k pc' ls (vI 14 :: st) h Q) : Wp G d k pc ls (vR (some (sT S 1673 a)) :: st) h Q := p_len hd ok ha (by decide) rfl (by decide) kk
theorem wa1674 {x i : Int} (hd : dc k pc = some (.bastore, pc')) (ok : Ok S h) (ha : sK S a = 14) (hi : 0 ≤ i ∧ i < 14) (hr : x = 0 ∨ x = 1) (kk : ∀ h', h' = sAI h (sT S 1674 a) i.toNat x → Mo S (fun y => y = sT S 1674 a) h h' → Wp G d k pc' ls st h' Q) : Wp G d k pc ls (vI x :: vI i :: vR (some (sT S 1674 a)) :: st) h Q := p_AZ hd ok ha rfl rfl ⟨rfl, rfl⟩ hi hr kk
theorem wl1674 (hd : dc k pc = some (.arraylength, pc')) (ok : Ok S h) (ha : sK S a = 14) (kk : Wp G d k pc' ls (vI 14 :: st) h Q) : Wp G d k pc ls (vR (some (sT S 1674 a)) :: st) h Q := p_len hd ok ha (by decide) rfl (by decide) kk
theorem wl1675 (hd : dc k pc = some (.arraylength, pc')) (ok : Ok S h) (ha : sK S a = 14) (kk : Wp G d k pc' ls (vI 14 :: st) h Q) : Wp G d k pc ls (vR (some (sT S 1675 a)) :: st) h Q := p_len hd ok ha (by decide) rfl (by decide) kk
theorem wa1676 {x i : Int} (hd : dc k pc = some (.iastore, pc')) (ok : Ok S h) (ha : sK S a = 14) (hi : 0 ≤ i ∧ i < 42) (hr : 0 ≤ x ∧ x ≤ 2147483647) (kk : ∀ h', h' = sAI h (sT S 1676 a) i.toNat x → Mo S (fun y => y = sT S 1676 a) h h' → Wp G d k pc' ls st h' Q) : Wp G d k pc ls (vI x :: vI i :: vR (some (sT S 1676 a)) :: st) h Q := p_AI hd ok ha rfl rfl hi hr kk
theorem wl1676 (hd : dc k pc = some (.arraylength, pc')) (ok : Ok S h) (ha : sK S a = 14) (kk : Wp G d k pc' ls (vI 42 :: st) h Q) : Wp G d k pc ls (vR (some (sT S 1676 a)) :: st) h Q := p_len hd ok ha (by decide) rfl (by decide) kk
theorem wf1677 {x : Int64} (hd : dc k pc = some (.fstore 1677, pc')) (ok : Ok S h) (ha : sK S a = 14) (kk : ∀ h', h' = sFL h 1677 a x → Mo S (fun y => y = a) h h' → Wp G d k pc' ls st h' Q) : Wp G d k pc ls (vJ x :: vR (some a) :: st) h Q := p_FL hd ok ha (by decide) kk
theorem wa1678 {x : Int64} {i : Int} (hd : dc k pc = some (.lastore, pc')) (ok : Ok S h) (ha : sK S a = 14) (hi : 0 ≤ i ∧ i < 7) (kk : ∀ h', h' = sAL h (sT S 1678 a) i.toNat x → Mo S (fun y => y = sT S 1678 a) h h' → Wp G d k pc' ls st h' Q) : Wp G d k pc ls (vJ x :: vI i :: vR (some (sT S 1678 a)) :: st) h Q := p_AL hd ok ha rfl rfl hi kk
theorem wl1678 (hd : dc k pc = some (.arraylength, pc')) (ok : Ok S h) (ha : sK S a = 14) (kk : Wp G d k pc' ls (vI 7 :: st) h Q) : Wp G d k pc ls (vR (some (sT S 1678 a)) :: st) h Q := p_len hd ok ha (by decide) rfl (by decide) kk
theorem wf1679 {x : Int} (hd : dc k pc = some (.putfield 1679, pc')) (ok : Ok S h) (ha : sK S a = 14) (hr : 0 ≤ x ∧ x ≤ 7) (kk : ∀ h', h' = sFI h 1679 a x → Mo S (fun y => y = a) h h' → Wp G d k pc' ls st h' Q) : Wp G d k pc ls (vI x :: vR (some a) :: st) h Q := p_FI (Or.inl hd) ok ha (by decide) hr kk
theorem wf1680 {x : Int64} (hd : dc k pc = some (.fstore 1680, pc')) (ok : Ok S h) (ha : sK S a = 14) (kk : ∀ h', h' = sFL h 1680 a x → Mo S (fun y => y = a) h h' → Wp G d k pc' ls st h' Q) : Wp G d k pc ls (vJ x :: vR (some a) :: st) h Q := p_FL hd ok ha (by decide) kk
theorem wa1681 {x i : Int} (hd : dc k pc = some (.iastore, pc')) (ok : Ok S h) (ha : sK S a = 14) (hi : 0 ≤ i ∧ i < 3600) (hr : 0 ≤ x ∧ x ≤ 255) (kk : ∀ h', h' = sAI h (sT S 1681 a) i.toNat x → Mo S (fun y => y = sT S 1681 a) h h' → Wp G d k pc' ls st h' Q) : Wp G d k pc ls (vI x :: vI i :: vR (some (sT S 1681 a)) :: st) h Q := p_AI hd ok ha rfl rfl hi hr kk
theorem wl1681 (hd : dc k pc = some (.arraylength, pc')) (ok : Ok S h) (ha : sK S a = 14) (kk : Wp G d k pc' ls (vI 3600 :: st) h Q) : Wp G d k pc ls (vR (some (sT S 1681 a)) :: st) h Q := p_len hd ok ha (by decide) rfl (by decide) kk
theorem wf1682 {x : Int} (hd : dc k pc = some (.putfield 1682, pc')) (ok : Ok S h) (ha : sK S a = 14) (hr : 0 ≤ x ∧ x ≤ 3600) (kk : ∀ h', h' = sFI h 1682 a x → Mo S (fun y => y = a) h h' → Wp G d k pc' ls st h' Q) : Wp G d k pc ls (vI x :: vR (some a) :: st) h Q := p_FI (Or.inl hd) ok ha (by decide) hr kk
theorem wa1684 {x i : Int} (hd : dc k pc = some (.iastore, pc')) (ok : Ok S h) (ha : sK S a = 14) (hi : 0 ≤ i ∧ i < 7) (hr : 0 ≤ x ∧ x ≤ 3600) (kk : ∀ h', h' = sAI h (sT S 1684 a) i.toNat x → Mo S (fun y => y = sT S 1684 a) h h' → Wp G d k pc' ls st h' Q) : Wp G d k pc ls (vI x :: vI i :: vR (some (sT S 1684 a)) :: st) h Q := p_AI hd ok ha rfl rfl hi hr kk
theorem wl1684 (hd : dc k pc = some (.arraylength, pc')) (ok : Ok S h) (ha : sK S a = 14) (kk : Wp G d k pc' ls (vI 7 :: st) h Q) : Wp G d k pc ls (vR (some (sT S 1684 a)) :: st) h Q := p_len hd ok ha (by decide) rfl (by decide) kk
theorem wf1685 {x : Int} (hd : dc k pc = some (.putstatic 1685, pc')) (ok : Ok S h) (ha : sK S a = 14) (hr : x = 0 ∨ x = 1) (kk : ∀ h', h' = sFI h 1685 a x → Mo S (fun y => y = a) h h' → Wp G d k pc' ls st h' Q) : Wp G d k pc ls (vI x :: vR (some a) :: st) h Q := p_FI (Or.inr ⟨hd, hr⟩) ok ha (by decide) (show (0 : Int) ≤ x ∧ x ≤ (1 : Int) by omega) kk
theorem wa1686 {x i : Int} (hd : dc k pc = some (.iastore, pc')) (ok : Ok S h) (ha : sK S a = 14) (hi : 0 ≤ i ∧ i < 3601) (hr : 0 ≤ x ∧ x ≤ 3600) (kk : ∀ h', h' = sAI h (sT S 1686 a) i.toNat x → Mo S (fun y => y = sT S 1686 a) h h' → Wp G d k pc' ls st h' Q) : Wp G d k pc ls (vI x :: vI i :: vR (some (sT S 1686 a)) :: st) h Q := p_AI hd ok ha rfl rfl hi hr kk
theorem wl1686 (hd : dc k pc = some (.arraylength, pc')) (ok : Ok S h) (ha : sK S a = 14) (kk : Wp G d k pc' ls (vI 3601 :: st) h Q) : Wp G d k pc ls (vR (some (sT S 1686 a)) :: st) h Q := p_len hd ok ha (by decide) rfl (by decide) kk
theorem wa1687 {x i : Int} (hd : dc k pc = some (.iastore, pc')) (ok : Ok S h) (ha : sK S a = 14) (hi : 0 ≤ i ∧ i < 3601) (hr : 0 ≤ x ∧ x ≤ 3600) (kk : ∀ h', h' = sAI h (sT S 1687 a) i.toNat x → Mo S (fun y => y = sT S 1687 a) h h' → Wp G d k pc' ls st h' Q) : Wp G d k pc ls (vI x :: vI i :: vR (some (sT S 1687 a)) :: st) h Q := p_AI hd ok ha rfl rfl hi hr kk
theorem wl1687 (hd : dc k pc = some (.arraylength, pc')) (ok : Ok S h) (ha : sK S a = 14) (kk : Wp G d k pc' ls (vI 3601 :: st) h Q) : Wp G d k pc ls (vR (some (sT S 1687 a)) :: st) h Q := p_len hd ok ha (by decide) rfl (by decide) kk
theorem wf1688 {x : Int} (hd : dc k pc = some (.putfield 1688, pc')) (ok : Ok S h) (ha : sK S a = 14) (hr : 0 ≤ x ∧ x ≤ 3601) (kk : ∀ h', h' = sFI h 1688 a x → Mo S (fun y => y = a) h h' → Wp G d k pc' ls st h' Q) : Wp G d k pc ls (vI x :: vR (some a) :: st) h Q := p_FI (Or.inl hd) ok ha (by decide) hr kk
theorem wa1689 {x i : Int} (hd : dc k pc = some (.iastore, pc')) (ok : Ok S h) (ha : sK S a = 14) (hi : 0 ≤ i ∧ i < 1300) (hr : 0 ≤ x ∧ x ≤ 3600) (kk : ∀ h', h' = sAI h (sT S 1689 a) i.toNat x → Mo S (fun y => y = sT S 1689 a) h h' → Wp G d k pc' ls st h' Q) : Wp G d k pc ls (vI x :: vI i :: vR (some (sT S 1689 a)) :: st) h Q := p_AI hd ok ha rfl rfl hi hr kk
theorem wl1689 (hd : dc k pc = some (.arraylength, pc')) (ok : Ok S h) (ha : sK S a = 14) (kk : Wp G d k pc' ls (vI 1300 :: st) h Q) : Wp G d k pc ls (vR (some (sT S 1689 a)) :: st) h Q := p_len hd ok ha (by decide) rfl (by decide) kk
theorem wa1690 {x i : Int} (hd : dc k pc = some (.iastore, pc')) (ok : Ok S h) (ha : sK S a = 14) (hi : 0 ≤ i ∧ i < 1300) (hr : 0 ≤ x ∧ x ≤ 3600) (kk : ∀ h', h' = sAI h (sT S 1690 a) i.toNat x → Mo S (fun y => y = sT S 1690 a) h h' → Wp G d k pc' ls st h' Q) : Wp G d k pc ls (vI x :: vI i :: vR (some (sT S 1690 a)) :: st) h Q := p_AI hd ok ha rfl rfl hi hr kk
theorem wl1690 (hd : dc k pc = some (.arraylength, pc')) (ok : Ok S h) (ha : sK S a = 14) (kk : Wp G d k pc' ls (vI 1300 :: st) h Q) : Wp G d k pc ls (vR (some (sT S 1690 a)) :: st) h Q := p_len hd ok ha (by decide) rfl (by decide) kk
theorem wa1691 {x i : Int} (hd : dc k pc = some (.iastore, pc')) (ok : Ok S h) (ha : sK S a = 14) (hi : 0 ≤ i ∧ i < 1300) (hr : 0 ≤ x ∧ x ≤ 9999) (kk : ∀ h', h' = sAI h (sT S 1691 a) i.toNat x → Mo S (fun y => y = sT S 1691 a) h h' → Wp G d k pc' ls st h' Q) : Wp G d k pc ls (vI x :: vI i :: vR (some (sT S 1691 a)) :: st) h Q := p_AI hd ok ha rfl rfl hi hr kk
theorem wl1691 (hd : dc k pc = some (.arraylength, pc')) (ok : Ok S h) (ha : sK S a = 14) (kk : Wp G d k pc' ls (vI 1300 :: st) h Q) : Wp G d k pc ls (vR (some (sT S 1691 a)) :: st) h Q := p_len hd ok ha (by decide) rfl (by decide) kk
theorem wa1692 {x i : Int} (hd : dc k pc = some (.bastore, pc')) (ok : Ok S h) (ha : sK S a = 14) (hi : 0 ≤ i ∧ i < 1300) (hr : x = 0 ∨ x = 1) (kk : ∀ h', h' = sAI h (sT S 1692 a) i.toNat x → Mo S (fun y => y = sT S 1692 a) h h' → Wp G d k pc' ls st h' Q) : Wp G d k pc ls (vI x :: vI i :: vR (some (sT S 1692 a)) :: st) h Q := p_AZ hd ok ha rfl rfl ⟨rfl, rfl⟩ hi hr kk
theorem wl1692 (hd : dc k pc = some (.arraylength, pc')) (ok : Ok S h) (ha : sK S a = 14) (kk : Wp G d k pc' ls (vI 1300 :: st) h Q) : Wp G d k pc ls (vR (some (sT S 1692 a)) :: st) h Q := p_len hd ok ha (by decide) rfl (by decide) kk
theorem wf1693 {x : Int} (hd : dc k pc = some (.putfield 1693, pc')) (ok : Ok S h) (ha : sK S a = 14) (hr : 0 ≤ x ∧ x ≤ 1300) (kk : ∀ h', h' = sFI h 1693 a x → Mo S (fun y => y = a) h h' → Wp G d k pc' ls st h' Q) : Wp G d k pc ls (vI x :: vR (some a) :: st) h Q := p_FI (Or.inl hd) ok ha (by decide) hr kk
theorem wa1694 {x i : Int} (hd : dc k pc = some (.iastore, pc')) (ok : Ok S h) (ha : sK S a = 14) (hi : 0 ≤ i ∧ i < 1300) (hr : 0 ≤ x ∧ x ≤ 3600) (kk : ∀ h', h' = sAI h (sT S 1694 a) i.toNat x → Mo S (fun y => y = sT S 1694 a) h h' → Wp G d k pc' ls st h' Q) : Wp G d k pc ls (vI x :: vI i :: vR (some (sT S 1694 a)) :: st) h Q := p_AI hd ok ha rfl rfl hi hr kk
theorem wl1694 (hd : dc k pc = some (.arraylength, pc')) (ok : Ok S h) (ha : sK S a = 14) (kk : Wp G d k pc' ls (vI 1300 :: st) h Q) : Wp G d k pc ls (vR (some (sT S 1694 a)) :: st) h Q := p_len hd ok ha (by decide) rfl (by decide) kk
theorem wa1695 {x i : Int} (hd : dc k pc = some (.iastore, pc')) (ok : Ok S h) (ha : sK S a = 14) (hi : 0 ≤ i ∧ i < 1300) (hr : 0 ≤ x ∧ x ≤ 3600) (kk : ∀ h', h' = sAI h (sT S 1695 a) i.toNat x → Mo S (fun y => y = sT S 1695 a) h h' → Wp G d k pc' ls st h' Q) : Wp G d k pc ls (vI x :: vI i :: vR (some (sT S 1695 a)) :: st) h Q := p_AI hd ok ha rfl rfl hi hr kk
theorem wl1695 (hd : dc k pc = some (.arraylength, pc')) (ok : Ok S h) (ha : sK S a = 14) (kk : Wp G d k pc' ls (vI 1300 :: st) h Q) : Wp G d k pc ls (vR (some (sT S 1695 a)) :: st) h Q := p_len hd ok ha (by decide) rfl (by decide) kk
theorem wa1696 {x i : Int} (hd : dc k pc = some (.iastore, pc')) (ok : Ok S h) (ha : sK S a = 14) (hi : 0 ≤ i ∧ i < 1300) (hr : 0 ≤ x ∧ x ≤ 9999) (kk : ∀ h', h' = sAI h (sT S 1696 a) i.toNat x → Mo S (fun y => y = sT S 1696 a) h h' → Wp G d k pc' ls st h' Q) : Wp G d k pc ls (vI x :: vI i :: vR (some (sT S 1696 a)) :: st) h Q := p_AI hd ok ha rfl rfl hi hr kk
theorem wl1696 (hd : dc k pc = some (.arraylength, pc')) (ok : Ok S h) (ha : sK S a = 14) (kk : Wp G d k pc' ls (vI 1300 :: st) h Q) : Wp G d k pc ls (vR (some (sT S 1696 a)) :: st) h Q := p_len hd ok ha (by decide) rfl (by decide) kk
theorem wf1697 {x : Int} (hd : dc k pc = some (.putfield 1697, pc')) (ok : Ok S h) (ha : sK S a = 14) (hr : 0 ≤ x ∧ x ≤ 1300) (kk : ∀ h', h' = sFI h 1697 a x → Mo S (fun y => y = a) h h' → Wp G d k pc' ls st h' Q) : Wp G d k pc ls (vI x :: vR (some a) :: st) h Q := p_FI (Or.inl hd) ok ha (by decide) hr kk
theorem wf1698 {x : Int} (hd : dc k pc = some (.putfield 1698, pc')) (ok : Ok S h) (ha : sK S a = 14) (hr : 0 ≤ x ∧ x ≤ 3700) (kk : ∀ h', h' = sFI h 1698 a x → Mo S (fun y => y = a) h h' → Wp G d k pc' ls st h' Q) : Wp G d k pc ls (vI x :: vR (some a) :: st) h Q := p_FI (Or.inl hd) ok ha (by decide) hr kk
theorem wf1699 {x : Int} (hd : dc k pc = some (.putfield 1699, pc')) (ok : Ok S h) (ha : sK S a = 14) (hr : 0 ≤ x ∧ x ≤ 3600) (kk : ∀ h', h' = sFI h 1699 a x → Mo S (fun y => y = a) h h' → Wp G d k pc' ls st h' Q) : Wp G d k pc ls (vI x :: vR (some a) :: st) h Q := p_FI (Or.inl hd) ok ha (by decide) hr kk
theorem wf1700 {x : Int} (hd : dc k pc = some (.putstatic 1700, pc')) (ok : Ok S h) (ha : sK S a = 14) (hr : x = 0 ∨ x = 1) (kk : ∀ h', h' = sFI h 1700 a x → Mo S (fun y => y = a) h h' → Wp G d k pc' ls st h' Q) : Wp G d k pc ls (vI x :: vR (some a) :: st) h Q := p_FI (Or.inr ⟨hd, hr⟩) ok ha (by decide) (show (0 : Int) ≤ x ∧ x ≤ (1 : Int) by omega) kk
theorem wf1701 {x : Int} (hd : dc k pc = some (.putfield 1701, pc')) (ok : Ok S h) (ha : sK S a = 14) (hr : 0 ≤ x ∧ x ≤ 24) (kk : ∀ h', h' = sFI h 1701 a x → Mo S (fun y => y = a) h h' → Wp G d k pc' ls st h' Q) : Wp G d k pc ls (vI x :: vR (some a) :: st) h Q := p_FI (Or.inl hd) ok ha (by decide) hr kk
theorem wa1702 {x : Int64} {i : Int} (hd : dc k pc = some (.lastore, pc')) (ok : Ok S h) (ha : sK S a = 14) (hi : 0 ≤ i ∧ i < 24) (kk : ∀ h', h' = sAL h (sT S 1702 a) i.toNat x → Mo S (fun y => y = sT S 1702 a) h h' → Wp G d k pc' ls st h' Q) : Wp G d k pc ls (vJ x :: vI i :: vR (some (sT S 1702 a)) :: st) h Q := p_AL hd ok ha rfl rfl hi kk
theorem wl1702 (hd : dc k pc = some (.arraylength, pc')) (ok : Ok S h) (ha : sK S a = 14) (kk : Wp G d k pc' ls (vI 24 :: st) h Q) : Wp G d k pc ls (vR (some (sT S 1702 a)) :: st) h Q := p_len hd ok ha (by decide) rfl (by decide) kk
theorem wl1703 (hd : dc k pc = some (.arraylength, pc')) (ok : Ok S h) (ha : sK S a = 14) (kk : Wp G d k pc' ls (vI 24 :: st) h Q) : Wp G d k pc ls (vR (some (sT S 1703 a)) :: st) h Q := p_len hd ok ha (by decide) rfl (by decide) kk
theorem wf1704 {x : Int} (hd : dc k pc = some (.putstatic 1704, pc')) (ok : Ok S h) (ha : sK S a = 14) (hr : x = 0 ∨ x = 1) (kk : ∀ h', h' = sFI h 1704 a x → Mo S (fun y => y = a) h h' → Wp G d k pc' ls st h' Q) : Wp G d k pc ls (vI x :: vR (some a) :: st) h Q := p_FI (Or.inr ⟨hd, hr⟩) ok ha (by decide) (show (0 : Int) ≤ x ∧ x ≤ (1 : Int) by omega) kk
theorem wf1705 {x : Int} (hd : dc k pc = some (.putfield 1705, pc')) (ok : Ok S h) (ha : sK S a = 14) (hr : 0 ≤ x ∧ x ≤ 16383) (kk : ∀ h', h' = sFI h 1705 a x → Mo S (fun y => y = a) h h' → Wp G d k pc' ls st h' Q) : Wp G d k pc ls (vI x :: vR (some a) :: st) h Q := p_FI (Or.inl hd) ok ha (by decide) hr kk
theorem wf1706 {x : Int} (hd : dc k pc = some (.putfield 1706, pc')) (ok : Ok S h) (ha : sK S a = 14) (hr : 0 ≤ x ∧ x ≤ 2147483647) (kk : ∀ h', h' = sFI h 1706 a x → Mo S (fun y => y = a) h h' → Wp G d k pc' ls st h' Q) : Wp G d k pc ls (vI x :: vR (some a) :: st) h Q := p_FI (Or.inl hd) ok ha (by decide) hr kk
theorem wa1707 {x i : Int} (hd : dc k pc = some (.iastore, pc')) (ok : Ok S h) (ha : sK S a = 14) (hi : 0 ≤ i ∧ i < 14) (hr : 0 ≤ x ∧ x ≤ 2) (kk : ∀ h', h' = sAI h (sT S 1707 a) i.toNat x → Mo S (fun y => y = sT S 1707 a) h h' → Wp G d k pc' ls st h' Q) : Wp G d k pc ls (vI x :: vI i :: vR (some (sT S 1707 a)) :: st) h Q := p_AI hd ok ha rfl rfl hi hr kk
theorem wl1707 (hd : dc k pc = some (.arraylength, pc')) (ok : Ok S h) (ha : sK S a = 14) (kk : Wp G d k pc' ls (vI 14 :: st) h Q) : Wp G d k pc ls (vR (some (sT S 1707 a)) :: st) h Q := p_len hd ok ha (by decide) rfl (by decide) kk
theorem wa1708 {x i : Int} (hd : dc k pc = some (.iastore, pc')) (ok : Ok S h) (ha : sK S a = 14) (hi : 0 ≤ i ∧ i < 14) (hr : 0 ≤ x ∧ x ≤ 13) (kk : ∀ h', h' = sAI h (sT S 1708 a) i.toNat x → Mo S (fun y => y = sT S 1708 a) h h' → Wp G d k pc' ls st h' Q) : Wp G d k pc ls (vI x :: vI i :: vR (some (sT S 1708 a)) :: st) h Q := p_AI hd ok ha rfl rfl hi hr kk
theorem wl1708 (hd : dc k pc = some (.arraylength, pc')) (ok : Ok S h) (ha : sK S a = 14) (kk : Wp G d k pc' ls (vI 14 :: st) h Q) : Wp G d k pc ls (vR (some (sT S 1708 a)) :: st) h Q := p_len hd ok ha (by decide) rfl (by decide) kk
theorem wf1709 {x : Int} (hd : dc k pc = some (.putfield 1709, pc')) (ok : Ok S h) (ha : sK S a = 14) (hr : 0 ≤ x ∧ x ≤ 14) (kk : ∀ h', h' = sFI h 1709 a x → Mo S (fun y => y = a) h h' → Wp G d k pc' ls st h' Q) : Wp G d k pc ls (vI x :: vR (some a) :: st) h Q := p_FI (Or.inl hd) ok ha (by decide) hr kk
theorem wf1710 {x : Int} (hd : dc k pc = some (.putfield 1710, pc')) (ok : Ok S h) (ha : sK S a = 14) (hr : 0 ≤ x ∧ x ≤ 2147483647) (kk : ∀ h', h' = sFI h 1710 a x → Mo S (fun y => y = a) h h' → Wp G d k pc' ls st h' Q) : Wp G d k pc ls (vI x :: vR (some a) :: st) h Q := p_FI (Or.inl hd) ok ha (by decide) hr kk
theorem wf1711 {x : Int} (hd : dc k pc = some (.putfield 1711, pc')) (ok : Ok S h) (ha : sK S a = 14) (hr : 0 ≤ x ∧ x ≤ 2147483647) (kk : ∀ h', h' = sFI h 1711 a x → Mo S (fun y => y = a) h h' → Wp G d k pc' ls st h' Q) : Wp G d k pc ls (vI x :: vR (some a) :: st) h Q := p_FI (Or.inl hd) ok ha (by decide) hr kk
theorem wf1712 {x : Int} (hd : dc k pc = some (.putfield 1712, pc')) (ok : Ok S h) (ha : sK S a = 14) (hr : 0 ≤ x ∧ x ≤ 2147483647) (kk : ∀ h', h' = sFI h 1712 a x → Mo S (fun y => y = a) h h' → Wp G d k pc' ls st h' Q) : Wp G d k pc ls (vI x :: vR (some a) :: st) h Q := p_FI (Or.inl hd) ok ha (by decide) hr kk
theorem wa1713 {x i : Int} (hd : dc k pc = some (.iastore, pc')) (ok : Ok S h) (ha : sK S a = 14) (hi : 0 ≤ i ∧ i < 2) (hr : (-1) ≤ x ∧ x ≤ 13) (kk : ∀ h', h' = sAI h (sT S 1713 a) i.toNat x → Mo S (fun y => y = sT S 1713 a) h h' → Wp G d k pc' ls st h' Q) : Wp G d k pc ls (vI x :: vI i :: vR (some (sT S 1713 a)) :: st) h Q := p_AI hd ok ha rfl rfl hi hr kk
theorem wl1713 (hd : dc k pc = some (.arraylength, pc')) (ok : Ok S h) (ha : sK S a = 14) (kk : Wp G d k pc' ls (vI 2 :: st) h Q) : Wp G d k pc ls (vR (some (sT S 1713 a)) :: st) h Q := p_len hd ok ha (by decide) rfl (by decide) kk
theorem wa1714 {x i : Int} (hd : dc k pc = some (.iastore, pc')) (ok : Ok S h) (ha : sK S a = 14) (hi : 0 ≤ i ∧ i < 2) (hr : (-10) ≤ x ∧ x ≤ 1000) (kk : ∀ h', h' = sAI h (sT S 1714 a) i.toNat x → Mo S (fun y => y = sT S 1714 a) h h' → Wp G d k pc' ls st h' Q) : Wp G d k pc ls (vI x :: vI i :: vR (some (sT S 1714 a)) :: st) h Q := p_AI hd ok ha rfl rfl hi hr kk
theorem wl1714 (hd : dc k pc = some (.arraylength, pc')) (ok : Ok S h) (ha : sK S a = 14) (kk : Wp G d k pc' ls (vI 2 :: st) h Q) : Wp G d k pc ls (vR (some (sT S 1714 a)) :: st) h Q := p_len hd ok ha (by decide) rfl (by decide) kk
theorem wa1715 {x i : Int} (hd : dc k pc = some (.iastore, pc')) (ok : Ok S h) (ha : sK S a = 14) (hi : 0 ≤ i ∧ i < 2) (hr : 0 ≤ x ∧ x ≤ 2) (kk : ∀ h', h' = sAI h (sT S 1715 a) i.toNat x → Mo S (fun y => y = sT S 1715 a) h h' → Wp G d k pc' ls st h' Q) : Wp G d k pc ls (vI x :: vI i :: vR (some (sT S 1715 a)) :: st) h Q := p_AI hd ok ha rfl rfl hi hr kk
theorem wl1715 (hd : dc k pc = some (.arraylength, pc')) (ok : Ok S h) (ha : sK S a = 14) (kk : Wp G d k pc' ls (vI 2 :: st) h Q) : Wp G d k pc ls (vR (some (sT S 1715 a)) :: st) h Q := p_len hd ok ha (by decide) rfl (by decide) kk
theorem wl1716 (hd : dc k pc = some (.arraylength, pc')) (ok : Ok S h) (ha : sK S a = 14) (kk : Wp G d k pc' ls (vI 2 :: st) h Q) : Wp G d k pc ls (vR (some (sT S 1716 a)) :: st) h Q := p_len hd ok ha (by decide) rfl (by decide) kk
theorem wa1717 {x : Int64} {i : Int} (hd : dc k pc = some (.lastore, pc')) (ok : Ok S h) (ha : sK S a = 14) (hi : 0 ≤ i ∧ i < 2) (kk : ∀ h', h' = sAL h (sT S 1717 a) i.toNat x → Mo S (fun y => y = sT S 1717 a) h h' → Wp G d k pc' ls st h' Q) : Wp G d k pc ls (vJ x :: vI i :: vR (some (sT S 1717 a)) :: st) h Q := p_AL hd ok ha rfl rfl hi kk
theorem wl1717 (hd : dc k pc = some (.arraylength, pc')) (ok : Ok S h) (ha : sK S a = 14) (kk : Wp G d k pc' ls (vI 2 :: st) h Q) : Wp G d k pc ls (vR (some (sT S 1717 a)) :: st) h Q := p_len hd ok ha (by decide) rfl (by decide) kk
theorem wa1718 {x : Int64} {i : Int} (hd : dc k pc = some (.lastore, pc')) (ok : Ok S h) (ha : sK S a = 14) (hi : 0 ≤ i ∧ i < 14) (kk : ∀ h', h' = sAL h (sT S 1718 a) i.toNat x → Mo S (fun y => y = sT S 1718 a) h h' → Wp G d k pc' ls st h' Q) : Wp G d k pc ls (vJ x :: vI i :: vR (some (sT S 1718 a)) :: st) h Q := p_AL hd ok ha rfl rfl hi kk
theorem wl1718 (hd : dc k pc = some (.arraylength, pc')) (ok : Ok S h) (ha : sK S a = 14) (kk : Wp G d k pc' ls (vI 14 :: st) h Q) : Wp G d k pc ls (vR (some (sT S 1718 a)) :: st) h Q := p_len hd ok ha (by decide) rfl (by decide) kk
theorem wa1719 {x i : Int} (hd : dc k pc = some (.iastore, pc')) (ok : Ok S h) (ha : sK S a = 14) (hi : 0 ≤ i ∧ i < 2) (hr : 0 ≤ x ∧ x ≤ 7) (kk : ∀ h', h' = sAI h (sT S 1719 a) i.toNat x → Mo S (fun y => y = sT S 1719 a) h h' → Wp G d k pc' ls st h' Q) : Wp G d k pc ls (vI x :: vI i :: vR (some (sT S 1719 a)) :: st) h Q := p_AI hd ok ha rfl rfl hi hr kk
theorem wl1719 (hd : dc k pc = some (.arraylength, pc')) (ok : Ok S h) (ha : sK S a = 14) (kk : Wp G d k pc' ls (vI 2 :: st) h Q) : Wp G d k pc ls (vR (some (sT S 1719 a)) :: st) h Q := p_len hd ok ha (by decide) rfl (by decide) kk
theorem wf1720 {x : Int} (hd : dc k pc = some (.putfield 1720, pc')) (ok : Ok S h) (ha : sK S a = 14) (hr : 0 ≤ x ∧ x ≤ 20) (kk : ∀ h', h' = sFI h 1720 a x → Mo S (fun y => y = a) h h' → Wp G d k pc' ls st h' Q) : Wp G d k pc ls (vI x :: vR (some a) :: st) h Q := p_FI (Or.inl hd) ok ha (by decide) hr kk
theorem wa1721 {x i : Int} (hd : dc k pc = some (.iastore, pc')) (ok : Ok S h) (ha : sK S a = 14) (hi : 0 ≤ i ∧ i < 20) (hr : (-1) ≤ x ∧ x ≤ 4) (kk : ∀ h', h' = sAI h (sT S 1721 a) i.toNat x → Mo S (fun y => y = sT S 1721 a) h h' → Wp G d k pc' ls st h' Q) : Wp G d k pc ls (vI x :: vI i :: vR (some (sT S 1721 a)) :: st) h Q := p_AI hd ok ha rfl rfl hi hr kk
theorem wl1721 (hd : dc k pc = some (.arraylength, pc')) (ok : Ok S h) (ha : sK S a = 14) (kk : Wp G d k pc' ls (vI 20 :: st) h Q) : Wp G d k pc ls (vR (some (sT S 1721 a)) :: st) h Q := p_len hd ok ha (by decide) rfl (by decide) kk
theorem wa1722 {x i : Int} (hd : dc k pc = some (.iastore, pc')) (ok : Ok S h) (ha : sK S a = 14) (hi : 0 ≤ i ∧ i < 20) (hr : 0 ≤ x ∧ x ≤ 3) (kk : ∀ h', h' = sAI h (sT S 1722 a) i.toNat x → Mo S (fun y => y = sT S 1722 a) h h' → Wp G d k pc' ls st h' Q) : Wp G d k pc ls (vI x :: vI i :: vR (some (sT S 1722 a)) :: st) h Q := p_AI hd ok ha rfl rfl hi hr kk
theorem wl1722 (hd : dc k pc = some (.arraylength, pc')) (ok : Ok S h) (ha : sK S a = 14) (kk : Wp G d k pc' ls (vI 20 :: st) h Q) : Wp G d k pc ls (vR (some (sT S 1722 a)) :: st) h Q := p_len hd ok ha (by decide) rfl (by decide) kk
theorem wa1723 {x i : Int} (hd : dc k pc = some (.iastore, pc')) (ok : Ok S h) (ha : sK S a = 14) (hi : 0 ≤ i ∧ i < 20) (hr : 0 ≤ x ∧ x ≤ 4) (kk : ∀ h', h' = sAI h (sT S 1723 a) i.toNat x → Mo S (fun y => y = sT S 1723 a) h h' → Wp G d k pc' ls st h' Q) : Wp G d k pc ls (vI x :: vI i :: vR (some (sT S 1723 a)) :: st) h Q := p_AI hd ok ha rfl rfl hi hr kk
theorem wl1723 (hd : dc k pc = some (.arraylength, pc')) (ok : Ok S h) (ha : sK S a = 14) (kk : Wp G d k pc' ls (vI 20 :: st) h Q) : Wp G d k pc ls (vR (some (sT S 1723 a)) :: st) h Q := p_len hd ok ha (by decide) rfl (by decide) kk
theorem wa1724 {x i : Int} (hd : dc k pc = some (.iastore, pc')) (ok : Ok S h) (ha : sK S a = 14) (hi : 0 ≤ i ∧ i < 20) (hr : 0 ≤ x ∧ x ≤ 3) (kk : ∀ h', h' = sAI h (sT S 1724 a) i.toNat x → Mo S (fun y => y = sT S 1724 a) h h' → Wp G d k pc' ls st h' Q) : Wp G d k pc ls (vI x :: vI i :: vR (some (sT S 1724 a)) :: st) h Q := p_AI hd ok ha rfl rfl hi hr kk
theorem wl1724 (hd : dc k pc = some (.arraylength, pc')) (ok : Ok S h) (ha : sK S a = 14) (kk : Wp G d k pc' ls (vI 20 :: st) h Q) : Wp G d k pc ls (vR (some (sT S 1724 a)) :: st) h Q := p_len hd ok ha (by decide) rfl (by decide) kk
theorem wa1725 {x i : Int} (hd : dc k pc = some (.iastore, pc')) (ok : Ok S h) (ha : sK S a = 14) (hi : 0 ≤ i ∧ i < 20) (hr : 0 ≤ x ∧ x ≤ 3) (kk : ∀ h', h' = sAI h (sT S 1725 a) i.toNat x → Mo S (fun y => y = sT S 1725 a) h h' → Wp G d k pc' ls st h' Q) : Wp G d k pc ls (vI x :: vI i :: vR (some (sT S 1725 a)) :: st) h Q := p_AI hd ok ha rfl rfl hi hr kk
theorem wl1725 (hd : dc k pc = some (.arraylength, pc')) (ok : Ok S h) (ha : sK S a = 14) (kk : Wp G d k pc' ls (vI 20 :: st) h Q) : Wp G d k pc ls (vR (some (sT S 1725 a)) :: st) h Q := p_len hd ok ha (by decide) rfl (by decide) kk
theorem wa1726 {x i : Int} (hd : dc k pc = some (.iastore, pc')) (ok : Ok S h) (ha : sK S a = 14) (hi : 0 ≤ i ∧ i < 5) (hr : 0 ≤ x ∧ x ≤ 3) (kk : ∀ h', h' = sAI h (sT S 1726 a) i.toNat x → Mo S (fun y => y = sT S 1726 a) h h' → Wp G d k pc' ls st h' Q) : Wp G d k pc ls (vI x :: vI i :: vR (some (sT S 1726 a)) :: st) h Q := p_AI hd ok ha rfl rfl hi hr kk
theorem wl1726 (hd : dc k pc = some (.arraylength, pc')) (ok : Ok S h) (ha : sK S a = 14) (kk : Wp G d k pc' ls (vI 5 :: st) h Q) : Wp G d k pc ls (vR (some (sT S 1726 a)) :: st) h Q := p_len hd ok ha (by decide) rfl (by decide) kk
theorem wa1727 {x i : Int} (hd : dc k pc = some (.bastore, pc')) (ok : Ok S h) (ha : sK S a = 14) (hi : 0 ≤ i ∧ i < 5) (hr : x = 0 ∨ x = 1) (kk : ∀ h', h' = sAI h (sT S 1727 a) i.toNat x → Mo S (fun y => y = sT S 1727 a) h h' → Wp G d k pc' ls st h' Q) : Wp G d k pc ls (vI x :: vI i :: vR (some (sT S 1727 a)) :: st) h Q := p_AZ hd ok ha rfl rfl ⟨rfl, rfl⟩ hi hr kk
theorem wl1727 (hd : dc k pc = some (.arraylength, pc')) (ok : Ok S h) (ha : sK S a = 14) (kk : Wp G d k pc' ls (vI 5 :: st) h Q) : Wp G d k pc ls (vR (some (sT S 1727 a)) :: st) h Q := p_len hd ok ha (by decide) rfl (by decide) kk
theorem wa1728 {x i : Int} (hd : dc k pc = some (.iastore, pc')) (ok : Ok S h) (ha : sK S a = 14) (hi : 0 ≤ i ∧ i < 4000) (hr : 0 ≤ x ∧ x ≤ 255) (kk : ∀ h', h' = sAI h (sT S 1728 a) i.toNat x → Mo S (fun y => y = sT S 1728 a) h h' → Wp G d k pc' ls st h' Q) : Wp G d k pc ls (vI x :: vI i :: vR (some (sT S 1728 a)) :: st) h Q := p_AI hd ok ha rfl rfl hi hr kk
theorem wl1728 (hd : dc k pc = some (.arraylength, pc')) (ok : Ok S h) (ha : sK S a = 14) (kk : Wp G d k pc' ls (vI 4000 :: st) h Q) : Wp G d k pc ls (vR (some (sT S 1728 a)) :: st) h Q := p_len hd ok ha (by decide) rfl (by decide) kk
theorem wf1729 {x : Int} (hd : dc k pc = some (.putfield 1729, pc')) (ok : Ok S h) (ha : sK S a = 14) (hr : 0 ≤ x ∧ x ≤ 4000) (kk : ∀ h', h' = sFI h 1729 a x → Mo S (fun y => y = a) h h' → Wp G d k pc' ls st h' Q) : Wp G d k pc ls (vI x :: vR (some a) :: st) h Q := p_FI (Or.inl hd) ok ha (by decide) hr kk
theorem wa1730 {x i : Int} (hd : dc k pc = some (.iastore, pc')) (ok : Ok S h) (ha : sK S a = 14) (hi : 0 ≤ i ∧ i < 20020) (hr : 0 ≤ x ∧ x ≤ 255) (kk : ∀ h', h' = sAI h (sT S 1730 a) i.toNat x → Mo S (fun y => y = sT S 1730 a) h h' → Wp G d k pc' ls st h' Q) : Wp G d k pc ls (vI x :: vI i :: vR (some (sT S 1730 a)) :: st) h Q := p_AI hd ok ha rfl rfl hi hr kk
theorem wl1730 (hd : dc k pc = some (.arraylength, pc')) (ok : Ok S h) (ha : sK S a = 14) (kk : Wp G d k pc' ls (vI 20020 :: st) h Q) : Wp G d k pc ls (vR (some (sT S 1730 a)) :: st) h Q := p_len hd ok ha (by decide) rfl (by decide) kk
theorem wf1731 {x : Int} (hd : dc k pc = some (.putfield 1731, pc')) (ok : Ok S h) (ha : sK S a = 14) (hr : 0 ≤ x ∧ x ≤ 20009) (kk : ∀ h', h' = sFI h 1731 a x → Mo S (fun y => y = a) h h' → Wp G d k pc' ls st h' Q) : Wp G d k pc ls (vI x :: vR (some a) :: st) h Q := p_FI (Or.inl hd) ok ha (by decide) hr kk
theorem wa1732 {x i : Int} (hd : dc k pc = some (.iastore, pc')) (ok : Ok S h) (ha : sK S a = 14) (hi : 0 ≤ i ∧ i < 20000) (hr : 0 ≤ x ∧ x ≤ 255) (kk : ∀ h', h' = sAI h (sT S 1732 a) i.toNat x → Mo S (fun y => y = sT S 1732 a) h h' → Wp G d k pc' ls st h' Q) : Wp G d k pc ls (vI x :: vI i :: vR (some (sT S 1732 a)) :: st) h Q := p_AI hd ok ha rfl rfl hi hr kk
theorem wl1732 (hd : dc k pc = some (.arraylength, pc')) (ok : Ok S h) (ha : sK S a = 14) (kk : Wp G d k pc' ls (vI 20000 :: st) h Q) : Wp G d k pc ls (vR (some (sT S 1732 a)) :: st) h Q := p_len hd ok ha (by decide) rfl (by decide) kk
theorem wf1733 {x : Int} (hd : dc k pc = some (.putfield 1733, pc')) (ok : Ok S h) (ha : sK S a = 14) (hr : 0 ≤ x ∧ x ≤ 20000) (kk : ∀ h', h' = sFI h 1733 a x → Mo S (fun y => y = a) h h' → Wp G d k pc' ls st h' Q) : Wp G d k pc ls (vI x :: vR (some a) :: st) h Q := p_FI (Or.inl hd) ok ha (by decide) hr kk
theorem wa1734 {x i : Int} (hd : dc k pc = some (.iastore, pc')) (ok : Ok S h) (ha : sK S a = 14) (hi : 0 ≤ i ∧ i < 2048) (hr : 0 ≤ x ∧ x ≤ 255) (kk : ∀ h', h' = sAI h (sT S 1734 a) i.toNat x → Mo S (fun y => y = sT S 1734 a) h h' → Wp G d k pc' ls st h' Q) : Wp G d k pc ls (vI x :: vI i :: vR (some (sT S 1734 a)) :: st) h Q := p_AI hd ok ha rfl rfl hi hr kk
theorem wl1734 (hd : dc k pc = some (.arraylength, pc')) (ok : Ok S h) (ha : sK S a = 14) (kk : Wp G d k pc' ls (vI 2048 :: st) h Q) : Wp G d k pc ls (vR (some (sT S 1734 a)) :: st) h Q := p_len hd ok ha (by decide) rfl (by decide) kk
theorem wf1735 {x : Int} (hd : dc k pc = some (.putfield 1735, pc')) (ok : Ok S h) (ha : sK S a = 14) (hr : 0 ≤ x ∧ x ≤ 2048) (kk : ∀ h', h' = sFI h 1735 a x → Mo S (fun y => y = a) h h' → Wp G d k pc' ls st h' Q) : Wp G d k pc ls (vI x :: vR (some a) :: st) h Q := p_FI (Or.inl hd) ok ha (by decide) hr kk
theorem wf1736 {x : Int} (hd : dc k pc = some (.putstatic 1736, pc')) (ok : Ok S h) (ha : sK S a = 14) (hr : x = 0 ∨ x = 1) (kk : ∀ h', h' = sFI h 1736 a x → Mo S (fun y => y = a) h h' → Wp G d k pc' ls st h' Q) : Wp G d k pc ls (vI x :: vR (some a) :: st) h Q := p_FI (Or.inr ⟨hd, hr⟩) ok ha (by decide) (show (0 : Int) ≤ x ∧ x ≤ (1 : Int) by omega) kk
theorem wf1737 {x : Int} (hd : dc k pc = some (.putfield 1737, pc')) (ok : Ok S h) (ha : sK S a = 14) (hr : (-1) ≤ x ∧ x ≤ 2048) (kk : ∀ h', h' = sFI h 1737 a x → Mo S (fun y => y = a) h h' → Wp G d k pc' ls st h' Q) : Wp G d k pc ls (vI x :: vR (some a) :: st) h Q := p_FI (Or.inl hd) ok ha (by decide) hr kk
theorem wf1738 {x : Int} (hd : dc k pc = some (.putfield 1738, pc')) (ok : Ok S h) (ha : sK S a = 14) (hr : (-1) ≤ x ∧ x ≤ 20020) (kk : ∀ h', h' = sFI h 1738 a x → Mo S (fun y => y = a) h h' → Wp G d k pc' ls st h' Q) : Wp G d k pc ls (vI x :: vR (some a) :: st) h Q := p_FI (Or.inl hd) ok ha (by decide) hr kk
theorem wf1739 {x : Int} (hd : dc k pc = some (.putfield 1739, pc')) (ok : Ok S h) (ha : sK S a = 14) (hr : (-1) ≤ x ∧ x ≤ 34) (kk : ∀ h', h' = sFI h 1739 a x → Mo S (fun y => y = a) h h' → Wp G d k pc' ls st h' Q) : Wp G d k pc ls (vI x :: vR (some a) :: st) h Q := p_FI (Or.inl hd) ok ha (by decide) hr kk
theorem wf1740 {x : Int} (hd : dc k pc = some (.putfield 1740, pc')) (ok : Ok S h) (ha : sK S a = 14) (hr : 0 ≤ x ∧ x ≤ 20020) (kk : ∀ h', h' = sFI h 1740 a x → Mo S (fun y => y = a) h h' → Wp G d k pc' ls st h' Q) : Wp G d k pc ls (vI x :: vR (some a) :: st) h Q := p_FI (Or.inl hd) ok ha (by decide) hr kk
theorem wa1741 {x i : Int} (hd : dc k pc = some (.iastore, pc')) (ok : Ok S h) (ha : sK S a = 14) (hi : 0 ≤ i ∧ i < 5) (hr : 0 ≤ x ∧ x ≤ 9999) (kk : ∀ h', h' = sAI h (sT S 1741 a) i.toNat x → Mo S (fun y => y = sT S 1741 a) h h' → Wp G d k pc' ls st h' Q) : Wp G d k pc ls (vI x :: vI i :: vR (some (sT S 1741 a)) :: st) h Q := p_AI hd ok ha rfl rfl hi hr kk
theorem wl1741 (hd : dc k pc = some (.arraylength, pc')) (ok : Ok S h) (ha : sK S a = 14) (kk : Wp G d k pc' ls (vI 5 :: st) h Q) : Wp G d k pc ls (vR (some (sT S 1741 a)) :: st) h Q := p_len hd ok ha (by decide) rfl (by decide) kk
theorem wf1742 {x : Int} (hd : dc k pc = some (.putfield 1742, pc')) (ok : Ok S h) (ha : sK S a = 14) (hr : 0 ≤ x ∧ x ≤ 20020) (kk : ∀ h', h' = sFI h 1742 a x → Mo S (fun y => y = a) h h' → Wp G d k pc' ls st h' Q) : Wp G d k pc ls (vI x :: vR (some a) :: st) h Q := p_FI (Or.inl hd) ok ha (by decide) hr kk
theorem wf1743 {x : Int} (hd : dc k pc = some (.putfield 1743, pc')) (ok : Ok S h) (ha : sK S a = 14) (hr : 0 ≤ x ∧ x ≤ 20020) (kk : ∀ h', h' = sFI h 1743 a x → Mo S (fun y => y = a) h h' → Wp G d k pc' ls st h' Q) : Wp G d k pc ls (vI x :: vR (some a) :: st) h Q := p_FI (Or.inl hd) ok ha (by decide) hr kk
theorem wf1744 {x : Int} (hd : dc k pc = some (.putfield 1744, pc')) (ok : Ok S h) (ha : sK S a = 14) (hr : 0 ≤ x ∧ x ≤ 20020) (kk : ∀ h', h' = sFI h 1744 a x → Mo S (fun y => y = a) h h' → Wp G d k pc' ls st h' Q) : Wp G d k pc ls (vI x :: vR (some a) :: st) h Q := p_FI (Or.inl hd) ok ha (by decide) hr kk
theorem wf1745 {x : Int} (hd : dc k pc = some (.putfield 1745, pc')) (ok : Ok S h) (ha : sK S a = 14) (hr : 0 ≤ x ∧ x ≤ 20020) (kk : ∀ h', h' = sFI h 1745 a x → Mo S (fun y => y = a) h h' → Wp G d k pc' ls st h' Q) : Wp G d k pc ls (vI x :: vR (some a) :: st) h Q := p_FI (Or.inl hd) ok ha (by decide) hr kk
theorem wf1746 {x : Int} (hd : dc k pc = some (.putfield 1746, pc')) (ok : Ok S h) (ha : sK S a = 14) (hr : 0 ≤ x ∧ x ≤ 20020) (kk : ∀ h', h' = sFI h 1746 a x → Mo S (fun y => y = a) h h' → Wp G d k pc' ls st h' Q) : Wp G d k pc ls (vI x :: vR (some a) :: st) h Q := p_FI (Or.inl hd) ok ha (by decide) hr kk
theorem wf1747 {x : Int} (hd : dc k pc = some (.putfield 1747, pc')) (ok : Ok S h) (ha : sK S a = 14) (hr : 0 ≤ x ∧ x ≤ 20020) (kk : ∀ h', h' = sFI h 1747 a x → Mo S (fun y => y = a) h h' → Wp G d k pc' ls st h' Q) : Wp G d k pc ls (vI x :: vR (some a) :: st) h Q := p_FI (Or.inl hd) ok ha (by decide) hr kk
theorem wf1748 {x : Int} (hd : dc k pc = some (.putfield 1748, pc')) (ok : Ok S h) (ha : sK S a = 14) (hr : 0 ≤ x ∧ x ≤ 20020) (kk : ∀ h', h' = sFI h 1748 a x → Mo S (fun y => y = a) h h' → Wp G d k pc' ls st h' Q) : Wp G d k pc ls (vI x :: vR (some a) :: st) h Q := p_FI (Or.inl hd) ok ha (by decide) hr kk
theorem wf1749 {x : Int} (hd : dc k pc = some (.putfield 1749, pc')) (ok : Ok S h) (ha : sK S a = 14) (hr : 0 ≤ x ∧ x ≤ 20020) (kk : ∀ h', h' = sFI h 1749 a x → Mo S (fun y => y = a) h h' → Wp G d k pc' ls st h' Q) : Wp G d k pc ls (vI x :: vR (some a) :: st) h Q := p_FI (Or.inl hd) ok ha (by decide) hr kk
theorem wf1750 {x : Int} (hd : dc k pc = some (.putfield 1750, pc')) (ok : Ok S h) (ha : sK S a = 14) (hr : 0 ≤ x ∧ x ≤ 20020) (kk : ∀ h', h' = sFI h 1750 a x → Mo S (fun y => y = a) h h' → Wp G d k pc' ls st h' Q) : Wp G d k pc ls (vI x :: vR (some a) :: st) h Q := p_FI (Or.inl hd) ok ha (by decide) hr kk
theorem wf1751 {x : Int} (hd : dc k pc = some (.putfield 1751, pc')) (ok : Ok S h) (ha : sK S a = 14) (hr : 0 ≤ x ∧ x ≤ 20020) (kk : ∀ h', h' = sFI h 1751 a x → Mo S (fun y => y = a) h h' → Wp G d k pc' ls st h' Q) : Wp G d k pc ls (vI x :: vR (some a) :: st) h Q := p_FI (Or.inl hd) ok ha (by decide) hr kk
theorem wf1752 {x : Int} (hd : dc k pc = some (.putfield 1752, pc')) (ok : Ok S h) (ha : sK S a = 14) (hr : 0 ≤ x ∧ x ≤ 6) (kk : ∀ h', h' = sFI h 1752 a x → Mo S (fun y => y = a) h h' → Wp G d k pc' ls st h' Q) : Wp G d k pc ls (vI x :: vR (some a) :: st) h Q := p_FI (Or.inl hd) ok ha (by decide) hr kk
theorem wa1753 {x i : Int} (hd : dc k pc = some (.bastore, pc')) (ok : Ok S h) (ha : sK S a = 14) (hi : 0 ≤ i ∧ i < 6) (hr : x = 0 ∨ x = 1) (kk : ∀ h', h' = sAI h (sT S 1753 a) i.toNat x → Mo S (fun y => y = sT S 1753 a) h h' → Wp G d k pc' ls st h' Q) : Wp G d k pc ls (vI x :: vI i :: vR (some (sT S 1753 a)) :: st) h Q := p_AZ hd ok ha rfl rfl ⟨rfl, rfl⟩ hi hr kk
theorem wl1753 (hd : dc k pc = some (.arraylength, pc')) (ok : Ok S h) (ha : sK S a = 14) (kk : Wp G d k pc' ls (vI 6 :: st) h Q) : Wp G d k pc ls (vR (some (sT S 1753 a)) :: st) h Q := p_len hd ok ha (by decide) rfl (by decide) kk
theorem wa1754 {x i : Int} (hd : dc k pc = some (.iastore, pc')) (ok : Ok S h) (ha : sK S a = 14) (hi : 0 ≤ i ∧ i < 6) (hr : 0 ≤ x ∧ x ≤ 20020) (kk : ∀ h', h' = sAI h (sT S 1754 a) i.toNat x → Mo S (fun y => y = sT S 1754 a) h h' → Wp G d k pc' ls st h' Q) : Wp G d k pc ls (vI x :: vI i :: vR (some (sT S 1754 a)) :: st) h Q := p_AI hd ok ha rfl rfl hi hr kk
theorem wl1754 (hd : dc k pc = some (.arraylength, pc')) (ok : Ok S h) (ha : sK S a = 14) (kk : Wp G d k pc' ls (vI 6 :: st) h Q) : Wp G d k pc ls (vR (some (sT S 1754 a)) :: st) h Q := p_len hd ok ha (by decide) rfl (by decide) kk
theorem wa1755 {x i : Int} (hd : dc k pc = some (.iastore, pc')) (ok : Ok S h) (ha : sK S a = 14) (hi : 0 ≤ i ∧ i < 6) (hr : 0 ≤ x ∧ x ≤ 20020) (kk : ∀ h', h' = sAI h (sT S 1755 a) i.toNat x → Mo S (fun y => y = sT S 1755 a) h h' → Wp G d k pc' ls st h' Q) : Wp G d k pc ls (vI x :: vI i :: vR (some (sT S 1755 a)) :: st) h Q := p_AI hd ok ha rfl rfl hi hr kk
theorem wl1755 (hd : dc k pc = some (.arraylength, pc')) (ok : Ok S h) (ha : sK S a = 14) (kk : Wp G d k pc' ls (vI 6 :: st) h Q) : Wp G d k pc ls (vR (some (sT S 1755 a)) :: st) h Q := p_len hd ok ha (by decide) rfl (by decide) kk
theorem wf1756 {x : Int} (hd : dc k pc = some (.putstatic 1756, pc')) (ok : Ok S h) (ha : sK S a = 14) (hr : x = 0 ∨ x = 1) (kk : ∀ h', h' = sFI h 1756 a x → Mo S (fun y => y = a) h h' → Wp G d k pc' ls st h' Q) : Wp G d k pc ls (vI x :: vR (some a) :: st) h Q := p_FI (Or.inr ⟨hd, hr⟩) ok ha (by decide) (show (0 : Int) ≤ x ∧ x ≤ (1 : Int) by omega) kk
theorem wf1757 {x : Int} (hd : dc k pc = some (.putfield 1757, pc')) (ok : Ok S h) (ha : sK S a = 14) (hr : 0 ≤ x ∧ x ≤ 20020) (kk : ∀ h', h' = sFI h 1757 a x → Mo S (fun y => y = a) h h' → Wp G d k pc' ls st h' Q) : Wp G d k pc ls (vI x :: vR (some a) :: st) h Q := p_FI (Or.inl hd) ok ha (by decide) hr kk
theorem wf1758 {x : Int} (hd : dc k pc = some (.putfield 1758, pc')) (ok : Ok S h) (ha : sK S a = 14) (hr : 0 ≤ x ∧ x ≤ 20020) (kk : ∀ h', h' = sFI h 1758 a x → Mo S (fun y => y = a) h h' → Wp G d k pc' ls st h' Q) : Wp G d k pc ls (vI x :: vR (some a) :: st) h Q := p_FI (Or.inl hd) ok ha (by decide) hr kk
theorem wa1759 {x i : Int} (hd : dc k pc = some (.iastore, pc')) (ok : Ok S h) (ha : sK S a = 14) (hi : 0 ≤ i ∧ i < 20000) (hr : 0 ≤ x ∧ x ≤ 3) (kk : ∀ h', h' = sAI h (sT S 1759 a) i.toNat x → Mo S (fun y => y = sT S 1759 a) h h' → Wp G d k pc' ls st h' Q) : Wp G d k pc ls (vI x :: vI i :: vR (some (sT S 1759 a)) :: st) h Q := p_AI hd ok ha rfl rfl hi hr kk
theorem wl1759 (hd : dc k pc = some (.arraylength, pc')) (ok : Ok S h) (ha : sK S a = 14) (kk : Wp G d k pc' ls (vI 20000 :: st) h Q) : Wp G d k pc ls (vR (some (sT S 1759 a)) :: st) h Q := p_len hd ok ha (by decide) rfl (by decide) kk
theorem wf1760 {x : Int} (hd : dc k pc = some (.putfield 1760, pc')) (ok : Ok S h) (ha : sK S a = 14) (hr : 0 ≤ x ∧ x ≤ 20000) (kk : ∀ h', h' = sFI h 1760 a x → Mo S (fun y => y = a) h h' → Wp G d k pc' ls st h' Q) : Wp G d k pc ls (vI x :: vR (some a) :: st) h Q := p_FI (Or.inl hd) ok ha (by decide) hr kk
theorem wf1761 {x : Int} (hd : dc k pc = some (.putfield 1761, pc')) (ok : Ok S h) (ha : sK S a = 14) (hr : 0 ≤ x ∧ x ≤ 20020) (kk : ∀ h', h' = sFI h 1761 a x → Mo S (fun y => y = a) h h' → Wp G d k pc' ls st h' Q) : Wp G d k pc ls (vI x :: vR (some a) :: st) h Q := p_FI (Or.inl hd) ok ha (by decide) hr kk
theorem wa1762 {x i : Int} (hd : dc k pc = some (.iastore, pc')) (ok : Ok S h) (ha : sK S a = 14) (hi : 0 ≤ i ∧ i < 20000) (hr : 0 ≤ x ∧ x ≤ 4) (kk : ∀ h', h' = sAI h (sT S 1762 a) i.toNat x → Mo S (fun y => y = sT S 1762 a) h h' → Wp G d k pc' ls st h' Q) : Wp G d k pc ls (vI x :: vI i :: vR (some (sT S 1762 a)) :: st) h Q := p_AI hd ok ha rfl rfl hi hr kk
theorem wl1762 (hd : dc k pc = some (.arraylength, pc')) (ok : Ok S h) (ha : sK S a = 14) (kk : Wp G d k pc' ls (vI 20000 :: st) h Q) : Wp G d k pc ls (vR (some (sT S 1762 a)) :: st) h Q := p_len hd ok ha (by decide) rfl (by decide) kk
theorem wa1763 {x i : Int} (hd : dc k pc = some (.iastore, pc')) (ok : Ok S h) (ha : sK S a = 14) (hi : 0 ≤ i ∧ i < 20000) (hr : 0 ≤ x ∧ x ≤ 3) (kk : ∀ h', h' = sAI h (sT S 1763 a) i.toNat x → Mo S (fun y => y = sT S 1763 a) h h' → Wp G d k pc' ls st h' Q) : Wp G d k pc ls (vI x :: vI i :: vR (some (sT S 1763 a)) :: st) h Q := p_AI hd ok ha rfl rfl hi hr kk
theorem wl1763 (hd : dc k pc = some (.arraylength, pc')) (ok : Ok S h) (ha : sK S a = 14) (kk : Wp G d k pc' ls (vI 20000 :: st) h Q) : Wp G d k pc ls (vR (some (sT S 1763 a)) :: st) h Q := p_len hd ok ha (by decide) rfl (by decide) kk
end FIELDS
