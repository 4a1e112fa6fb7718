/-! writes into the tree -/
section WRITES2
variable {S : Shp} {h : Hp} {a f j t : Nat}
theorem kF6 : ∀ f, f < 1792 → kFld f = 6 → f / 128 = 5 := fun f hf e => by
  unfold kFld at e
  split at e <;> omega
theorem kFlt {f : Nat} (hf : f < 1792) : kFld f = f / 128 + 1 := by
  unfold kFld
  rw [if_pos (by omega)]
/-- a write into the tree leaves what was there ahead -/
theorem Fgn.of1 {h h' : Hp} {x : Nat} (so : SOk S) (fo : Fgn S h) (hx : sK S x ≠ 0) (e1 : KD h' = KD h) (e2 : LN h' = LN h) (e5 : ∀ y, y ≠ x → (∀ f, FI h' f y = FI h f y ∧ FR h' f y = FR h f y) ∧ AI h' y = AI h y ∧ AR h' y = AR h y) (h75 : sK S x ≠ 75 := by omega) : Fgn S h' := by
  refine ⟨fun y hy h0 => ?_, fun a j y ha hy hk hj => ?_⟩
  · obtain ⟨b1, b2, b3, b4, b5, b6⟩ := fo.1 y hy h0
    have ny : y ≠ x := fun e => hx (e ▸ (so.2.2.2.2.2.2.2.2.2.2 y hy).1)
    obtain ⟨c1, c2, c3⟩ := e5 y ny
    rw [e1, e2, c2, c3]
    exact ⟨b1, b2, fun f hf => by rw [(c1 f).1]; exact b3 f hf, fun f hf => by rw [(c1 f).2]; exact b4 f hf, b5, b6⟩
  · have k : sK S (sT S 513 a) = 75 := (so.2.2.1 513 a (by decide) ha).1
    rw [(e5 (sT S 513 a) (fun e => h75 (e ▸ k))).2.2]
    exact fo.2 a j y ha hy hk hj
theorem Ok.nz (ok : Ok S h) {x : Nat} (hx : sK S x ≠ 0) : KD h x ≠ 0 := by have := (ok.st.1 x hx).1; omega
theorem Mo.pFI {v : Int} (ok : Ok S h) (ha : sK S a = kFld f) (hf : f < 1792 ∧ f / 128 ≠ 5) (hr : rlo f ≤ v ∧ v ≤ rhi f) : Mo S (fun y => y = a) h (sFI h f a v) := by
  have e := kFlt hf.1
  have h0 : sK S a ≠ 0 := by omega
  have k := (ok.st.1 a h0).1
  have k7 := ok.so.2.2.2.2.2.2.1 a h0
  have m : Md (fun y => y = a) h (sFI h f a v) := Md.sFI ok.ro (ok.nz h0) (by omega) (by omega)
  obtain ⟨so, ro, ⟨s1, s2, s3, s4, s5, s6, s7, s8, s9, s10, s11⟩, fo⟩ := ok
  refine ⟨m, so, m.ok, ⟨s1, s2, s3, s4, s5, s6, fun g b hb0 hb => ?_, s8, s9, fun b hb => ?_, s11⟩, Fgn.of1 so fo h0 rfl rfl (fun y hy => ⟨fun g => ⟨by rw [FI_sFI, if_neg (fun q => hy q.2)], rfl⟩, rfl, rfl⟩)⟩
  · rw [FI_sFI]
    split
    · rename_i q
      rw [q.1]; exact hr
    · exact s7 g b hb0 hb
  · exact s10 b hb
theorem Mo.pFL {v : Int64} (ok : Ok S h) (ha : sK S a = kFld f) (hf : f < 1792 ∧ f / 128 ≠ 5) : Mo S (fun y => y = a) h (sFL h f a v) := by
  have e := kFlt hf.1
  have h0 : sK S a ≠ 0 := by omega
  have k := (ok.st.1 a h0).1
  have k7 := ok.so.2.2.2.2.2.2.1 a h0
  have m : Md (fun y => y = a) h (sFL h f a v) := Md.sFL ok.ro (ok.nz h0) (by omega) (by omega)
  obtain ⟨so, ro, ⟨s1, s2, s3, s4, s5, s6, s7, s8, s9, s10, s11⟩, fo⟩ := ok
  exact ⟨m, so, m.ok, ⟨s1, s2, s3, s4, s5, s6, s7, s8, s9, s10, s11⟩, Fgn.of1 so fo h0 rfl rfl (fun y hy => ⟨fun g => ⟨rfl, rfl⟩, rfl, rfl⟩)⟩
/-- a reference that is not of the tree: the request's verb -/
theorem Mo.pFR {v : Option Nat} (ok : Ok S h) (ha : sK S a = 5) : Mo S (fun y => y = a) h (sFR h 514 a v) := by
  have h0 : sK S a ≠ 0 := by omega
  have k := (ok.st.1 a h0).1
  have m : Md (fun y => y = a) h (sFR h 514 a v) := Md.sFR ok.ro (ok.nz h0) (by omega) (by omega)
  obtain ⟨so, ro, ⟨s1, s2, s3, s4, s5, s6, s7, s8, s9, s10, s11⟩, fo⟩ := ok
  refine ⟨m, so, m.ok, ⟨s1, fun g b hg h8 hb => ?_, s3, s4, s5, fun b hb => ?_, s7, s8, s9, s10, s11⟩, Fgn.of1 so fo h0 rfl rfl (fun y hy => ⟨fun g => ⟨rfl, by rw [FR_sFR, if_neg (fun q => hy q.2)]⟩, rfl, rfl⟩)⟩
  · rw [FR_sFR, if_neg]
    · exact s2 g b hg h8 hb
    · rintro ⟨rfl, -⟩
      exact hg (by decide)
  · rw [FR_sFR, if_neg (fun q => absurd q.1 (by decide))]
    exact s6 b hb
theorem kfnz {b g : Nat} (hb : sK S b = kFld g) (h : sK S b ≠ 0 ∨ True) : kFld g ≠ 0 := by unfold kFld; split <;> omega
theorem fk_lt {f : Nat} (h : fk f ≠ 0) : f < 1792 := by
  unfold fk at h
  rcases Nat.lt_or_ge f 1792 with q | q
  · exact q
  · exfalso
    apply h
    have : (fkT.getD (f / 128) []) = [] := by
      rw [List.getD_eq_getElem?_getD, List.getElem?_eq_none]
      · rfl
      · show 14 ≤ f / 128
        omega
    rw [this]
    rfl
theorem Mo.pAI {v : Int} (ok : Ok S h) (ha : sK S a = kFld f) (hk : fk f = 40 ∨ fk f = 42) (hr : alo f ≤ v ∧ v ≤ ahi f) : Mo S (fun y => y = sT S f a) h (sAI h (sT S f a) j v) := by
  have hl := fk_lt (f := f) (by omega)
  have k1 := (ok.so.2.2.1 f a (by omega) ha).1
  have h0 : sK S (sT S f a) ≠ 0 := by omega
  have k := (ok.st.1 _ h0).1
  have m : Md (fun y => y = sT S f a) h (sAI h (sT S f a) j v) := Md.sAI ok.ro (ok.nz h0) (by omega) (ok.notown h0) (by omega)
  obtain ⟨so, ro, ⟨s1, s2, s3, s4, s5, s6, s7, s8, s9, s10, s11⟩, fo⟩ := ok
  refine ⟨m, so, m.ok, ⟨s1, s2, s3, s4, s5, s6, s7, fun g b i hg hb => ?_, fun b t i hb ht => ?_, s10, s11⟩, Fgn.of1 so fo h0 rfl rfl (fun y hy => ⟨fun g => ⟨rfl, rfl⟩, by funext i; rw [AI_sAI, if_neg (fun q => hy q.1)], rfl⟩)⟩
  · rw [AI_sAI]
    split
    · rename_i q
      rw [((so.inj (by have := fk_lt (f := g) (by omega); omega) (by omega)).mp q.1).1]
      exact hr
    · exact s8 g b i hg hb
  · rw [AI_sAI, if_neg (fun q => so.neE (by omega) (by omega) q.1.symm)]
    exact s9 b t i hb ht
/-- the book's bytes -/
theorem Mo.pAB {v : Int} (ok : Ok S h) (ha : sK S a = 1) (hr : -128 ≤ v ∧ v < 128) : Mo S (fun y => y = sT S 0 a) h (sAI h (sT S 0 a) j v) := by
  have k1 : sK S (sT S 0 a) = 41 := (ok.so.2.2.1 0 a (by decide) ha).1
  have h0 : sK S (sT S 0 a) ≠ 0 := by omega
  have k := (ok.st.1 _ h0).1
  have m : Md (fun y => y = sT S 0 a) h (sAI h (sT S 0 a) j v) := Md.sAI ok.ro (ok.nz h0) (by omega) (ok.notown h0) (fun _ => hr)
  obtain ⟨so, ro, ⟨s1, s2, s3, s4, s5, s6, s7, s8, s9, s10, s11⟩, fo⟩ := ok
  refine ⟨m, so, m.ok, ⟨s1, s2, s3, s4, s5, s6, s7, fun g b i hg hb => ?_, fun b t i hb ht => ?_, s10, s11⟩, Fgn.of1 so fo h0 rfl rfl (fun y hy => ⟨fun g => ⟨rfl, rfl⟩, by funext i; rw [AI_sAI, if_neg (fun q => hy q.1)], rfl⟩)⟩
  · rw [AI_sAI, if_neg]
    · exact s8 g b i hg hb
    · rintro ⟨q, -⟩
      have e := ((so.inj (by have := fk_lt (f := g) (by omega); omega) (by omega)).mp q).1
      subst e
      rcases hg with hg | hg
      · exact absurd hg (by decide)
      · exact absurd hg (by decide)
  · rw [AI_sAI, if_neg (fun q => so.neE (by omega) (by omega) q.1.symm)]
    exact s9 b t i hb ht
/-- an edition's number -/
theorem Mo.pAE {v : Int} (ok : Ok S h) (ha : sK S a = 8) (ht : t < 14) (hr : 0 ≤ v ∧ v ≤ 2147483647) : Mo S (fun y => y = sE S (sT S 898 a) t) h (sAI h (sE S (sT S 898 a) t) j v) := by
  have k1 : sK S (sE S (sT S 898 a) t) = 40 := (ok.so.2.2.2.1 898 a t (by decide) ha (by rw [(ok.so.2.2.1 898 a (by decide) ha).2.1 (by decide)]; exact ht)).1
  have h0 : sK S (sE S (sT S 898 a) t) ≠ 0 := by omega
  have k := (ok.st.1 _ h0).1
  have m : Md (fun y => y = sE S (sT S 898 a) t) h (sAI h (sE S (sT S 898 a) t) j v) := Md.sAI ok.ro (ok.nz h0) (by omega) (ok.notown h0) (by omega)
  obtain ⟨so, ro, ⟨s1, s2, s3, s4, s5, s6, s7, s8, s9, s10, s11⟩, fo⟩ := ok
  refine ⟨m, so, m.ok, ⟨s1, s2, s3, s4, s5, s6, s7, fun g b i hg hb => ?_, fun b u i hb hu => ?_, s10, s11⟩, Fgn.of1 so fo h0 rfl rfl (fun y hy => ⟨fun g => ⟨rfl, rfl⟩, by funext i; rw [AI_sAI, if_neg (fun q => hy q.1)], rfl⟩)⟩
  · rw [AI_sAI, if_neg (fun q => so.neE (by have := fk_lt (f := g) (by omega); omega) (by omega) q.1)]
    exact s8 g b i hg hb
  · rw [AI_sAI]
    split
    · exact hr
    · exact s9 b u i hb hu
theorem Mo.pAL {v : Int64} (ok : Ok S h) (ha : sK S a = kFld f) (hk : fk f = 44) : Mo S (fun y => y = sT S f a) h (sAL h (sT S f a) j v) := by
  have k1 := (ok.so.2.2.1 f a (by omega) ha).1
  have h0 : sK S (sT S f a) ≠ 0 := by omega
  have k := (ok.st.1 _ h0).1
  have m : Md (fun y => y = sT S f a) h (sAL h (sT S f a) j v) := Md.sAL ok.ro (ok.nz h0) (by omega) (by omega)
  obtain ⟨so, ro, ⟨s1, s2, s3, s4, s5, s6, s7, s8, s9, s10, s11⟩, fo⟩ := ok
  exact ⟨m, so, m.ok, ⟨s1, s2, s3, s4, s5, s6, s7, s8, s9, s10, s11⟩, Fgn.of1 so fo h0 rfl rfl (fun y hy => ⟨fun g => ⟨rfl, rfl⟩, rfl, rfl⟩)⟩
theorem es_lt {f : Nat} (h : es f ≠ 0) : f < 1792 := by
  unfold es at h
  rcases Nat.lt_or_ge f 1792 with q | q
  · exact q
  · exfalso
    apply h
    have : (esT.getD (f / 128) []) = [] := by
      rw [List.getD_eq_getElem?_getD, List.getElem?_eq_none]
      · rfl
      · show 14 ≤ f / 128
        omega
    rw [this]
    rfl
/-- an element that moves -/
theorem Mo.pAR {i : Nat} (ok : Ok S h) (ha : sK S a = kFld f) (hk : es f = 2) (hk2 : 50 ≤ fk f ∧ fk f < 64) (hi : i < sL S (sT S f a)) : Mo S (fun y => y = sT S f a) h (sAR h (sT S f a) j (some (sE S (sT S f a) i))) := by
  have hl := fk_lt (f := f) (by omega)
  have k1 := (ok.so.2.2.1 f a (by omega) ha).1
  have h0 : sK S (sT S f a) ≠ 0 := by omega
  have k := (ok.st.1 _ h0).1
  have m : Md (fun y => y = sT S f a) h (sAR h (sT S f a) j (some (sE S (sT S f a) i))) := Md.sAR ok.ro (ok.nz h0) (by omega) (by omega)
  obtain ⟨so, ro, ⟨s1, s2, s3, s4, s5, s6, s7, s8, s9, s10, s11⟩, fo⟩ := ok
  refine ⟨m, so, m.ok, ⟨s1, s2, fun g b u hg hb hu => ?_, fun g b u hg hb hu => ?_, fun b u hb hu => ?_, s6, s7, s8, s9, s10, s11⟩, Fgn.of1 so fo h0 rfl rfl (fun y hy => ⟨fun g => ⟨rfl, rfl⟩, rfl, by funext i; rw [AR_sAR, if_neg (fun q => hy q.1)]⟩)⟩
  · rw [AR_sAR, if_neg]
    · exact s3 g b u hg hb hu
    · rintro ⟨q, -⟩
      have e := ((so.inj (by have := es_lt (f := g) (by omega); omega) (by omega)).mp q).1
      subst e
      omega
  · rw [AR_sAR]
    split
    · rename_i q
      obtain ⟨e1, e2⟩ := (so.inj (by have := es_lt (f := g) (by omega); omega) (by omega)).mp q.1
      subst e1; subst e2
      exact ⟨i, hi, rfl⟩
    · exact s4 g b u hg hb hu
  · rw [AR_sAR, if_neg]
    · exact s5 b u hb hu
    · rintro ⟨q, -⟩
      have e := ((so.inj (by decide) (by omega)).mp q).1
      subst e
      exact absurd hk (by decide)
/-- an input of the workshop -/
theorem Mo.pAW {r : Nat} (ok : Ok S h) (ha : sK S a = 10) (hr : sK S r = 6) : Mo S (fun y => y = sT S 1153 a) h (sAR h (sT S 1153 a) j (some r)) := by
  have k1 : sK S (sT S 1153 a) = 55 := (ok.so.2.2.1 1153 a (by decide) ha).1
  have h0 : sK S (sT S 1153 a) ≠ 0 := by omega
  have k := (ok.st.1 _ h0).1
  have m : Md (fun y => y = sT S 1153 a) h (sAR h (sT S 1153 a) j (some r)) := Md.sAR ok.ro (ok.nz h0) (by omega) (by omega)
  obtain ⟨so, ro, ⟨s1, s2, s3, s4, s5, s6, s7, s8, s9, s10, s11⟩, fo⟩ := ok
  refine ⟨m, so, m.ok, ⟨s1, s2, fun g b u hg hb hu => ?_, fun g b u hg hb hu => ?_, fun b u hb hu => ?_, s6, s7, s8, s9, s10, s11⟩, Fgn.of1 so fo h0 rfl rfl (fun y hy => ⟨fun g => ⟨rfl, rfl⟩, rfl, by funext i; rw [AR_sAR, if_neg (fun q => hy q.1)]⟩)⟩
  · rw [AR_sAR, if_neg]
    · exact s3 g b u hg hb hu
    · rintro ⟨q, -⟩
      have e := ((so.inj (by have := es_lt (f := g) (by omega); omega) (by omega)).mp q).1
      subst e
      exact absurd hg (by decide)
  · rw [AR_sAR, if_neg]
    · exact s4 g b u hg hb hu
    · rintro ⟨q, -⟩
      have e := ((so.inj (by have := es_lt (f := g) (by omega); omega) (by omega)).mp q).1
      subst e
      exact absurd hg (by decide)
  · rw [AR_sAR]
    split
    · exact ⟨r, rfl, hr⟩
    · exact s5 b u hb hu
end WRITES2
