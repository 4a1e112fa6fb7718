/-! calls by arity, loads of known references, the maps behind an update (written by wip/tools/gen26.py) -/
section RULES3
variable {G : Nat → Option Nat} {d k pc pc' : Nat} {ls : List (Option MV)} {st : List MV} {h : Hp} {Q : Option MV → Hp → Prop}
theorem rok_v {j a : Nat} {vs : List MV} (hk : KD h a = rcv j) : rok j (vR (some a) :: vs) h = true := by
  unfold rok
  split
  · rfl
  · exact beq_iff_eq.mpr hk
theorem rok_s {j : Nat} {vs : List MV} (hk : knd j = 0) : rok j vs h = true := by
  unfold rok
  rw [if_pos hk]
theorem w_calls0 {j : Nat} (hd : dc k pc = some (.invokevirtual j, pc')) (h1 : 1 ≤ d) (ha : argN j = 0) (hk : knd j = 0) (hr : st.length ≤ 4) (hlay : (lay 0 []).length ≤ mxl j)
    (kk : Cl G (d - 1) j [] h (fun r h' => Wp G d k pc' ls (r.toList ++ st) h' Q)) : Wp G d k pc ls (st) h Q :=
  w_call hd h1 (by rw [ha]; exact ⟨rfl, rfl, by simp, by simp; omega⟩) (rok_s hk) hlay kk
theorem w_calls1 {j : Nat} {v0 : MV} (hd : dc k pc = some (.invokevirtual j, pc')) (h1 : 1 ≤ d) (ha : argN j = 1) (hk : knd j = 0) (hr : st.length ≤ 4) (hlay : (lay 0 [v0]).length ≤ mxl j)
    (kk : Cl G (d - 1) j [v0] h (fun r h' => Wp G d k pc' ls (r.toList ++ st) h' Q)) : Wp G d k pc ls (v0 :: st) h Q :=
  w_call hd h1 (by rw [ha]; exact ⟨rfl, rfl, by simp, by simp; omega⟩) (rok_s hk) hlay kk
theorem w_callv1 {j a : Nat} (hd : dc k pc = some (.invokevirtual j, pc')) (h1 : 1 ≤ d) (ha : argN j = 1) (hk : KD h a = rcv j) (hr : st.length ≤ 4) (hlay : (lay 0 [vR (some a)]).length ≤ mxl j)
    (kk : Cl G (d - 1) j [vR (some a)] h (fun r h' => Wp G d k pc' ls (r.toList ++ st) h' Q)) : Wp G d k pc ls (vR (some a) :: st) h Q :=
  w_call hd h1 (by rw [ha]; exact ⟨rfl, rfl, by simp, by simp; omega⟩) (rok_v hk) hlay kk
theorem w_calls2 {j : Nat} {v0 v1 : MV} (hd : dc k pc = some (.invokevirtual j, pc')) (h1 : 1 ≤ d) (ha : argN j = 2) (hk : knd j = 0) (hr : st.length ≤ 4) (hlay : (lay 0 [v0, v1]).length ≤ mxl j)
    (kk : Cl G (d - 1) j [v0, v1] h (fun r h' => Wp G d k pc' ls (r.toList ++ st) h' Q)) : Wp G d k pc ls (v1 :: v0 :: st) h Q :=
  w_call hd h1 (by rw [ha]; exact ⟨rfl, rfl, by simp, by simp; omega⟩) (rok_s hk) hlay kk
theorem w_callv2 {j a : Nat} {v1 : MV} (hd : dc k pc = some (.invokevirtual j, pc')) (h1 : 1 ≤ d) (ha : argN j = 2) (hk : KD h a = rcv j) (hr : st.length ≤ 4) (hlay : (lay 0 [vR (some a), v1]).length ≤ mxl j)
    (kk : Cl G (d - 1) j [vR (some a), v1] h (fun r h' => Wp G d k pc' ls (r.toList ++ st) h' Q)) : Wp G d k pc ls (v1 :: vR (some a) :: st) h Q :=
  w_call hd h1 (by rw [ha]; exact ⟨rfl, rfl, by simp, by simp; omega⟩) (rok_v hk) hlay kk
theorem w_calls3 {j : Nat} {v0 v1 v2 : MV} (hd : dc k pc = some (.invokevirtual j, pc')) (h1 : 1 ≤ d) (ha : argN j = 3) (hk : knd j = 0) (hr : st.length ≤ 4) (hlay : (lay 0 [v0, v1, v2]).length ≤ mxl j)
    (kk : Cl G (d - 1) j [v0, v1, v2] h (fun r h' => Wp G d k pc' ls (r.toList ++ st) h' Q)) : Wp G d k pc ls (v2 :: v1 :: v0 :: st) h Q :=
  w_call hd h1 (by rw [ha]; exact ⟨rfl, rfl, by simp, by simp; omega⟩) (rok_s hk) hlay kk
theorem w_callv3 {j a : Nat} {v1 v2 : MV} (hd : dc k pc = some (.invokevirtual j, pc')) (h1 : 1 ≤ d) (ha : argN j = 3) (hk : KD h a = rcv j) (hr : st.length ≤ 4) (hlay : (lay 0 [vR (some a), v1, v2]).length ≤ mxl j)
    (kk : Cl G (d - 1) j [vR (some a), v1, v2] h (fun r h' => Wp G d k pc' ls (r.toList ++ st) h' Q)) : Wp G d k pc ls (v2 :: v1 :: vR (some a) :: st) h Q :=
  w_call hd h1 (by rw [ha]; exact ⟨rfl, rfl, by simp, by simp; omega⟩) (rok_v hk) hlay kk
theorem w_calls4 {j : Nat} {v0 v1 v2 v3 : MV} (hd : dc k pc = some (.invokevirtual j, pc')) (h1 : 1 ≤ d) (ha : argN j = 4) (hk : knd j = 0) (hr : st.length ≤ 4) (hlay : (lay 0 [v0, v1, v2, v3]).length ≤ mxl j)
    (kk : Cl G (d - 1) j [v0, v1, v2, v3] h (fun r h' => Wp G d k pc' ls (r.toList ++ st) h' Q)) : Wp G d k pc ls (v3 :: v2 :: v1 :: v0 :: st) h Q :=
  w_call hd h1 (by rw [ha]; exact ⟨rfl, rfl, by simp, by simp; omega⟩) (rok_s hk) hlay kk
theorem w_callv4 {j a : Nat} {v1 v2 v3 : MV} (hd : dc k pc = some (.invokevirtual j, pc')) (h1 : 1 ≤ d) (ha : argN j = 4) (hk : KD h a = rcv j) (hr : st.length ≤ 4) (hlay : (lay 0 [vR (some a), v1, v2, v3]).length ≤ mxl j)
    (kk : Cl G (d - 1) j [vR (some a), v1, v2, v3] h (fun r h' => Wp G d k pc' ls (r.toList ++ st) h' Q)) : Wp G d k pc ls (v3 :: v2 :: v1 :: vR (some a) :: st) h Q :=
  w_call hd h1 (by rw [ha]; exact ⟨rfl, rfl, by simp, by simp; omega⟩) (rok_v hk) hlay kk
theorem w_calls5 {j : Nat} {v0 v1 v2 v3 v4 : MV} (hd : dc k pc = some (.invokevirtual j, pc')) (h1 : 1 ≤ d) (ha : argN j = 5) (hk : knd j = 0) (hr : st.length ≤ 4) (hlay : (lay 0 [v0, v1, v2, v3, v4]).length ≤ mxl j)
    (kk : Cl G (d - 1) j [v0, v1, v2, v3, v4] h (fun r h' => Wp G d k pc' ls (r.toList ++ st) h' Q)) : Wp G d k pc ls (v4 :: v3 :: v2 :: v1 :: v0 :: st) h Q :=
  w_call hd h1 (by rw [ha]; exact ⟨rfl, rfl, by simp, by simp; omega⟩) (rok_s hk) hlay kk
theorem w_callv5 {j a : Nat} {v1 v2 v3 v4 : MV} (hd : dc k pc = some (.invokevirtual j, pc')) (h1 : 1 ≤ d) (ha : argN j = 5) (hk : KD h a = rcv j) (hr : st.length ≤ 4) (hlay : (lay 0 [vR (some a), v1, v2, v3, v4]).length ≤ mxl j)
    (kk : Cl G (d - 1) j [vR (some a), v1, v2, v3, v4] h (fun r h' => Wp G d k pc' ls (r.toList ++ st) h' Q)) : Wp G d k pc ls (v4 :: v3 :: v2 :: v1 :: vR (some a) :: st) h Q :=
  w_call hd h1 (by rw [ha]; exact ⟨rfl, rfl, by simp, by simp; omega⟩) (rok_v hk) hlay kk
theorem w_calls6 {j : Nat} {v0 v1 v2 v3 v4 v5 : MV} (hd : dc k pc = some (.invokevirtual j, pc')) (h1 : 1 ≤ d) (ha : argN j = 6) (hk : knd j = 0) (hr : st.length ≤ 4) (hlay : (lay 0 [v0, v1, v2, v3, v4, v5]).length ≤ mxl j)
    (kk : Cl G (d - 1) j [v0, v1, v2, v3, v4, v5] h (fun r h' => Wp G d k pc' ls (r.toList ++ st) h' Q)) : Wp G d k pc ls (v5 :: v4 :: v3 :: v2 :: v1 :: v0 :: st) h Q :=
  w_call hd h1 (by rw [ha]; exact ⟨rfl, rfl, by simp, by simp; omega⟩) (rok_s hk) hlay kk
theorem w_callv6 {j a : Nat} {v1 v2 v3 v4 v5 : MV} (hd : dc k pc = some (.invokevirtual j, pc')) (h1 : 1 ≤ d) (ha : argN j = 6) (hk : KD h a = rcv j) (hr : st.length ≤ 4) (hlay : (lay 0 [vR (some a), v1, v2, v3, v4, v5]).length ≤ mxl j)
    (kk : Cl G (d - 1) j [vR (some a), v1, v2, v3, v4, v5] h (fun r h' => Wp G d k pc' ls (r.toList ++ st) h' Q)) : Wp G d k pc ls (v5 :: v4 :: v3 :: v2 :: v1 :: vR (some a) :: st) h Q :=
  w_call hd h1 (by rw [ha]; exact ⟨rfl, rfl, by simp, by simp; omega⟩) (rok_v hk) hlay kk
theorem w_dloadS {f a b : Nat} (hd : dc k pc = some (.dload f, pc')) (hg : KD h a = kFld f) (hv : FR h f a = some b) (kk : Wp G d k pc' ls (vR (some b) :: st) h Q) : Wp G d k pc ls (vR (some a) :: st) h Q := w_dload hd hg (by rw [hv]; exact kk)
theorem w_aaloadS {i : Int} {b c : Nat} (hd : dc k pc = some (.aaload, pc')) (hg : isRA (KD h b) = true ∧ bnd i (LN h b)) (hv : AR h b i.toNat = some c) (kk : Wp G d k pc' ls (vR (some c) :: st) h Q) : Wp G d k pc ls (vI i :: vR (some b) :: st) h Q := w_aaload hd hg (by rw [hv]; exact kk)
theorem w_getstaticS {g a : Nat} (hd : dc k pc = some (.getstatic g, pc')) (hv : G g = some a) (kk : Wp G d k pc' ls (vR (some a) :: st) h Q) : Wp G d k pc ls st h Q := w_getstatic hd (by rw [hv]; exact kk)
theorem w_getI {f a : Nat} {x : Int} (hd : dc k pc = some (.getfield f, pc')) (hg : KD h a = kFld f) (hv : FI h f a = x) (kk : Wp G d k pc' ls (vI x :: st) h Q) : Wp G d k pc ls (vR (some a) :: st) h Q := w_getfield hd hg (by rw [hv]; exact kk)
end RULES3
theorem FI_sFI (h : Hp) (f a : Nat) (v : Int) (g b : Nat) : FI (sFI h f a v) g b = if g = f ∧ b = a then v else FI h g b := rfl
theorem FL_sFI (h : Hp) (f a : Nat) (v : Int) : FL (sFI h f a v) = FL h := rfl
theorem FR_sFI (h : Hp) (f a : Nat) (v : Int) : FR (sFI h f a v) = FR h := rfl
theorem AI_sFI (h : Hp) (f a : Nat) (v : Int) : AI (sFI h f a v) = AI h := rfl
theorem AL_sFI (h : Hp) (f a : Nat) (v : Int) : AL (sFI h f a v) = AL h := rfl
theorem AR_sFI (h : Hp) (f a : Nat) (v : Int) : AR (sFI h f a v) = AR h := rfl
theorem KD_sFI (h : Hp) (f a : Nat) (v : Int) : KD (sFI h f a v) = KD h := rfl
theorem LN_sFI (h : Hp) (f a : Nat) (v : Int) : LN (sFI h f a v) = LN h := rfl
theorem NX_sFI (h : Hp) (f a : Nat) (v : Int) : NX (sFI h f a v) = NX h := rfl
theorem SL_sFI (h : Hp) (f a : Nat) (v : Int) : SL (sFI h f a v) = SL h := rfl
theorem FI_sFL (h : Hp) (f a : Nat) (v : Int64) : FI (sFL h f a v) = FI h := rfl
theorem FL_sFL (h : Hp) (f a : Nat) (v : Int64) (g b : Nat) : FL (sFL h f a v) g b = if g = f ∧ b = a then v else FL h g b := rfl
theorem FR_sFL (h : Hp) (f a : Nat) (v : Int64) : FR (sFL h f a v) = FR h := rfl
theorem AI_sFL (h : Hp) (f a : Nat) (v : Int64) : AI (sFL h f a v) = AI h := rfl
theorem AL_sFL (h : Hp) (f a : Nat) (v : Int64) : AL (sFL h f a v) = AL h := rfl
theorem AR_sFL (h : Hp) (f a : Nat) (v : Int64) : AR (sFL h f a v) = AR h := rfl
theorem KD_sFL (h : Hp) (f a : Nat) (v : Int64) : KD (sFL h f a v) = KD h := rfl
theorem LN_sFL (h : Hp) (f a : Nat) (v : Int64) : LN (sFL h f a v) = LN h := rfl
theorem NX_sFL (h : Hp) (f a : Nat) (v : Int64) : NX (sFL h f a v) = NX h := rfl
theorem SL_sFL (h : Hp) (f a : Nat) (v : Int64) : SL (sFL h f a v) = SL h := rfl
theorem FI_sFR (h : Hp) (f a : Nat) (v : Option Nat) : FI (sFR h f a v) = FI h := rfl
theorem FL_sFR (h : Hp) (f a : Nat) (v : Option Nat) : FL (sFR h f a v) = FL h := rfl
theorem FR_sFR (h : Hp) (f a : Nat) (v : Option Nat) (g b : Nat) : FR (sFR h f a v) g b = if g = f ∧ b = a then v else FR h g b := rfl
theorem AI_sFR (h : Hp) (f a : Nat) (v : Option Nat) : AI (sFR h f a v) = AI h := rfl
theorem AL_sFR (h : Hp) (f a : Nat) (v : Option Nat) : AL (sFR h f a v) = AL h := rfl
theorem AR_sFR (h : Hp) (f a : Nat) (v : Option Nat) : AR (sFR h f a v) = AR h := rfl
theorem KD_sFR (h : Hp) (f a : Nat) (v : Option Nat) : KD (sFR h f a v) = KD h := rfl
theorem LN_sFR (h : Hp) (f a : Nat) (v : Option Nat) : LN (sFR h f a v) = LN h := rfl
theorem NX_sFR (h : Hp) (f a : Nat) (v : Option Nat) : NX (sFR h f a v) = NX h := rfl
theorem SL_sFR (h : Hp) (f a : Nat) (v : Option Nat) : SL (sFR h f a v) = SL h := rfl
theorem FI_sAI (h : Hp) (f a : Nat) (v : Int) : FI (sAI h f a v) = FI h := rfl
theorem FL_sAI (h : Hp) (f a : Nat) (v : Int) : FL (sAI h f a v) = FL h := rfl
theorem FR_sAI (h : Hp) (f a : Nat) (v : Int) : FR (sAI h f a v) = FR h := rfl
theorem AI_sAI (h : Hp) (f a : Nat) (v : Int) (g b : Nat) : AI (sAI h f a v) g b = if g = f ∧ b = a then v else AI h g b := rfl
theorem AL_sAI (h : Hp) (f a : Nat) (v : Int) : AL (sAI h f a v) = AL h := rfl
theorem AR_sAI (h : Hp) (f a : Nat) (v : Int) : AR (sAI h f a v) = AR h := rfl
theorem KD_sAI (h : Hp) (f a : Nat) (v : Int) : KD (sAI h f a v) = KD h := rfl
theorem LN_sAI (h : Hp) (f a : Nat) (v : Int) : LN (sAI h f a v) = LN h := rfl
theorem NX_sAI (h : Hp) (f a : Nat) (v : Int) : NX (sAI h f a v) = NX h := rfl
theorem SL_sAI (h : Hp) (f a : Nat) (v : Int) : SL (sAI h f a v) = SL h := rfl
theorem FI_sAL (h : Hp) (f a : Nat) (v : Int64) : FI (sAL h f a v) = FI h := rfl
theorem FL_sAL (h : Hp) (f a : Nat) (v : Int64) : FL (sAL h f a v) = FL h := rfl
theorem FR_sAL (h : Hp) (f a : Nat) (v : Int64) : FR (sAL h f a v) = FR h := rfl
theorem AI_sAL (h : Hp) (f a : Nat) (v : Int64) : AI (sAL h f a v) = AI h := rfl
theorem AL_sAL (h : Hp) (f a : Nat) (v : Int64) (g b : Nat) : AL (sAL h f a v) g b = if g = f ∧ b = a then v else AL h g b := rfl
theorem AR_sAL (h : Hp) (f a : Nat) (v : Int64) : AR (sAL h f a v) = AR h := rfl
theorem KD_sAL (h : Hp) (f a : Nat) (v : Int64) : KD (sAL h f a v) = KD h := rfl
theorem LN_sAL (h : Hp) (f a : Nat) (v : Int64) : LN (sAL h f a v) = LN h := rfl
theorem NX_sAL (h : Hp) (f a : Nat) (v : Int64) : NX (sAL h f a v) = NX h := rfl
theorem SL_sAL (h : Hp) (f a : Nat) (v : Int64) : SL (sAL h f a v) = SL h := rfl
theorem FI_sAR (h : Hp) (f a : Nat) (v : Option Nat) : FI (sAR h f a v) = FI h := rfl
theorem FL_sAR (h : Hp) (f a : Nat) (v : Option Nat) : FL (sAR h f a v) = FL h := rfl
theorem FR_sAR (h : Hp) (f a : Nat) (v : Option Nat) : FR (sAR h f a v) = FR h := rfl
theorem AI_sAR (h : Hp) (f a : Nat) (v : Option Nat) : AI (sAR h f a v) = AI h := rfl
theorem AL_sAR (h : Hp) (f a : Nat) (v : Option Nat) : AL (sAR h f a v) = AL h := rfl
theorem AR_sAR (h : Hp) (f a : Nat) (v : Option Nat) (g b : Nat) : AR (sAR h f a v) g b = if g = f ∧ b = a then v else AR h g b := rfl
theorem KD_sAR (h : Hp) (f a : Nat) (v : Option Nat) : KD (sAR h f a v) = KD h := rfl
theorem LN_sAR (h : Hp) (f a : Nat) (v : Option Nat) : LN (sAR h f a v) = LN h := rfl
theorem NX_sAR (h : Hp) (f a : Nat) (v : Option Nat) : NX (sAR h f a v) = NX h := rfl
theorem SL_sAR (h : Hp) (f a : Nat) (v : Option Nat) : SL (sAR h f a v) = SL h := rfl
theorem FI_nwO (h : Hp) (c : Nat) (g b : Nat) : FI (nwO h c) g b = if b = NX h then 0 else FI h g b := rfl
theorem FL_nwO (h : Hp) (c : Nat) (g b : Nat) : FL (nwO h c) g b = if b = NX h then 0 else FL h g b := rfl
theorem FR_nwO (h : Hp) (c : Nat) (g b : Nat) : FR (nwO h c) g b = if b = NX h then none else FR h g b := rfl
theorem AI_nwO (h : Hp) (c : Nat) (b j : Nat) : AI (nwO h c) b j = if b = NX h then 0 else AI h b j := rfl
theorem AL_nwO (h : Hp) (c : Nat) (b j : Nat) : AL (nwO h c) b j = if b = NX h then 0 else AL h b j := rfl
theorem AR_nwO (h : Hp) (c : Nat) (b j : Nat) : AR (nwO h c) b j = if b = NX h then none else AR h b j := rfl
theorem KD_nwO (h : Hp) (c : Nat) (b : Nat) : KD (nwO h c) b = if b = NX h then 1 + c else KD h b := rfl
theorem LN_nwO (h : Hp) (c : Nat) (b : Nat) : LN (nwO h c) b = if b = NX h then 0 else LN h b := rfl
theorem NX_nwO (h : Hp) (c : Nat) : NX (nwO h c) = NX h + 1 := rfl
theorem SL_nwO (h : Hp) (c : Nat) : SL (nwO h c) = SL h + mN c := rfl
theorem FI_nwA (h : Hp) (kd len : Nat) (g b : Nat) : FI (nwA h kd len) g b = if b = NX h then 0 else FI h g b := rfl
theorem FL_nwA (h : Hp) (kd len : Nat) (g b : Nat) : FL (nwA h kd len) g b = if b = NX h then 0 else FL h g b := rfl
theorem FR_nwA (h : Hp) (kd len : Nat) (g b : Nat) : FR (nwA h kd len) g b = if b = NX h then none else FR h g b := rfl
theorem AI_nwA (h : Hp) (kd len : Nat) (b j : Nat) : AI (nwA h kd len) b j = if b = NX h then 0 else AI h b j := rfl
theorem AL_nwA (h : Hp) (kd len : Nat) (b j : Nat) : AL (nwA h kd len) b j = if b = NX h then 0 else AL h b j := rfl
theorem AR_nwA (h : Hp) (kd len : Nat) (b j : Nat) : AR (nwA h kd len) b j = if b = NX h then none else AR h b j := rfl
theorem KD_nwA (h : Hp) (kd len : Nat) (b : Nat) : KD (nwA h kd len) b = if b = NX h then kd else KD h b := rfl
theorem LN_nwA (h : Hp) (kd len : Nat) (b : Nat) : LN (nwA h kd len) b = if b = NX h then len else LN h b := rfl
theorem NX_nwA (h : Hp) (kd len : Nat) : NX (nwA h kd len) = NX h + 1 := rfl
theorem SL_nwA (h : Hp) (kd len : Nat) : SL (nwA h kd len) = SL h + len := rfl
theorem FI_cpI (h : Hp) (s sp t tp n : Nat) : FI (cpI h s sp t tp n) = FI h := rfl
theorem FL_cpI (h : Hp) (s sp t tp n : Nat) : FL (cpI h s sp t tp n) = FL h := rfl
theorem FR_cpI (h : Hp) (s sp t tp n : Nat) : FR (cpI h s sp t tp n) = FR h := rfl
theorem AI_cpI (h : Hp) (s sp t tp n : Nat) (b j : Nat) : AI (cpI h s sp t tp n) b j = if b = t ∧ tp ≤ j ∧ j < tp + n then AI h s (sp + (j - tp)) else AI h b j := rfl
theorem AL_cpI (h : Hp) (s sp t tp n : Nat) : AL (cpI h s sp t tp n) = AL h := rfl
theorem AR_cpI (h : Hp) (s sp t tp n : Nat) : AR (cpI h s sp t tp n) = AR h := rfl
theorem KD_cpI (h : Hp) (s sp t tp n : Nat) : KD (cpI h s sp t tp n) = KD h := rfl
theorem LN_cpI (h : Hp) (s sp t tp n : Nat) : LN (cpI h s sp t tp n) = LN h := rfl
theorem NX_cpI (h : Hp) (s sp t tp n : Nat) : NX (cpI h s sp t tp n) = NX h := rfl
theorem SL_cpI (h : Hp) (s sp t tp n : Nat) : SL (cpI h s sp t tp n) = SL h := rfl
theorem FI_cpL (h : Hp) (s sp t tp n : Nat) : FI (cpL h s sp t tp n) = FI h := rfl
theorem FL_cpL (h : Hp) (s sp t tp n : Nat) : FL (cpL h s sp t tp n) = FL h := rfl
theorem FR_cpL (h : Hp) (s sp t tp n : Nat) : FR (cpL h s sp t tp n) = FR h := rfl
theorem AI_cpL (h : Hp) (s sp t tp n : Nat) : AI (cpL h s sp t tp n) = AI h := rfl
theorem AL_cpL (h : Hp) (s sp t tp n : Nat) (b j : Nat) : AL (cpL h s sp t tp n) b j = if b = t ∧ tp ≤ j ∧ j < tp + n then AL h s (sp + (j - tp)) else AL h b j := rfl
theorem AR_cpL (h : Hp) (s sp t tp n : Nat) : AR (cpL h s sp t tp n) = AR h := rfl
theorem KD_cpL (h : Hp) (s sp t tp n : Nat) : KD (cpL h s sp t tp n) = KD h := rfl
theorem LN_cpL (h : Hp) (s sp t tp n : Nat) : LN (cpL h s sp t tp n) = LN h := rfl
theorem NX_cpL (h : Hp) (s sp t tp n : Nat) : NX (cpL h s sp t tp n) = NX h := rfl
theorem SL_cpL (h : Hp) (s sp t tp n : Nat) : SL (cpL h s sp t tp n) = SL h := rfl
