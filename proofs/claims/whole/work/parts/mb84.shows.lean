/-! the tie: what is shown of the state -/
theorem st_tie {v w : HoS} (T : tie v w) (b : BkV) (tp la : Nat) (i : Int) : stV w b tp la i = stV v b tp la i := by
  obtain ⟨⟨vf, vg⟩, vr, vp, vz⟩ := v
  obtain ⟨⟨wf, wg⟩, wr, wp, wz⟩ := w
  obtain ⟨t1, t2, t3, t4⟩ := T
  have e1 : wg = vg := t1.1
  have e2 : vr = wr := t2
  have e3 : vz = wz := t3
  have e4 : wf.length = vf.length := t1.2.2.1
  subst e1 e2 e3
  unfold stV
  show (if i = 0 then ((wf.length : Nat) : Int) else _) = (if i = 0 then ((vf.length : Nat) : Int) else _)
  rw [e4]
  rfl
theorem by_tie (B : Nat → Nat) (i : Int) : byB (fun j => ((B j : Nat) : Int)) i = bAt B i := by
  unfold byB bAt
  rfl
/-- what the invariant gives the reference -/
theorem cInv.m {k : Nat} {v w : HoS} {b : BkV} (I : cInv k v w) (hk : k ≤ 50000) (hb : b.2.1 ≤ 2048 ∧ b.2.2.1 ≤ b.2.1) : mInv k w b v.1.1 := ⟨I.2.2.1, hk, I.2.2.2.2.2.1, fun x => I.2.1.1.mem x, I.2.2.2.2.1.2, hb⟩
