/-! the reference: what stands behind a request's first word -/
/-- a form is wrong from there on -/
def Bf (l : List Nat) (a : Nat) (f : List Nat) (p : Nat) : Prop := ∀ g, (pFo l (f ++ g) a).1 = false ∧ (pFo l (f ++ g) a).2.1 = p
section JFS
variable {l f : List Nat} {a p : Nat} {w : Int} {ws : List (List Nat)} {ns : List Nat}
/-- the form is right up to p, or wrong there -/
def JF (l : List Nat) (a : Nat) (f : List Nat) (p : Nat) (w : Int) (ws : List (List Nat)) (ns : List Nat) : Prop := (w = -1 ∧ pFo l f a = (true, p, ws, ns)) ∨ badJ (Bf l a f) p w
theorem JF.nil : JF l a [] a (-1) [] [] := Or.inl ⟨rfl, rfl⟩
theorem Bf.up {g : List Nat} (h : Bf l a f p) : Bf l a (f ++ g) p := fun y => by rw [List.append_assoc]; exact h _
theorem Bf_bad {c : Nat} (e : pFo l f a = (true, p, ws, ns)) (h : pOk l c p = false) {q : Nat} (h2 : pEnd l c p = q) : Bf l a (f ++ [c]) q := fun g => by
  have e2 : pFo l (f ++ [c]) a = (pOk l c p, pEnd l c p, pWs l c p ws, pNs l c p ns) := by
    rw [pFo_snoc, e]
    unfold pStep
    rw [if_pos rfl]
  rw [pFo_bad (by rw [e2]; exact h) g, e2]
  exact ⟨h, h2⟩
theorem JF_ok {c : Nat} (e : pFo l f a = (true, p, ws, ns)) (h : pOk l c p = true) : pFo l (f ++ [c]) a = (true, pEnd l c p, pWs l c p ws, pNs l c p ns) := by
  rw [pFo_snoc, e]
  unfold pStep
  rw [if_pos rfl, h]
theorem JF.sign {c : Nat} (J : JF l a f p w ws ns) (hc : ¬ (c = 97 ∨ c = 112 ∨ c = 110 ∨ c = 116 ∨ c = 100 ∨ c = 118 ∨ c = 114) := by decide) : JF l a (f ++ [c]) (rxp l c p w).1 (rxp l c p w).2 ws ns := by
  have o : pOk l c p = pSign l c p := by
    unfold pOk
    rw [if_neg (by omega), if_neg (by omega), if_neg (by omega), if_neg (by omega), if_neg (by omega), if_neg (by omega), if_neg (by omega)]
  have e : pEnd l c p = if pSign l c p = true then p + 1 else p := by
    unfold pEnd
    rw [if_neg (by omega), if_neg (by omega), if_neg (by omega), if_neg (by omega), if_neg (by omega), if_neg (by omega), if_neg (by omega)]
  have w1 : pWs l c p ws = ws := by unfold pWs; rw [if_neg (by omega), if_neg (by omega)]
  have n1 : pNs l c p ns = ns := by unfold pNs; rw [if_neg (by omega), if_neg (by omega)]
  rcases J with ⟨j1, j2⟩ | ⟨j1, j2⟩
  · subst j1
    cases hz : pSign l c p with
    | true =>
      rw [rxp_y hz]
      refine Or.inl ⟨rfl, ?_⟩
      rw [JF_ok j2 (by rw [o]; exact hz), e, if_pos hz, w1, n1]
    | false =>
      rw [rxp_n hz]
      exact Or.inr ⟨rfl, Bf_bad j2 (by rw [o]; exact hz) (by rw [e, hz]; rfl)⟩
  · have e : rxp l c p w = (p, w) := if_pos (by omega)
    rw [e]
    exact Or.inr ⟨j1, j2.up⟩
theorem JF.word {b : Bool} (J : JF l a f p w ws ns) : JF l a (f ++ [if b = true then 112 else 97]) (rsg l b p w).1 (rsg l b p w).2 (wPush ws (sl l p (rsg l b p w).1)) ns := by
  rcases J with ⟨j1, j2⟩ | ⟨j1, j2⟩
  · subst j1
    rw [rsg_s]
    cases b with
    | true =>
      have o : pOk l 112 p = pWord l 12 46 p := rfl
      show JF l a (f ++ [112]) (if pWord l 12 46 p = true then (wordE l p 12 46, -1) else (p, (p : Int))).1 (if pWord l 12 46 p = true then (wordE l p 12 46, -1) else (p, (p : Int))).2 (wPush ws (sl l p (if pWord l 12 46 p = true then (wordE l p 12 46, (-1 : Int)) else (p, (p : Int))).1)) ns
      cases hz : pWord l 12 46 p with
      | true =>
        refine Or.inl ⟨rfl, ?_⟩
        rw [JF_ok j2 (by rw [o]; exact hz)]
        unfold pWs pNs
        simp only [show ¬ (112 : Nat) = 97 by decide, show ¬ (112 : Nat) = 110 by decide, show ¬ (112 : Nat) = 118 by decide, if_false, if_true, hz]
        rfl
      | false => exact Or.inr ⟨rfl, Bf_bad j2 (by rw [o]; exact hz) (pWord_f hz)⟩
    | false =>
      have o : pOk l 97 p = pWord l 8 48 p := rfl
      show JF l a (f ++ [97]) (if pWord l 8 48 p = true then (wordE l p 8 48, -1) else (p, (p : Int))).1 (if pWord l 8 48 p = true then (wordE l p 8 48, -1) else (p, (p : Int))).2 (wPush ws (sl l p (if pWord l 8 48 p = true then (wordE l p 8 48, (-1 : Int)) else (p, (p : Int))).1)) ns
      cases hz : pWord l 8 48 p with
      | true =>
        refine Or.inl ⟨rfl, ?_⟩
        rw [JF_ok j2 (by rw [o]; exact hz)]
        unfold pWs pNs
        simp only [show ¬ (97 : Nat) = 110 by decide, show ¬ (97 : Nat) = 118 by decide, if_false, if_true, hz]
        rfl
      | false => exact Or.inr ⟨rfl, Bf_bad j2 (by rw [o]; exact hz) (pWord_f hz)⟩
  · have e : rsg l b p w = (p, w) := if_pos (by omega)
    rw [e]
    exact Or.inr ⟨j1, j2.up⟩
theorem JF.num (J : JF l a f p w ws ns) : JF l a (f ++ [110]) (rnm l p w).2.1 (rnm l p w).2.2 ws (ns ++ [(rnm l p w).1]) := by
  rcases J with ⟨j1, j2⟩ | ⟨j1, j2⟩
  · subst j1
    rw [rnm_s]
    have o : pOk l 110 p = pNum l p := rfl
    cases hz : pNum l p with
    | true =>
      refine Or.inl ⟨rfl, ?_⟩
      rw [JF_ok j2 (by rw [o]; exact hz)]
      unfold pWs pNs
      simp only [show ¬ (110 : Nat) = 97 by decide, show ¬ (110 : Nat) = 112 by decide, if_false, if_true, hz]
      rfl
    | false => exact Or.inr ⟨rfl, Bf_bad j2 (by rw [o]; exact hz) (pNum_f hz)⟩
  · have e : rnm l p w = (0, p, w) := if_pos (by omega)
    rw [e]
    exact Or.inr ⟨j1, j2.up⟩
theorem JF.one {c q : Nat} {b : Bool} (J : pFo l f a = (true, p, ws, ns)) (ho : pOk l c p = b) (he : pEnd l c p = q) (hw : pWs l c p ws = ws) (hn : pNs l c p ns = ns) : JF l a (f ++ [c]) q (wOf b q) ws ns := by
  cases b with
  | true => refine Or.inl ⟨rfl, ?_⟩; rw [JF_ok J ho, he, hw, hn]
  | false => exact Or.inr ⟨rfl, Bf_bad J ho he⟩
theorem JF.text (J : pFo l f a = (true, p, ws, ns)) : JF l a (f ++ [116]) (rxp l 62 (rtE l (rxp l 60 p (-1))) (rxp l 60 p (-1)).2).1 (rxp l 62 (rtE l (rxp l 60 p (-1))) (rxp l 60 p (-1)).2).2 ws ns := by
  have o : pOk l 116 p = if pSign l 60 p = true then pSign l 62 (txE l p) else false := rfl
  have e : pEnd l 116 p = if pSign l 60 p = true then (if pSign l 62 (txE l p) = true then txE l p + 1 else txE l p) else p := rfl
  have r60 : rxp l ((60 : Nat) : Int) p (-1) = rxp l 60 p (-1) := rfl
  have r62 : ∀ q v, rxp l ((62 : Nat) : Int) q v = rxp l 62 q v := fun q v => rfl
  cases hz : pSign l 60 p with
  | false =>
    rw [← r60, rxp_n hz]
    have e1 : rtE l (p, (p : Int)) = p := if_pos (by show (0 : Int) ≤ (p : Int); omega)
    have e2 : rxp l 62 p (p : Int) = (p, (p : Int)) := if_pos (by omega)
    rw [e1]
    dsimp only
    rw [e2]
    exact Or.inr ⟨rfl, Bf_bad J (by rw [o, hz]; rfl) (by rw [e, hz]; rfl)⟩
  | true =>
    rw [← r60, rxp_y hz]
    have e1 : rtE l (p + 1, -1) = txE l p := if_neg (show ¬ (0 : Int) ≤ -1 by decide)
    rw [e1]
    dsimp only
    cases hy : pSign l 62 (txE l p) with
    | true =>
      rw [← r62, rxp_y hy]
      refine Or.inl ⟨rfl, ?_⟩
      rw [JF_ok J (by rw [o, if_pos hz]; exact hy), e, if_pos hz, if_pos hy]
      rfl
    | false =>
      rw [← r62, rxp_n hy]
      exact Or.inr ⟨rfl, Bf_bad J (by rw [o, if_pos hz]; exact hy) (by rw [e, if_pos hz, hy]; rfl)⟩
theorem JF.right (J : JF l a f p w ws ns) (h : ¬ 0 ≤ w) : w = -1 ∧ pFo l f a = (true, p, ws, ns) := jw J h
theorem JF.wrong {g : List Nat} (J : JF l a f p w ws ns) (h : 0 ≤ w) {ws' : List (List Nat)} {ns' : List Nat} : JF l a (f ++ g) p w ws' ns' := Or.inr ⟨(jb J h).1, (jb J h).2.up⟩
end JFS
/-- the form of n numbers -/
def nfo : Nat → List Nat
  | 0 => []
  | n + 1 => if n = 0 then [110] else nfo n ++ [32, 110]
theorem rnS_j {l : List Nat} {a : Nat} : ∀ n, JF l a (nfo n) (rnS l (a, -1) n).2.1 (rnS l (a, -1) n).2.2 [] (rnS l (a, -1) n).1
  | 0 => JF.nil
  | n + 1 => by
    have J := rnS_j (l := l) (a := a) n
    rw [rnS, nfo]
    by_cases z : n = 0
    · subst z
      rw [if_pos rfl]
      exact JF.num (f := []) J
    · have e : nfo n ++ [32, 110] = (nfo n ++ [32]) ++ [110] := by rw [List.append_assoc]; rfl
      have q : rnQ l n (rnS l (a, -1) n).2 = rxp l 32 (rnS l (a, -1) n).2.1 (rnS l (a, -1) n).2.2 := if_pos (by omega)
      rw [if_neg z, q, e]
      exact (JF.sign (c := 32) J).num
def nmQ (k : Nat) : Bool := decide (k ∈ [1, 2, 3, 5, 6, 9, 14, 16, 17, 18, 21, 22, 23, 24, 25, 27])
def baB (k : Nat) : Bool := decide (k ∈ [0, 8, 12, 13, 15, 19, 20, 26, 28, 29, 31, 34])
/-- where the words of a request lie -/
def RdF (S : Shp) (h : Hp) (m : Nat) (l : List Nat) (a k : Nat) : Prop :=
  (nmQ k = true → ∃ f e : Nat, NmR h m f e ∧ f ≤ e ∧ e ≤ l.length ∧ sl l f e = (pFo l (vf k) a).2.2.1.getD 0 []) ∧
  (k = 1 → FI h 1746 m = (((pFo l [112, 32] a).2.1 + 1 : Nat) : Int) ∧ FI h 1747 m = ((txE l (pFo l [112, 32] a).2.1 : Nat) : Int)) ∧
  (k = 4 → TdR S h m l (pDef l a).2.2) ∧
  (k = 24 → ∃ f e : Nat, FI h 1744 m = (f : Int) ∧ FI h 1745 m = (e : Int) ∧ f ≤ e ∧ e ≤ l.length ∧ sl l f e = (pFo l (vf k) a).2.2.1.getD 1 []) ∧
  (∀ i, i < nmK k → AI h (sT S 1741 m) i = (((pFo l (vf k) a).2.2.2.getD i 0 : Nat) : Int)) ∧
  (k = 32 → FI h 1761 m = ((a : Nat) : Int)) ∧ (k = 30 → FI h 1760 m = (((pFo l (vf k) a).2.2.2.length : Nat) : Int) ∧ LsA S h m 1759 (pFo l (vf k) a).2.2.2)
theorem vf_k2 : ∀ t : Fin 35, (baB t.val = true → vf t.val = []) ∧ (t.val = 2 ∨ t.val = 14 ∨ t.val = 23 → vf t.val = [112]) ∧ (t.val = 7 ∨ t.val = 33 → vf t.val = nfo 1) ∧ (t.val = 10 → vf t.val = nfo 3) ∧ (t.val = 11 → vf t.val = nfo 5) ∧ (t.val = 32 → vf t.val = [114]) ∧ (t.val = 30 → vf t.val = [118]) ∧
   (baB t.val = false → t.val ∉ [1, 2, 14, 23, 4, 7, 33, 10, 11, 32, 3, 24, 30] → vf t.val = [97]) := by decide +kernel
def RdJ (S : Shp) (h : Hp) (m : Nat) (l : List Nat) (a k p : Nat) (w : Int) : Prop := (w = -1 ∧ (pFo l (vf k) a).1 = true ∧ (pFo l (vf k) a).2.1 = p ∧ RdF S h m l a k) ∨ badJ (fun p => (pFo l (vf k) a).1 = false ∧ (pFo l (vf k) a).2.1 = p) p w
theorem fin_j {S : Shp} {h : Hp} {m a k p : Nat} {l f : List Nat} {w : Int} {ws : List (List Nat)} {ns : List Nat} (J : JF l a f p w ws ns) (e : vf k = f) (hR : w = -1 → pFo l (vf k) a = (true, p, ws, ns) → RdF S h m l a k) : RdJ S h m l a k p w := by
  rcases J with ⟨j1, j2⟩ | ⟨j1, j2⟩
  · have j2 : pFo l (vf k) a = (true, p, ws, ns) := by rw [e]; exact j2
    exact Or.inl ⟨j1, by rw [j2], by rw [j2], hR j1 j2⟩
  · refine Or.inr ⟨j1, ?_⟩
    have := j2 []
    rw [List.append_nil, ← e] at this
    exact this
theorem text_good {l : List Nat} {p : Nat} (h : (rxp l 62 (rtE l (rxp l 60 p (-1))) (rxp l 60 p (-1)).2).2 = -1) : (rxp l 60 p (-1)).1 = p + 1 ∧ rtE l (rxp l 60 p (-1)) = txE l p := by
  have r60 : rxp l ((60 : Nat) : Int) p (-1) = rxp l 60 p (-1) := rfl
  cases hz : pSign l 60 p with
  | false =>
    exfalso
    rw [← r60, rxp_n hz] at h
    have e1 : rtE l (p, (p : Int)) = p := if_pos (by show (0 : Int) ≤ (p : Int); omega)
    have e2 : rxp l 62 p (p : Int) = (p, (p : Int)) := if_pos (by omega)
    rw [e1] at h
    dsimp only at h
    rw [e2] at h
    dsimp only at h
    omega
  | true =>
    rw [← r60, rxp_y hz]
    exact ⟨rfl, if_neg (show ¬ (0 : Int) ≤ -1 by decide)⟩
theorem nmK_0 {k i : Nat} (h : i < nmK k) : k = 3 ∨ k = 7 ∨ k = 33 ∨ k = 10 ∨ k = 11 := by
  unfold nmK at h
  split at h
  · omega
  · split at h
    · omega
    · split at h <;> omega
theorem JF.cg {l f f' : List Nat} {a p p' : Nat} {w w' : Int} {ws : List (List Nat)} {ns : List Nat} (J : JF l a f p w ws ns) (e1 : f = f') (e2 : p = p') (e3 : w = w') : JF l a f' p' w' ws ns := by subst e1 e2 e3; exact J
theorem d207_0 : dc 207 0 = some (.aload_n 0, 1) := by decide +kernel
theorem d207_1 : dc 207 1 = some (.getfield 1739, 4) := by decide +kernel
theorem d207_4 : dc 207 4 = some (.iconst 1, 5) := by decide +kernel
theorem d207_5 : dc 207 5 = some (.if_icmp .eq ((34 : Nat) : Int), 8) := by decide +kernel
theorem d207_8 : dc 207 8 = some (.aload_n 0, 9) := by decide +kernel
theorem d207_9 : dc 207 9 = some (.getfield 1739, 12) := by decide +kernel
theorem d207_12 : dc 207 12 = some (.iconst 2, 13) := by decide +kernel
theorem d207_13 : dc 207 13 = some (.if_icmp .eq ((34 : Nat) : Int), 16) := by decide +kernel
theorem d207_16 : dc 207 16 = some (.aload_n 0, 17) := by decide +kernel
theorem d207_17 : dc 207 17 = some (.getfield 1739, 20) := by decide +kernel
theorem d207_20 : dc 207 20 = some (.bipush 14, 22) := by decide +kernel
theorem d207_22 : dc 207 22 = some (.if_icmp .eq ((34 : Nat) : Int), 25) := by decide +kernel
theorem d207_25 : dc 207 25 = some (.aload_n 0, 26) := by decide +kernel
theorem d207_26 : dc 207 26 = some (.getfield 1739, 29) := by decide +kernel
theorem d207_29 : dc 207 29 = some (.bipush 23, 31) := by decide +kernel
theorem d207_31 : dc 207 31 = some (.if_icmp .ne ((67 : Nat) : Int), 34) := by decide +kernel
theorem d207_34 : dc 207 34 = some (.aload_n 0, 35) := by decide +kernel
theorem d207_35 : dc 207 35 = some (.invokevirtual 208, 38) := by decide +kernel
theorem d207_38 : dc 207 38 = some (.aload_n 0, 39) := by decide +kernel
theorem d207_39 : dc 207 39 = some (.getfield 1739, 42) := by decide +kernel
theorem d207_42 : dc 207 42 = some (.iconst 1, 43) := by decide +kernel
theorem d207_43 : dc 207 43 = some (.if_icmp .eq ((47 : Nat) : Int), 46) := by decide +kernel
theorem d207_46 : dc 207 46 = some (.return_, 47) := by decide +kernel
theorem d207_47 : dc 207 47 = some (.aload_n 0, 48) := by decide +kernel
theorem d207_48 : dc 207 48 = some (.bipush 32, 50) := by decide +kernel
theorem d207_50 : dc 207 50 = some (.invokevirtual 204, 53) := by decide +kernel
theorem d207_53 : dc 207 53 = some (.aload_n 0, 54) := by decide +kernel
theorem d207_54 : dc 207 54 = some (.getfield 1738, 57) := by decide +kernel
theorem d207_57 : dc 207 57 = some (.ifCond .ge ((249 : Nat) : Int), 60) := by decide +kernel
theorem d207_60 : dc 207 60 = some (.aload_n 0, 61) := by decide +kernel
theorem d207_61 : dc 207 61 = some (.invokevirtual 211, 64) := by decide +kernel
theorem d207_64 : dc 207 64 = some (.goto ((249 : Nat) : Int), 67) := by decide +kernel
theorem d207_67 : dc 207 67 = some (.aload_n 0, 68) := by decide +kernel
theorem d207_68 : dc 207 68 = some (.getfield 1739, 71) := by decide +kernel
theorem d207_71 : dc 207 71 = some (.iconst 4, 72) := by decide +kernel
theorem d207_72 : dc 207 72 = some (.if_icmp .ne ((82 : Nat) : Int), 75) := by decide +kernel
theorem d207_75 : dc 207 75 = some (.aload_n 0, 76) := by decide +kernel
theorem d207_76 : dc 207 76 = some (.invokevirtual 212, 79) := by decide +kernel
theorem d207_79 : dc 207 79 = some (.goto ((249 : Nat) : Int), 82) := by decide +kernel
theorem d207_82 : dc 207 82 = some (.aload_n 0, 83) := by decide +kernel
theorem d207_83 : dc 207 83 = some (.getfield 1739, 86) := by decide +kernel
theorem d207_86 : dc 207 86 = some (.bipush 7, 88) := by decide +kernel
theorem d207_88 : dc 207 88 = some (.if_icmp .eq ((100 : Nat) : Int), 91) := by decide +kernel
theorem d207_91 : dc 207 91 = some (.aload_n 0, 92) := by decide +kernel
theorem d207_92 : dc 207 92 = some (.getfield 1739, 95) := by decide +kernel
theorem d207_95 : dc 207 95 = some (.bipush 33, 97) := by decide +kernel
theorem d207_97 : dc 207 97 = some (.if_icmp .ne ((108 : Nat) : Int), 100) := by decide +kernel
theorem d207_100 : dc 207 100 = some (.aload_n 0, 101) := by decide +kernel
theorem d207_101 : dc 207 101 = some (.iconst 1, 102) := by decide +kernel
theorem d207_102 : dc 207 102 = some (.invokevirtual 215, 105) := by decide +kernel
theorem d207_105 : dc 207 105 = some (.goto ((249 : Nat) : Int), 108) := by decide +kernel
theorem d207_108 : dc 207 108 = some (.aload_n 0, 109) := by decide +kernel
theorem d207_109 : dc 207 109 = some (.getfield 1739, 112) := by decide +kernel
theorem d207_112 : dc 207 112 = some (.bipush 10, 114) := by decide +kernel
theorem d207_114 : dc 207 114 = some (.if_icmp .eq ((126 : Nat) : Int), 117) := by decide +kernel
theorem d207_117 : dc 207 117 = some (.aload_n 0, 118) := by decide +kernel
theorem d207_118 : dc 207 118 = some (.getfield 1739, 121) := by decide +kernel
theorem d207_121 : dc 207 121 = some (.bipush 11, 123) := by decide +kernel
theorem d207_123 : dc 207 123 = some (.if_icmp .ne ((147 : Nat) : Int), 126) := by decide +kernel
theorem d207_126 : dc 207 126 = some (.aload_n 0, 127) := by decide +kernel
theorem d207_127 : dc 207 127 = some (.aload_n 0, 128) := by decide +kernel
theorem d207_128 : dc 207 128 = some (.getfield 1739, 131) := by decide +kernel
theorem d207_131 : dc 207 131 = some (.bipush 10, 133) := by decide +kernel
theorem d207_133 : dc 207 133 = some (.if_icmp .ne ((140 : Nat) : Int), 136) := by decide +kernel
theorem d207_136 : dc 207 136 = some (.iconst 3, 137) := by decide +kernel
theorem d207_137 : dc 207 137 = some (.goto ((141 : Nat) : Int), 140) := by decide +kernel
theorem d207_140 : dc 207 140 = some (.iconst 5, 141) := by decide +kernel
theorem d207_141 : dc 207 141 = some (.invokevirtual 215, 144) := by decide +kernel
theorem d207_144 : dc 207 144 = some (.goto ((249 : Nat) : Int), 147) := by decide +kernel
theorem d207_147 : dc 207 147 = some (.aload_n 0, 148) := by decide +kernel
theorem d207_148 : dc 207 148 = some (.getfield 1739, 151) := by decide +kernel
theorem d207_151 : dc 207 151 = some (.bipush 32, 153) := by decide +kernel
theorem d207_153 : dc 207 153 = some (.if_icmp .ne ((163 : Nat) : Int), 156) := by decide +kernel
theorem d207_156 : dc 207 156 = some (.aload_n 0, 157) := by decide +kernel
theorem d207_157 : dc 207 157 = some (.invokevirtual 216, 160) := by decide +kernel
theorem d207_160 : dc 207 160 = some (.goto ((249 : Nat) : Int), 163) := by decide +kernel
theorem d207_163 : dc 207 163 = some (.aload_n 0, 164) := by decide +kernel
theorem d207_164 : dc 207 164 = some (.invokevirtual 213, 167) := by decide +kernel
theorem d207_167 : dc 207 167 = some (.aload_n 0, 168) := by decide +kernel
theorem d207_168 : dc 207 168 = some (.getfield 1739, 171) := by decide +kernel
theorem d207_171 : dc 207 171 = some (.iconst 3, 172) := by decide +kernel
theorem d207_172 : dc 207 172 = some (.if_icmp .ne ((194 : Nat) : Int), 175) := by decide +kernel
theorem d207_175 : dc 207 175 = some (.aload_n 0, 176) := by decide +kernel
theorem d207_176 : dc 207 176 = some (.bipush 32, 178) := by decide +kernel
theorem d207_178 : dc 207 178 = some (.invokevirtual 204, 181) := by decide +kernel
theorem d207_181 : dc 207 181 = some (.aload_n 0, 182) := by decide +kernel
theorem d207_182 : dc 207 182 = some (.dload 1741, 185) := by decide +kernel
theorem d207_185 : dc 207 185 = some (.iconst 0, 186) := by decide +kernel
theorem d207_186 : dc 207 186 = some (.aload_n 0, 187) := by decide +kernel
theorem d207_187 : dc 207 187 = some (.invokevirtual 214, 190) := by decide +kernel
theorem d207_190 : dc 207 190 = some (.iastore, 191) := by decide +kernel
theorem d207_191 : dc 207 191 = some (.goto ((249 : Nat) : Int), 194) := by decide +kernel
theorem d207_194 : dc 207 194 = some (.aload_n 0, 195) := by decide +kernel
theorem d207_195 : dc 207 195 = some (.getfield 1739, 198) := by decide +kernel
theorem d207_198 : dc 207 198 = some (.bipush 24, 200) := by decide +kernel
theorem d207_200 : dc 207 200 = some (.if_icmp .ne ((249 : Nat) : Int), 203) := by decide +kernel
theorem d207_203 : dc 207 203 = some (.aload_n 0, 204) := by decide +kernel
theorem d207_204 : dc 207 204 = some (.bipush 32, 206) := by decide +kernel
theorem d207_206 : dc 207 206 = some (.invokevirtual 204, 209) := by decide +kernel
theorem d207_209 : dc 207 209 = some (.aload_n 0, 210) := by decide +kernel
theorem d207_210 : dc 207 210 = some (.getfield 1742, 213) := by decide +kernel
theorem d207_213 : dc 207 213 = some (.istore_n 1, 214) := by decide +kernel
theorem d207_214 : dc 207 214 = some (.aload_n 0, 215) := by decide +kernel
theorem d207_215 : dc 207 215 = some (.getfield 1743, 218) := by decide +kernel
theorem d207_218 : dc 207 218 = some (.istore_n 2, 219) := by decide +kernel
theorem d207_219 : dc 207 219 = some (.aload_n 0, 220) := by decide +kernel
theorem d207_220 : dc 207 220 = some (.invokevirtual 213, 223) := by decide +kernel
theorem d207_223 : dc 207 223 = some (.aload_n 0, 224) := by decide +kernel
theorem d207_224 : dc 207 224 = some (.aload_n 0, 225) := by decide +kernel
theorem d207_225 : dc 207 225 = some (.getfield 1742, 228) := by decide +kernel
theorem d207_228 : dc 207 228 = some (.putfield 1744, 231) := by decide +kernel
theorem d207_231 : dc 207 231 = some (.aload_n 0, 232) := by decide +kernel
theorem d207_232 : dc 207 232 = some (.aload_n 0, 233) := by decide +kernel
theorem d207_233 : dc 207 233 = some (.getfield 1743, 236) := by decide +kernel
theorem d207_236 : dc 207 236 = some (.putfield 1745, 239) := by decide +kernel
theorem d207_239 : dc 207 239 = some (.aload_n 0, 240) := by decide +kernel
theorem d207_240 : dc 207 240 = some (.iload_n 1, 241) := by decide +kernel
theorem d207_241 : dc 207 241 = some (.putfield 1742, 244) := by decide +kernel
theorem d207_244 : dc 207 244 = some (.aload_n 0, 245) := by decide +kernel
theorem d207_245 : dc 207 245 = some (.iload_n 2, 246) := by decide +kernel
theorem d207_246 : dc 207 246 = some (.putfield 1743, 249) := by decide +kernel
theorem d207_249 : dc 207 249 = some (.return_, 250) := by decide +kernel
theorem k_M_readRest {S : Shp} {G : Nat → Option Nat} {d : Nat} {h : Hp} {Q : Option MV → Hp → Prop} {m : Nat} {l : List Nat} {a k : Nat} (ok : Ok S h) (h1 : 6 ≤ d) (hm : sK S m = 14) (RQ : RqR S h m l) (PW : PwR h m a (-1)) (NK : FI h 1739 m = ((k : Nat) : Int)) (NI : NmI h m) (hal : a ≤ l.length) (h4 : l.length ≤ 4096) (hk : k < 35) (hnb : baB k = false) (h30 : k ≠ 30)
    (kk : ∀ h' (p : Nat) (w : Int), Fr S m [1738, 1740, 1741, 1742, 1743, 1744, 1745, 1746, 1747, 1748, 1749, 1750, 1751, 1752, 1753, 1754, 1755, 1756, 1757, 1758, 1761] h h' → RqR S h' m l → PwR h' m p w → NmI h' m → RdJ S h' m l a k p w → Q none h') : Cl G d 207 [vR (some m)] h Q := by
  show Wp G d 207 0 [some (vR (some m)), none, none] [] h Q
  have RQ_0 := RQ
  have PW_0 := PW
  have NK_0 := NK
  have NI_0 := NI
  have L34 : ∀ (m34 : Nat) , 0 = m34 → (k = 1 ∨ k = 2 ∨ k = 14 ∨ k = 23) → Wp G d 207 34 [some (vR (some m)), none, none] [] h Q := by
    intro m34
    induction m34 using Nat.strongRecOn with | ind m34 IH34 => ?_
    intro  hm34 ks
    refine w_aload_n d207_34 rfl ?_
    refine w_callv1 d207_35 (by omega) rfl (ok.kd hm) (by simp) (Nat.le_of_ble_eq_true rfl) ?_
    refine k_M_readPath ok (by omega) hm RQ PW (fun h35 f35 RQ PW NM => ?_)
    have ok35 := f35.ok
    have FR35 := Fr.le (F := [1738, 1740, 1741, 1742, 1743, 1744, 1745, 1746, 1747, 1748, 1749, 1750, 1751, 1752, 1753, 1754, 1755, 1756, 1757, 1758, 1761]) f35 (by decide)
    have NK := (f35.i 1739).trans NK
    have nr1 := rsg_rg (b := true) (w := -1) hal
    have J1 := JF.word (b := true) (JF.nil (l := l) (a := a))
    change JF l a [112] (rsg l true a (-1)).1 (rsg l true a (-1)).2 [sl l a (rsg l true a (-1)).1] [] at J1
    refine w_aload_n d207_38 rfl ?_
    refine w_getI (x := ((k : Nat) : Int)) d207_39 (ok35.kd hm) NK ?_
    refine w_iconst d207_42 (by decide) ?_
    refine w_icmpeq d207_43 (fun c43 => ?_) (fun c43 => ?_)
    · have k1 : k = 1 := by omega
      subst k1
      refine w_aload_n d207_47 rfl ?_
      refine w_bipush d207_48 (by decide) ?_
      refine w_callv2 d207_50 (by omega) rfl (ok35.kd hm) (by simp) (Nat.le_of_ble_eq_true rfl) ?_
      refine k_M_expect (c := ((32 : Nat) : Int)) ok35 (by omega) hm RQ PW (by decide) (fun h50 f50 RQ PW => ?_)
      have ok50 := f50.ok
      have FR50 := Fr.tr (F := [1738, 1740, 1741, 1742, 1743, 1744, 1745, 1746, 1747, 1748, 1749, 1750, 1751, 1752, 1753, 1754, 1755, 1756, 1757, 1758, 1761]) FR35 f50 (by decide) (by decide)
      have NK := (f50.i 1739).trans NK
      have NM := NM.r f50 hm
      have J2 := JF.sign (c := 32) J1
      change JF l a [112, 32] (rxp l ((32 : Nat) : Int) (rsg l true a (-1)).1 (rsg l true a (-1)).2).1 (rxp l ((32 : Nat) : Int) (rsg l true a (-1)).1 (rsg l true a (-1)).2).2 _ _ at J2
      have x2l : (rxp l ((32 : Nat) : Int) (rsg l true a (-1)).1 (rsg l true a (-1)).2).1 ≤ l.length := rxp_le nr1.2 (by decide)
      refine w_aload_n d207_53 rfl ?_
      refine w_getI (x := (rxp l ((32 : Nat) : Int) (rsg l true a (-1)).1 (rsg l true a (-1)).2).2) d207_54 (ok50.kd hm) PW.2 ?_
      refine w_ifge d207_57 (fun c57 => ?_) (fun c57 => ?_)
      · refine w_return d207_249 ?_
        refine kk _ _ _ FR50 RQ PW ⟨a, (rsg l true a (-1)).1, NM, nr1.1, by have := RQ.2.1; omega⟩ (fin_j (k := 1) (JF.wrong (g := [116]) J2 (by omega) (ws' := []) (ns' := [])) vf_x.1 (fun z _ => absurd z (by omega)))
      · obtain ⟨w2, e2⟩ := J2.right (by omega)
        rw [w2] at PW
        have J3 := JF.text e2
        change JF l a [112, 32, 116] _ _ _ _ at J3
        refine w_aload_n d207_60 rfl ?_
        refine w_callv1 d207_61 (by omega) rfl (ok50.kd hm) (by simp) (Nat.le_of_ble_eq_true rfl) ?_
        refine k_M_readText ok50 (by omega) hm RQ PW x2l (fun h61 f61 RQ PW T1 T2 => ?_)
        have ok61 := f61.ok
        have FR61 := Fr.tr (F := [1738, 1740, 1741, 1742, 1743, 1744, 1745, 1746, 1747, 1748, 1749, 1750, 1751, 1752, 1753, 1754, 1755, 1756, 1757, 1758, 1761]) FR50 f61 (by decide) (by decide)
        have NK := (f61.i 1739).trans NK
        have NM := NM.r f61 hm
        refine w_goto d207_64 ?_
        refine w_return d207_249 ?_
        refine kk _ _ _ FR61 RQ PW ⟨a, (rsg l true a (-1)).1, NM, nr1.1, by have := RQ.2.1; omega⟩ (fin_j (k := 1) J3 vf_x.1 (fun z e3 => ?_))
        obtain ⟨tg1, tg2⟩ := text_good z
        rw [tg1] at T1
        rw [tg2] at T2
        have e4 : (pFo l [112, 32] a).2.1 = (rxp l ((32 : Nat) : Int) (rsg l true a (-1)).1 (rsg l true a (-1)).2).1 := by rw [e2]
        exact ⟨fun _ => ⟨a, (rsg l true a (-1)).1, NM, nr1.1, nr1.2, by rw [e3]; rfl⟩, fun _ => ⟨by rw [e4]; exact T1, by rw [e4]; exact T2⟩, (fun z => absurd z (by omega)), (fun z => absurd z (by omega)), (fun i hi => absurd (nmK_0 hi) (by omega)), (fun z => absurd z (by omega)), (fun z => absurd z (by omega))⟩
    · have k2 : k = 2 ∨ k = 14 ∨ k = 23 := by omega
      refine w_return d207_46 ?_
      refine kk _ _ _ FR35 RQ PW ⟨a, (rsg l true a (-1)).1, NM, nr1.1, by have := RQ.2.1; omega⟩ (fin_j J1 ((vf_k2 ⟨k, hk⟩).2.1 k2) (fun _ e2 => ⟨fun _ => ⟨a, (rsg l true a (-1)).1, NM, nr1.1, nr1.2, by rw [e2]; rfl⟩, (fun z => absurd z (by omega)), (fun z => absurd z (by omega)), (fun z => absurd z (by omega)), (fun i hi => absurd (nmK_0 hi) (by omega)), (fun z => absurd z (by omega)), (fun z => absurd z (by omega))⟩))
  refine w_aload_n d207_0 rfl ?_
  refine w_getI (x := ((k : Nat) : Int)) d207_1 (ok.kd hm) NK ?_
  refine w_iconst d207_4 (by decide) ?_
  refine w_icmpeq d207_5 (fun c5 => ?_) (fun c5 => ?_)
  · have ks : k = 1 ∨ k = 2 ∨ k = 14 ∨ k = 23 := by omega
    refine w_less ?_ (L34 _  rfl ks)
    exact ⟨Or.inr rfl, Or.inl rfl, Or.inl rfl, trivial⟩
  · refine w_aload_n d207_8 rfl ?_
    refine w_getI (x := ((k : Nat) : Int)) d207_9 (ok.kd hm) NK ?_
    refine w_iconst d207_12 (by decide) ?_
    refine w_icmpeq d207_13 (fun c13 => ?_) (fun c13 => ?_)
    · have ks : k = 1 ∨ k = 2 ∨ k = 14 ∨ k = 23 := by omega
      refine w_less ?_ (L34 _  rfl ks)
      exact ⟨Or.inr rfl, Or.inl rfl, Or.inl rfl, trivial⟩
    · refine w_aload_n d207_16 rfl ?_
      refine w_getI (x := ((k : Nat) : Int)) d207_17 (ok.kd hm) NK ?_
      refine w_bipush d207_20 (by decide) ?_
      refine w_icmpeq d207_22 (fun c22 => ?_) (fun c22 => ?_)
      · have ks : k = 1 ∨ k = 2 ∨ k = 14 ∨ k = 23 := by omega
        refine w_less ?_ (L34 _  rfl ks)
        exact ⟨Or.inr rfl, Or.inl rfl, Or.inl rfl, trivial⟩
      · refine w_aload_n d207_25 rfl ?_
        refine w_getI (x := ((k : Nat) : Int)) d207_26 (ok.kd hm) NK ?_
        refine w_bipush d207_29 (by decide) ?_
        refine w_icmpne d207_31 (fun c31 => ?_) (fun c31 => ?_)
        · refine w_aload_n d207_67 rfl ?_
          refine w_getI (x := ((k : Nat) : Int)) d207_68 (ok.kd hm) NK ?_
          refine w_iconst d207_71 (by decide) ?_
          refine w_icmpne d207_72 (fun c72 => ?_) (fun c72 => ?_)
          · refine w_aload_n d207_82 rfl ?_
            refine w_getI (x := ((k : Nat) : Int)) d207_83 (ok.kd hm) NK ?_
            refine w_bipush d207_86 (by decide) ?_
            refine w_icmpeq d207_88 (fun c88 => ?_) (fun c88 => ?_)
            · have k7 : k = 7 ∨ k = 33 := by omega
              refine w_aload_n d207_100 rfl ?_
              refine w_iconst d207_101 (by decide) ?_
              refine w_callv2 d207_102 (by omega) rfl (ok.kd hm) (by simp) (Nat.le_of_ble_eq_true rfl) ?_
              refine k_M_readNumbers (n := 1) ok (by omega) hm RQ PW hal (by decide) (fun h102 f102 RQ PW AR => ?_)
              have ok102 := f102.ok
              have FR102 := Fr.le (F := [1738, 1740, 1741, 1742, 1743, 1744, 1745, 1746, 1747, 1748, 1749, 1750, 1751, 1752, 1753, 1754, 1755, 1756, 1757, 1758, 1761]) f102 (by decide)
              have NK := (f102.i 1739).trans NK
              have NI := NI.r f102 hm
              have J1 := rnS_j (l := l) (a := a) 1
              refine w_goto d207_105 ?_
              refine w_return d207_249 ?_
              refine kk _ _ _ FR102 RQ PW NI (fin_j J1 ((vf_k2 ⟨k, hk⟩).2.2.1 k7) (fun z e3 => ?_))
              rcases k7 with rfl | rfl
              all_goals
                exact ⟨fun z => absurd z (by decide), (fun z => absurd z (by omega)), (fun z => absurd z (by omega)), (fun z => absurd z (by omega)), (fun i hi => by rw [e3]; exact AR i (by rw [rnS_len]; exact hi)), (fun z => absurd z (by omega)), (fun z => absurd z (by omega))⟩
            · refine w_aload_n d207_91 rfl ?_
              refine w_getI (x := ((k : Nat) : Int)) d207_92 (ok.kd hm) NK ?_
              refine w_bipush d207_95 (by decide) ?_
              refine w_icmpne d207_97 (fun c97 => ?_) (fun c97 => ?_)
              · refine w_aload_n d207_108 rfl ?_
                refine w_getI (x := ((k : Nat) : Int)) d207_109 (ok.kd hm) NK ?_
                refine w_bipush d207_112 (by decide) ?_
                refine w_icmpeq d207_114 (fun c114 => ?_) (fun c114 => ?_)
                · have k10 : k = 10 := by omega
                  subst k10
                  refine w_aload_n d207_126 rfl ?_
                  refine w_aload_n d207_127 rfl ?_
                  refine w_getI (x := ((10 : Nat) : Int)) d207_128 (ok.kd hm) NK ?_
                  refine w_bipush d207_131 (by decide) ?_
                  refine w_icmpne d207_133 (fun c133 => ?_) (fun c133 => ?_)
                  · omega
                  · refine w_iconst d207_136 (by decide) ?_
                    refine w_goto d207_137 ?_
                    refine w_callv2 d207_141 (by omega) rfl (ok.kd hm) (by simp) (Nat.le_of_ble_eq_true rfl) ?_
                    refine k_M_readNumbers (n := 3) ok (by omega) hm RQ PW hal (by decide) (fun h141 f141 RQ PW AR => ?_)
                    have ok141 := f141.ok
                    have FR141 := Fr.le (F := [1738, 1740, 1741, 1742, 1743, 1744, 1745, 1746, 1747, 1748, 1749, 1750, 1751, 1752, 1753, 1754, 1755, 1756, 1757, 1758, 1761]) f141 (by decide)
                    have NK := (f141.i 1739).trans NK
                    have NI := NI.r f141 hm
                    have J1 := rnS_j (l := l) (a := a) 3
                    refine w_goto d207_144 ?_
                    refine w_return d207_249 ?_
                    refine kk _ _ _ FR141 RQ PW NI (fin_j J1 ((vf_k2 ⟨10, by decide⟩).2.2.2.1 rfl) (fun z e3 => ?_))
                    exact ⟨fun z => absurd z (by decide), (fun z => absurd z (by omega)), (fun z => absurd z (by omega)), (fun z => absurd z (by omega)), (fun i hi => by rw [e3]; exact AR i (by rw [rnS_len]; exact hi)), (fun z => absurd z (by omega)), (fun z => absurd z (by omega))⟩
                · refine w_aload_n d207_117 rfl ?_
                  refine w_getI (x := ((k : Nat) : Int)) d207_118 (ok.kd hm) NK ?_
                  refine w_bipush d207_121 (by decide) ?_
                  refine w_icmpne d207_123 (fun c123 => ?_) (fun c123 => ?_)
                  · refine w_aload_n d207_147 rfl ?_
                    refine w_getI (x := ((k : Nat) : Int)) d207_148 (ok.kd hm) NK ?_
                    refine w_bipush d207_151 (by decide) ?_
                    refine w_icmpne d207_153 (fun c153 => ?_) (fun c153 => ?_)
                    · refine w_aload_n d207_163 rfl ?_
                      refine w_callv1 d207_164 (by omega) rfl (ok.kd hm) (by simp) (Nat.le_of_ble_eq_true rfl) ?_
                      refine k_M_readName ok (by omega) hm RQ PW (fun h164 f164 RQ PW NM => ?_)
                      have ok164 := f164.ok
                      have FR164 := Fr.le (F := [1738, 1740, 1741, 1742, 1743, 1744, 1745, 1746, 1747, 1748, 1749, 1750, 1751, 1752, 1753, 1754, 1755, 1756, 1757, 1758, 1761]) f164 (by decide)
                      have NK := (f164.i 1739).trans NK
                      have nr1 := rsg_rg (b := false) (w := -1) hal
                      have J1 := JF.word (b := false) (JF.nil (l := l) (a := a))
                      change JF l a [97] (rsg l false a (-1)).1 (rsg l false a (-1)).2 [sl l a (rsg l false a (-1)).1] [] at J1
                      refine w_aload_n d207_167 rfl ?_
                      refine w_getI (x := ((k : Nat) : Int)) d207_168 (ok164.kd hm) NK ?_
                      refine w_iconst d207_171 (by decide) ?_
                      refine w_icmpne d207_172 (fun c172 => ?_) (fun c172 => ?_)
                      · refine w_aload_n d207_194 rfl ?_
                        refine w_getI (x := ((k : Nat) : Int)) d207_195 (ok164.kd hm) NK ?_
                        refine w_bipush d207_198 (by decide) ?_
                        refine w_icmpne d207_200 (fun c200 => ?_) (fun c200 => ?_)
                        · refine w_return d207_249 ?_
                          refine kk _ _ _ FR164 RQ PW ⟨a, (rsg l false a (-1)).1, NM, nr1.1, by have := RQ.2.1; omega⟩ (fin_j J1 ((vf_k2 ⟨k, hk⟩).2.2.2.2.2.2.2 hnb (fun z => by have z : k ∈ [1, 2, 14, 23, 4, 7, 33, 10, 11, 32, 3, 24, 30] := z; simp only [List.mem_cons, List.not_mem_nil, or_false] at z; omega)) (fun _ e2 => ⟨fun _ => ⟨a, (rsg l false a (-1)).1, NM, nr1.1, nr1.2, by rw [e2]; rfl⟩, (fun z => absurd z (by omega)), (fun z => absurd z (by omega)), (fun z => absurd z (by omega)), (fun i hi => absurd (nmK_0 hi) (by omega)), (fun z => absurd z (by omega)), (fun z => absurd z (by omega))⟩))
                        · have k24 : k = 24 := by omega
                          subst k24
                          refine w_aload_n d207_203 rfl ?_
                          refine w_bipush d207_204 (by decide) ?_
                          refine w_callv2 d207_206 (by omega) rfl (ok164.kd hm) (by simp) (Nat.le_of_ble_eq_true rfl) ?_
                          refine k_M_expect (c := ((32 : Nat) : Int)) ok164 (by omega) hm RQ PW (by decide) (fun h206 f206 RQ PW => ?_)
                          have ok206 := f206.ok
                          have FR206 := Fr.tr (F := [1738, 1740, 1741, 1742, 1743, 1744, 1745, 1746, 1747, 1748, 1749, 1750, 1751, 1752, 1753, 1754, 1755, 1756, 1757, 1758, 1761]) FR164 f206 (by decide) (by decide)
                          have NK := (f206.i 1739).trans NK
                          have NM := NM.r f206 hm
                          have J2 := JF.sign (c := 32) J1
                          change JF l a [97, 32] (rxp l ((32 : Nat) : Int) (rsg l false a (-1)).1 (rsg l false a (-1)).2).1 (rxp l ((32 : Nat) : Int) (rsg l false a (-1)).1 (rsg l false a (-1)).2).2 _ _ at J2
                          have x2l : (rxp l ((32 : Nat) : Int) (rsg l false a (-1)).1 (rsg l false a (-1)).2).1 ≤ l.length := rxp_le nr1.2 (by decide)
                          refine w_aload_n d207_209 rfl ?_
                          refine w_getI (x := ((a : Nat) : Int)) d207_210 (ok206.kd hm) NM.1 ?_
                          refine w_istore1 d207_213 rfl ?_
                          refine w_aload_n d207_214 rfl ?_
                          refine w_getI (x := (((rsg l false a (-1)).1 : Nat) : Int)) d207_215 (ok206.kd hm) NM.2 ?_
                          refine w_istore2 d207_218 rfl ?_
                          refine w_aload_n d207_219 rfl ?_
                          refine w_callv1 d207_220 (by omega) rfl (ok206.kd hm) (by simp) (Nat.le_of_ble_eq_true rfl) ?_
                          refine k_M_readName ok206 (by omega) hm RQ PW (fun h220 f220 RQ PW NM => ?_)
                          have ok220 := f220.ok
                          have FR220 := Fr.tr (F := [1738, 1740, 1741, 1742, 1743, 1744, 1745, 1746, 1747, 1748, 1749, 1750, 1751, 1752, 1753, 1754, 1755, 1756, 1757, 1758, 1761]) FR206 f220 (by decide) (by decide)
                          have NK := (f220.i 1739).trans NK
                          have nr3 := rsg_rg (b := false) (w := (rxp l ((32 : Nat) : Int) (rsg l false a (-1)).1 (rsg l false a (-1)).2).2) x2l
                          have J3 := JF.word (b := false) J2
                          change JF l a [97, 32, 97] _ _ _ _ at J3
                          have l9 := RQ.2.1
                          refine w_aload_n d207_223 rfl ?_
                          refine w_aload_n d207_224 rfl ?_
                          refine w_getI (x := (((rxp l ((32 : Nat) : Int) (rsg l false a (-1)).1 (rsg l false a (-1)).2).1 : Nat) : Int)) d207_225 (ok220.kd hm) NM.1 ?_
                          refine wf1744 d207_228 ok220 hm (by omega) (fun h228 e228 m228 => ?_)
                          have f228 : Fr S m [1744] _ _ := Fr.wF ok220 m228 (FK.pI e228)
                          have ok228 := f228.ok
                          have FR228 := Fr.tr (F := [1738, 1740, 1741, 1742, 1743, 1744, 1745, 1746, 1747, 1748, 1749, 1750, 1751, 1752, 1753, 1754, 1755, 1756, 1757, 1758, 1761]) FR220 f228 (by decide) (by decide)
                          have RQ := RQ.r f228 hm
                          have PW := PW.r f228 hm
                          have NK := (f228.i 1739).trans NK
                          have NM := NM.r f228 hm
                          have OF1 : FI h228 1744 m = (((rxp l ((32 : Nat) : Int) (rsg l false a (-1)).1 (rsg l false a (-1)).2).1 : Nat) : Int) := by rw [e228, FI_sFI, if_pos ⟨rfl, rfl⟩]
                          refine w_aload_n d207_231 rfl ?_
                          refine w_aload_n d207_232 rfl ?_
                          refine w_getI (x := (((rsg l false (rxp l ((32 : Nat) : Int) (rsg l false a (-1)).1 (rsg l false a (-1)).2).1 (rxp l ((32 : Nat) : Int) (rsg l false a (-1)).1 (rsg l false a (-1)).2).2).1 : Nat) : Int)) d207_233 (ok228.kd hm) NM.2 ?_
                          refine wf1745 d207_236 ok228 hm (by omega) (fun h236 e236 m236 => ?_)
                          have f236 : Fr S m [1745] _ _ := Fr.wF ok228 m236 (FK.pI e236)
                          have ok236 := f236.ok
                          have FR236 := Fr.tr (F := [1738, 1740, 1741, 1742, 1743, 1744, 1745, 1746, 1747, 1748, 1749, 1750, 1751, 1752, 1753, 1754, 1755, 1756, 1757, 1758, 1761]) FR228 f236 (by decide) (by decide)
                          have RQ := RQ.r f236 hm
                          have PW := PW.r f236 hm
                          have NK := (f236.i 1739).trans NK
                          have NM := NM.r f236 hm
                          have OF2 : FI h236 1745 m = (((rsg l false (rxp l ((32 : Nat) : Int) (rsg l false a (-1)).1 (rsg l false a (-1)).2).1 (rxp l ((32 : Nat) : Int) (rsg l false a (-1)).1 (rsg l false a (-1)).2).2).1 : Nat) : Int) := by rw [e236, FI_sFI, if_pos ⟨rfl, rfl⟩]
                          refine w_aload_n d207_239 rfl ?_
                          refine w_iload_n d207_240 rfl ?_
                          refine wf1742 d207_241 ok236 hm (by omega) (fun h241 e241 m241 => ?_)
                          have f241 : Fr S m [1742] _ _ := Fr.wF ok236 m241 (FK.pI e241)
                          have ok241 := f241.ok
                          have FR241 := Fr.tr (F := [1738, 1740, 1741, 1742, 1743, 1744, 1745, 1746, 1747, 1748, 1749, 1750, 1751, 1752, 1753, 1754, 1755, 1756, 1757, 1758, 1761]) FR236 f241 (by decide) (by decide)
                          have RQ := RQ.r f241 hm
                          have PW := PW.r f241 hm
                          have NK := (f241.i 1739).trans NK
                          refine w_aload_n d207_244 rfl ?_
                          refine w_iload_n d207_245 rfl ?_
                          refine wf1743 d207_246 ok241 hm (by omega) (fun h246 e246 m246 => ?_)
                          have f246 : Fr S m [1743] _ _ := Fr.wF ok241 m246 (FK.pI e246)
                          have ok246 := f246.ok
                          have FR246 := Fr.tr (F := [1738, 1740, 1741, 1742, 1743, 1744, 1745, 1746, 1747, 1748, 1749, 1750, 1751, 1752, 1753, 1754, 1755, 1756, 1757, 1758, 1761]) FR241 f246 (by decide) (by decide)
                          have RQ := RQ.r f246 hm
                          have PW := PW.r f246 hm
                          have NK := (f246.i 1739).trans NK
                          have NM : NmR h246 m a (rsg l false a (-1)).1 := ⟨(f246.i 1742 (by decide)).trans (by rw [e241, FI_sFI, if_pos ⟨rfl, rfl⟩]), by rw [e246, FI_sFI, if_pos ⟨rfl, rfl⟩]⟩
                          refine w_return d207_249 ?_
                          refine kk _ _ _ FR246 RQ PW ⟨a, (rsg l false a (-1)).1, NM, nr1.1, by have := RQ.2.1; omega⟩ (fin_j J3 vf_x.2.2.1 (fun z e3 => ?_))
                          exact ⟨fun _ => ⟨a, (rsg l false a (-1)).1, NM, nr1.1, nr1.2, by rw [e3]; rfl⟩, (fun z => absurd z (by omega)), (fun z => absurd z (by omega)), fun _ => ⟨(rxp l ((32 : Nat) : Int) (rsg l false a (-1)).1 (rsg l false a (-1)).2).1, (rsg l false (rxp l ((32 : Nat) : Int) (rsg l false a (-1)).1 (rsg l false a (-1)).2).1 (rxp l ((32 : Nat) : Int) (rsg l false a (-1)).1 (rsg l false a (-1)).2).2).1, (f246.i 1744 (by decide)).trans ((f241.i 1744 (by decide)).trans ((f236.i 1744 (by decide)).trans OF1)), (f246.i 1745 (by decide)).trans ((f241.i 1745 (by decide)).trans OF2), nr3.1, nr3.2, by rw [e3]; rfl⟩, (fun i hi => absurd (nmK_0 hi) (by omega)), (fun z => absurd z (by omega)), (fun z => absurd z (by omega))⟩
                      · have k3 : k = 3 := by omega
                        subst k3
                        refine w_aload_n d207_175 rfl ?_
                        refine w_bipush d207_176 (by decide) ?_
                        refine w_callv2 d207_178 (by omega) rfl (ok164.kd hm) (by simp) (Nat.le_of_ble_eq_true rfl) ?_
                        refine k_M_expect (c := ((32 : Nat) : Int)) ok164 (by omega) hm RQ PW (by decide) (fun h178 f178 RQ PW => ?_)
                        have ok178 := f178.ok
                        have FR178 := Fr.tr (F := [1738, 1740, 1741, 1742, 1743, 1744, 1745, 1746, 1747, 1748, 1749, 1750, 1751, 1752, 1753, 1754, 1755, 1756, 1757, 1758, 1761]) FR164 f178 (by decide) (by decide)
                        have NK := (f178.i 1739).trans NK
                        have NM := NM.r f178 hm
                        have J2 := JF.sign (c := 32) J1
                        change JF l a [97, 32] (rxp l ((32 : Nat) : Int) (rsg l false a (-1)).1 (rsg l false a (-1)).2).1 (rxp l ((32 : Nat) : Int) (rsg l false a (-1)).1 (rsg l false a (-1)).2).2 _ _ at J2
                        have x2l : (rxp l ((32 : Nat) : Int) (rsg l false a (-1)).1 (rsg l false a (-1)).2).1 ≤ l.length := rxp_le nr1.2 (by decide)
                        refine w_aload_n d207_181 rfl ?_
                        refine w_dloadS d207_182 (ok178.kd hm) (fr1741 ok178 hm) ?_
                        refine w_iconst d207_185 (by decide) ?_
                        refine w_aload_n d207_186 rfl ?_
                        refine w_callv1 d207_187 (by omega) rfl (ok178.kd hm) (by simp) (Nat.le_of_ble_eq_true rfl) ?_
                        refine k_M_readNumber ok178 (by omega) hm RQ PW (fun h187 f187 RQ PW => ?_)
                        have ok187 := f187.ok
                        have FR187 := Fr.tr (F := [1738, 1740, 1741, 1742, 1743, 1744, 1745, 1746, 1747, 1748, 1749, 1750, 1751, 1752, 1753, 1754, 1755, 1756, 1757, 1758, 1761]) FR178 f187 (by decide) (by decide)
                        have NK := (f187.i 1739).trans NK
                        have NM := NM.r f187 hm
                        have J3 := JF.num J2
                        change JF l a [97, 32, 110] _ _ _ _ at J3
                        have n9 := (rnm_le (w := (rxp l ((32 : Nat) : Int) (rsg l false a (-1)).1 (rsg l false a (-1)).2).2) x2l).1
                        refine wa1741 d207_190 ok187 hm (by omega) (by omega) (fun h190 e190 m190 => ?_)
                        have f190 : Fr S m [1741] _ _ := Fr.wB ok187 hm m190 (fun ζ e => ⟨1741, by decide, by decide, e ▸ U_refl⟩)
                        have ok190 := f190.ok
                        have FR190 := Fr.tr (F := [1738, 1740, 1741, 1742, 1743, 1744, 1745, 1746, 1747, 1748, 1749, 1750, 1751, 1752, 1753, 1754, 1755, 1756, 1757, 1758, 1761]) FR187 f190 (by decide) (by decide)
                        have RQ := RQ.r f190 hm
                        have PW := PW.r f190 hm
                        have NK := (f190.i 1739).trans NK
                        have NM := NM.r f190 hm
                        have AR0 : AI h190 (sT S 1741 m) 0 = (((rnm l (rxp l ((32 : Nat) : Int) (rsg l false a (-1)).1 (rsg l false a (-1)).2).1 (rxp l ((32 : Nat) : Int) (rsg l false a (-1)).1 (rsg l false a (-1)).2).2).1 : Nat) : Int) := by rw [e190, sArr]; exact if_pos rfl
                        refine w_goto d207_191 ?_
                        refine w_return d207_249 ?_
                        refine kk _ _ _ FR190 RQ PW ⟨a, (rsg l false a (-1)).1, NM, nr1.1, by have := RQ.2.1; omega⟩ (fin_j J3 vf_x.2.2.2.2.2.2.2.1 (fun z e3 => ?_))
                        exact ⟨fun _ => ⟨a, (rsg l false a (-1)).1, NM, nr1.1, nr1.2, by rw [e3]; rfl⟩, (fun z => absurd z (by omega)), (fun z => absurd z (by omega)), (fun z => absurd z (by omega)), (fun i hi => by rw [e3, show i = 0 from by have h1 : i < 1 := hi; omega]; exact AR0), (fun z => absurd z (by omega)), (fun z => absurd z (by omega))⟩
                    · have k32 : k = 32 := by omega
                      subst k32
                      refine w_aload_n d207_156 rfl ?_
                      refine w_callv1 d207_157 (by omega) rfl (ok.kd hm) (by simp) (Nat.le_of_ble_eq_true rfl) ?_
                      refine k_M_readTree ok (by omega) hm RQ PW hal h4 (fun h157 f157 RQ PW TF1 => ?_)
                      have ok157 := f157.ok
                      have FR157 := Fr.le (F := [1738, 1740, 1741, 1742, 1743, 1744, 1745, 1746, 1747, 1748, 1749, 1750, 1751, 1752, 1753, 1754, 1755, 1756, 1757, 1758, 1761]) f157 (by decide)
                      have NK := (f157.i 1739).trans NK
                      have NI := NI.r f157 hm
                      have J1 := JF.one (c := 114) (f := []) (l := l) (a := a) (p := a) rfl (show pOk l 114 a = (pTr l 4096 1 a).1 from rfl) (show pEnd l 114 a = (pTr l 4096 1 a).2 from rfl) rfl rfl
                      refine w_goto d207_160 ?_
                      refine w_return d207_249 ?_
                      refine kk _ _ _ FR157 RQ PW NI (fin_j J1 ((vf_k2 ⟨32, by decide⟩).2.2.2.2.2.1 rfl) (fun z e3 => ?_))
                      exact ⟨fun z => absurd z (by decide), (fun z => absurd z (by omega)), (fun z => absurd z (by omega)), (fun z => absurd z (by omega)), (fun i hi => absurd (nmK_0 hi) (by omega)), fun _ => TF1, (fun z => absurd z (by omega))⟩
                  · have k11 : k = 11 := by omega
                    subst k11
                    refine w_aload_n d207_126 rfl ?_
                    refine w_aload_n d207_127 rfl ?_
                    refine w_getI (x := ((11 : Nat) : Int)) d207_128 (ok.kd hm) NK ?_
                    refine w_bipush d207_131 (by decide) ?_
                    refine w_icmpne d207_133 (fun c133 => ?_) (fun c133 => ?_)
                    · refine w_iconst d207_140 (by decide) ?_
                      refine w_callv2 d207_141 (by omega) rfl (ok.kd hm) (by simp) (Nat.le_of_ble_eq_true rfl) ?_
                      refine k_M_readNumbers (n := 5) ok (by omega) hm RQ PW hal (by decide) (fun h141 f141 RQ PW AR => ?_)
                      have ok141 := f141.ok
                      have FR141 := Fr.le (F := [1738, 1740, 1741, 1742, 1743, 1744, 1745, 1746, 1747, 1748, 1749, 1750, 1751, 1752, 1753, 1754, 1755, 1756, 1757, 1758, 1761]) f141 (by decide)
                      have NK := (f141.i 1739).trans NK
                      have NI := NI.r f141 hm
                      have J1 := rnS_j (l := l) (a := a) 5
                      refine w_goto d207_144 ?_
                      refine w_return d207_249 ?_
                      refine kk _ _ _ FR141 RQ PW NI (fin_j J1 ((vf_k2 ⟨11, by decide⟩).2.2.2.2.1 rfl) (fun z e3 => ?_))
                      exact ⟨fun z => absurd z (by decide), (fun z => absurd z (by omega)), (fun z => absurd z (by omega)), (fun z => absurd z (by omega)), (fun i hi => by rw [e3]; exact AR i (by rw [rnS_len]; exact hi)), (fun z => absurd z (by omega)), (fun z => absurd z (by omega))⟩
                    · omega
              · have k7 : k = 7 ∨ k = 33 := by omega
                refine w_aload_n d207_100 rfl ?_
                refine w_iconst d207_101 (by decide) ?_
                refine w_callv2 d207_102 (by omega) rfl (ok.kd hm) (by simp) (Nat.le_of_ble_eq_true rfl) ?_
                refine k_M_readNumbers (n := 1) ok (by omega) hm RQ PW hal (by decide) (fun h102 f102 RQ PW AR => ?_)
                have ok102 := f102.ok
                have FR102 := Fr.le (F := [1738, 1740, 1741, 1742, 1743, 1744, 1745, 1746, 1747, 1748, 1749, 1750, 1751, 1752, 1753, 1754, 1755, 1756, 1757, 1758, 1761]) f102 (by decide)
                have NK := (f102.i 1739).trans NK
                have NI := NI.r f102 hm
                have J1 := rnS_j (l := l) (a := a) 1
                refine w_goto d207_105 ?_
                refine w_return d207_249 ?_
                refine kk _ _ _ FR102 RQ PW NI (fin_j J1 ((vf_k2 ⟨k, hk⟩).2.2.1 k7) (fun z e3 => ?_))
                rcases k7 with rfl | rfl
                all_goals
                  exact ⟨fun z => absurd z (by decide), (fun z => absurd z (by omega)), (fun z => absurd z (by omega)), (fun z => absurd z (by omega)), (fun i hi => by rw [e3]; exact AR i (by rw [rnS_len]; exact hi)), (fun z => absurd z (by omega)), (fun z => absurd z (by omega))⟩
          · have k4 : k = 4 := by omega
            subst k4
            refine w_aload_n d207_75 rfl ?_
            refine w_callv1 d207_76 (by omega) rfl (ok.kd hm) (by simp) (Nat.le_of_ble_eq_true rfl) ?_
            refine k_M_readTarget ok (by omega) hm RQ PW hal (fun h76 f76 RQ PW TD NI => ?_)
            have ok76 := f76.ok
            have FR76 := Fr.le (F := [1738, 1740, 1741, 1742, 1743, 1744, 1745, 1746, 1747, 1748, 1749, 1750, 1751, 1752, 1753, 1754, 1755, 1756, 1757, 1758, 1761]) f76 (by decide)
            have NK := (f76.i 1739).trans NK
            have J1 := JF.one (c := 100) (f := []) (l := l) (a := a) (p := a) rfl (show pOk l 100 a = (pDef l a).1 from rfl) (show pEnd l 100 a = (pDef l a).2.1 from rfl) rfl rfl
            refine w_goto d207_79 ?_
            refine w_return d207_249 ?_
            refine kk _ _ _ FR76 RQ PW NI (fin_j (k := 4) J1 vf_x.2.1 (fun z e3 => ?_))
            have d1 : (pDef l a).1 = true := by
              cases hz : (pDef l a).1 with
              | true => rfl
              | false => rw [hz] at z; exact absurd (show (((pDef l a).2.1 : Nat) : Int) = -1 from z) (by omega)
            exact ⟨fun z => absurd z (by decide), (fun z => absurd z (by omega)), fun _ => TD d1, (fun z => absurd z (by omega)), (fun i hi => absurd (nmK_0 hi) (by omega)), (fun z => absurd z (by omega)), (fun z => absurd z (by omega))⟩
        · have ks : k = 1 ∨ k = 2 ∨ k = 14 ∨ k = 23 := by omega
          refine w_less ?_ (L34 _  rfl ks)
          exact ⟨Or.inr rfl, Or.inl rfl, Or.inl rfl, trivial⟩
