/-! ways -/
theorem stp_front {ts : List (Bool × TgV)} : ∀ {n u w : Nat}, stp ts (n + 1) u w ↔ ∃ v, edge ts u v ∧ stp ts n v w
  | 0, u, w => by
    constructor
    · rintro ⟨v, e, h⟩
      have e : u = v := e
      subst e
      exact ⟨w, h, rfl⟩
    · rintro ⟨v, h, e⟩
      have e : v = w := e
      subst e
      exact ⟨u, rfl, h⟩
  | n + 1, u, w => by
    constructor
    · rintro ⟨v, h1, h2⟩
      obtain ⟨x, h3, h4⟩ := stp_front.mp h1
      exact ⟨x, h3, v, h4, h2⟩
    · rintro ⟨x, h3, v, h4, h2⟩
      exact ⟨v, stp_front.mpr ⟨x, h3, h4⟩, h2⟩
theorem stp_app {ts : List (Bool × TgV)} {n u v : Nat} (a : stp ts n u v) : ∀ {m w : Nat}, stp ts m v w → stp ts (n + m) u w
  | 0, w, b => by have e : v = w := b; subst e; exact a
  | m + 1, w, b => by
    obtain ⟨x, b1, b2⟩ := b
    exact ⟨x, stp_app a b1, b2⟩
theorem stp_fun {ts : List (Bool × TgV)} : ∀ {n u w : Nat}, stp ts n u w → ∃ f : Nat → Nat, f 0 = u ∧ f n = w ∧ ∀ i, i < n → edge ts (f i) (f (i + 1))
  | 0, u, w, h => ⟨fun _ => u, rfl, h, fun i hi => by omega⟩
  | n + 1, u, w, h => by
    obtain ⟨v, h1, h2⟩ := h
    obtain ⟨f, f1, f2, f3⟩ := stp_fun h1
    refine ⟨fun i => if i ≤ n then f i else w, by simp [f1], by show (if n + 1 ≤ n then f (n + 1) else w) = w; rw [if_neg (by omega)], fun i hi => ?_⟩
    by_cases q : i < n
    · have a : i ≤ n := by omega
      have b : i + 1 ≤ n := by omega
      simp [a, b, f3 i q]
    · have e : i = n := by omega
      subst e
      show edge ts (if i ≤ i then f i else w) (if i + 1 ≤ i then f (i + 1) else w)
      rw [if_pos (Nat.le_refl _), if_neg (by omega), f2]
      exact h2
theorem fun_stp {ts : List (Bool × TgV)} {f : Nat → Nat} {n : Nat} (hf : ∀ i, i < n → edge ts (f i) (f (i + 1))) : ∀ {k i : Nat}, i + k ≤ n → stp ts k (f i) (f (i + k))
  | 0, i, _ => rfl
  | k + 1, i, h => ⟨f (i + k), fun_stp hf (by omega), hf (i + k) (by omega)⟩
theorem edge_lt {ts : List (Bool × TgV)} {u v : Nat} (e : edge ts u v) : u < ts.length ∧ v < ts.length := by
  obtain ⟨i, e⟩ := e
  exact inT_lt e
/-- none needs itself -/
def acy (ts : List (Bool × TgV)) : Prop := ∀ k u, ¬ stp ts (k + 1) u u
theorem path_len {ts : List (Bool × TgV)} {f : Nat → Nat} {n : Nat} (hf : ∀ i, i < n → edge ts (f i) (f (i + 1))) (h0 : f 0 < ts.length) (hd : ∀ i j, i < j → j ≤ n → f i ≠ f j) : n < ts.length := by
  have h1 : ((List.range (n + 1)).map f).length ≤ (List.range ts.length).length := by
    refine nodup_len _ _ ?_ ?_
    · rw [List.nodup_iff_pairwise_ne, List.pairwise_map]
      refine List.Pairwise.imp_of_mem ?_ (List.pairwise_lt_range)
      intro a b ha hb hab
      exact hd a b hab (by have := List.mem_range.mp hb; omega)
    · intro x hx
      obtain ⟨i, hi, e⟩ := List.mem_map.mp hx
      have hi := List.mem_range.mp hi
      rw [List.mem_range, ← e]
      cases i with
      | zero => exact h0
      | succ i => exact (edge_lt (hf i (by omega))).2
  simp at h1
  omega
theorem acy_len {ts : List (Bool × TgV)} (ha : acy ts) {n u w : Nat} (hu : u < ts.length) (h : stp ts n u w) : n < ts.length := by
  obtain ⟨f, f1, f2, f3⟩ := stp_fun h
  refine path_len f3 (by rw [f1]; exact hu) (fun i j hij hj e => ?_)
  have := fun_stp f3 (k := j - i) (i := i) (by omega)
  rw [show i + (j - i) = j by omega, ← e, show j - i = (j - i - 1) + 1 by omega] at this
  exact ha _ _ this
/-- it is k steps from u to w at least -/
def dst (ts : List (Bool × TgV)) (u w k : Nat) : Prop := stp ts k u w ∧ ∀ j, j < k → ¬ stp ts j u w
theorem dst_lt {ts : List (Bool × TgV)} {u w k : Nat} (hu : u < ts.length) (d : dst ts u w k) : k < ts.length := by
  obtain ⟨f, f1, f2, f3⟩ := stp_fun d.1
  refine path_len f3 (by rw [f1]; exact hu) (fun i j hij hj e => ?_)
  have a := fun_stp f3 (k := i) (i := 0) (by omega)
  have b := fun_stp f3 (k := k - j) (i := j) (by omega)
  rw [Nat.zero_add, f1] at a
  rw [show j + (k - j) = k by omega, f2, ← e] at b
  exact d.2 (i + (k - j)) (by omega) (stp_app a b)
/-- the lowest of the first i inputs that has the mark -/
def nxtF (ts : List (Bool × TgV)) (mk : Nat → Int) (t m : Nat) : Nat → Nat
  | 0 => 14
  | i + 1 => if 0 ≤ inT ts t i ∧ mk (inT ts t i).toNat = (m : Nat) then min (nxtF ts mk t m i) (inT ts t i).toNat else nxtF ts mk t m i
theorem nxtF_le (ts : List (Bool × TgV)) (mk : Nat → Int) (t m : Nat) : ∀ i, nxtF ts mk t m i ≤ 14
  | 0 => Nat.le_refl _
  | i + 1 => by
    have := nxtF_le ts mk t m i
    unfold nxtF
    split <;> omega
theorem nxtF_end {ts : List (Bool × TgV)} {mk : Nat → Int} {t m i : Nat} (hi : (tgI (tD ts t)).length ≤ i) : ∀ j, nxtF ts mk t m (i + j) = nxtF ts mk t m i
  | 0 => rfl
  | j + 1 => by
    rw [← Nat.add_assoc, nxtF, if_neg (fun q => by rw [inT_end (by omega)] at q; omega)]
    exact nxtF_end hi j
/-- a row along marks that go down, told -/
def dnT (ts : List (Bool × TgV)) (mk : Nat → Int) : Nat → Nat → List Nat
  | 0, _ => []
  | m + 1, t => if nxtF ts mk t (m + 1) 6 < ts.length then 32 :: tgN (tD ts (nxtF ts mk t (m + 1) 6)) ++ dnT ts mk m (nxtF ts mk t (m + 1) 6) else []
theorem dnT_congr {ts : List (Bool × TgV)} {mk mk' : Nat → Int} (he : ∀ u, u < ts.length → mk u = mk' u) : ∀ m t, dnT ts mk m t = dnT ts mk' m t
  | 0, _ => rfl
  | m + 1, t => by
    have e : ∀ i, nxtF ts mk t (m + 1) i = nxtF ts mk' t (m + 1) i := fun i => by
      induction i with
      | zero => rfl
      | succ i ih =>
        unfold nxtF
        rw [ih]
        by_cases q : 0 ≤ inT ts t i
        · rw [he _ (by have := inT_rg ts t i; omega)]
        · rw [if_neg (fun z => q z.1), if_neg (fun z => q z.1)]
    unfold dnT
    rw [e]
    by_cases q : nxtF ts mk' t (m + 1) 6 < ts.length
    · rw [if_pos q, if_pos q, dnT_congr he m]
    · rw [if_neg q, if_neg q]
/-- what the marks of ways say below f steps -/
def wayS (ts : List (Bool × TgV)) (mk : Nat → Int) (to f w : Nat) : Prop := (∃ k, k < f ∧ mk w = ((k + 1 : Nat) : Int) ∧ dst ts w to k) ∨ (mk w = 0 ∧ ∀ k, k < f → ¬ stp ts k w to)
theorem wayS.congr {ts : List (Bool × TgV)} {mk mk' : Nat → Int} {to f w : Nat} (e : mk' w = mk w) (s : wayS ts mk to f w) : wayS ts mk' to f w := by unfold wayS at s ⊢; rw [e]; exact s
theorem d153_0 : dc 153 0 = some (.aload_n 0, 1) := by decide +kernel
theorem d153_1 : dc 153 1 = some (.dload 393, 4) := by decide +kernel
theorem d153_4 : dc 153 4 = some (.iconst 0, 5) := by decide +kernel
theorem d153_5 : dc 153 5 = some (.invokevirtual 58, 8) := by decide +kernel
theorem d153_8 : dc 153 8 = some (.aload_n 0, 9) := by decide +kernel
theorem d153_9 : dc 153 9 = some (.dload 393, 12) := by decide +kernel
theorem d153_12 : dc 153 12 = some (.iload_n 1, 13) := by decide +kernel
theorem d153_13 : dc 153 13 = some (.iconst 1, 14) := by decide +kernel
theorem d153_14 : dc 153 14 = some (.iastore, 15) := by decide +kernel
theorem d153_15 : dc 153 15 = some (.iconst 1, 16) := by decide +kernel
theorem d153_16 : dc 153 16 = some (.istore_n 2, 17) := by decide +kernel
theorem d153_17 : dc 153 17 = some (.iload_n 2, 18) := by decide +kernel
theorem d153_18 : dc 153 18 = some (.bipush 14, 20) := by decide +kernel
theorem d153_20 : dc 153 20 = some (.if_icmp .ge ((111 : Nat) : Int), 23) := by decide +kernel
theorem d153_23 : dc 153 23 = some (.iconst 0, 24) := by decide +kernel
theorem d153_24 : dc 153 24 = some (.istore_n 3, 25) := by decide +kernel
theorem d153_25 : dc 153 25 = some (.iload_n 3, 26) := by decide +kernel
theorem d153_26 : dc 153 26 = some (.aload_n 0, 27) := by decide +kernel
theorem d153_27 : dc 153 27 = some (.getfield 391, 30) := by decide +kernel
theorem d153_30 : dc 153 30 = some (.if_icmp .ge ((105 : Nat) : Int), 33) := by decide +kernel
theorem d153_33 : dc 153 33 = some (.iconst 0, 34) := by decide +kernel
theorem d153_34 : dc 153 34 = some (.istore 4, 36) := by decide +kernel
theorem d153_36 : dc 153 36 = some (.aload_n 0, 37) := by decide +kernel
theorem d153_37 : dc 153 37 = some (.dload 393, 40) := by decide +kernel
theorem d153_40 : dc 153 40 = some (.iload_n 3, 41) := by decide +kernel
theorem d153_41 : dc 153 41 = some (.iaload, 42) := by decide +kernel
theorem d153_42 : dc 153 42 = some (.ifCond .ne ((99 : Nat) : Int), 45) := by decide +kernel
theorem d153_45 : dc 153 45 = some (.iload 4, 47) := by decide +kernel
theorem d153_47 : dc 153 47 = some (.aload_n 0, 48) := by decide +kernel
theorem d153_48 : dc 153 48 = some (.dload 392, 51) := by decide +kernel
theorem d153_51 : dc 153 51 = some (.iload_n 3, 52) := by decide +kernel
theorem d153_52 : dc 153 52 = some (.aaload, 53) := by decide +kernel
theorem d153_53 : dc 153 53 = some (.getfield 133, 56) := by decide +kernel
theorem d153_56 : dc 153 56 = some (.if_icmp .ge ((99 : Nat) : Int), 59) := by decide +kernel
theorem d153_59 : dc 153 59 = some (.aload_n 0, 60) := by decide +kernel
theorem d153_60 : dc 153 60 = some (.iload_n 3, 61) := by decide +kernel
theorem d153_61 : dc 153 61 = some (.iload 4, 63) := by decide +kernel
theorem d153_63 : dc 153 63 = some (.invokevirtual 78, 66) := by decide +kernel
theorem d153_66 : dc 153 66 = some (.istore 5, 68) := by decide +kernel
theorem d153_68 : dc 153 68 = some (.iload 5, 70) := by decide +kernel
theorem d153_70 : dc 153 70 = some (.ifCond .lt ((93 : Nat) : Int), 73) := by decide +kernel
theorem d153_73 : dc 153 73 = some (.aload_n 0, 74) := by decide +kernel
theorem d153_74 : dc 153 74 = some (.dload 393, 77) := by decide +kernel
theorem d153_77 : dc 153 77 = some (.iload 5, 79) := by decide +kernel
theorem d153_79 : dc 153 79 = some (.iaload, 80) := by decide +kernel
theorem d153_80 : dc 153 80 = some (.iload_n 2, 81) := by decide +kernel
theorem d153_81 : dc 153 81 = some (.if_icmp .ne ((93 : Nat) : Int), 84) := by decide +kernel
theorem d153_84 : dc 153 84 = some (.aload_n 0, 85) := by decide +kernel
theorem d153_85 : dc 153 85 = some (.dload 393, 88) := by decide +kernel
theorem d153_88 : dc 153 88 = some (.iload_n 3, 89) := by decide +kernel
theorem d153_89 : dc 153 89 = some (.iload_n 2, 90) := by decide +kernel
theorem d153_90 : dc 153 90 = some (.iconst 1, 91) := by decide +kernel
theorem d153_91 : dc 153 91 = some (.iadd, 92) := by decide +kernel
theorem d153_92 : dc 153 92 = some (.iastore, 93) := by decide +kernel
theorem d153_93 : dc 153 93 = some (.iinc 4 1, 96) := by decide +kernel
theorem d153_96 : dc 153 96 = some (.goto ((36 : Nat) : Int), 99) := by decide +kernel
theorem d153_99 : dc 153 99 = some (.iinc 3 1, 102) := by decide +kernel
theorem d153_102 : dc 153 102 = some (.goto ((25 : Nat) : Int), 105) := by decide +kernel
theorem d153_105 : dc 153 105 = some (.iinc 2 1, 108) := by decide +kernel
theorem d153_108 : dc 153 108 = some (.goto ((17 : Nat) : Int), 111) := by decide +kernel
theorem d153_111 : dc 153 111 = some (.return_, 112) := by decide +kernel
theorem k_Plan_markWays {S : Shp} {G : Nat → Option Nat} {d : Nat} {h : Hp} {Q : Option MV → Hp → Prop} {p : Nat} {to : Nat}  (ok : Ok S h) (h1 : 2 ≤ d) (hp : sK S p = 4) {ts : List (Bool × TgV)} (tc : TsC S h p ts) (ht : to < ts.length)
    (kk : ∀ h', Mo S (fun y => y = sT S 393 p) h h' → (∀ w, w < ts.length → wayS ts (AI h' (sT S 393 p)) to (14) w) → Q none h') : Cl G d 153 [vR (some p), vI (to : Nat)] h Q := by
  show Wp G d 153 0 [some (vR (some p)), some (vI (to : Nat)), none, none, none, none] [] h Q
  have tc0 := tc
  have hl14 := tc.2.1
  have kM := kT393 ok hp
  have hne : p ≠ sT S 393 p := fun q => ok.so.pT (by decide) q.symm
  have hnE : ∀ i y, i < ts.length → U S (sE S (sT S 392 p) i) y → ¬ y = sT S 393 p := fun i y hi u q => by
    subst q
    exact (ok.so.defN (f := 393) (by omega) (by decide) (by decide)).2.1 u
  refine w_aload_n d153_0 rfl ?_
  refine w_dloadS d153_1 (ok.kd hp) (fr393 ok hp) ?_
  refine w_iconst d153_4 (by decide) ?_
  refine w_calls2 d153_5 (by omega) rfl rfl (by simp) (Nat.le_of_ble_eq_true rfl) ?_
  refine k_Arrays_fill (f := 393) (n := 14) ok (by omega) hp rfl rfl ⟨by omega, by omega⟩ ⟨by decide, by decide⟩ (fun h5 m5 e5_1 => ?_)
  have ok5 := m5.ok
  have M5 := Mo.tr ok (Mo.refl (A := (fun x => x = (sT S 393 p))) ok) m5 (fun x e => e)
  refine w_aload_n d153_8 rfl ?_
  refine w_dloadS d153_9 (ok5.kd hp) (fr393 ok5 hp) ?_
  refine w_iload_n d153_12 rfl ?_
  refine w_iconst d153_13 (by decide) ?_
  refine wa393 d153_14 ok5 hp (by omega) (by omega) (fun h14 e14 m14 => ?_)
  have e14 : h14 = sAI h5 (sT S 393 p) to 1 := e14
  have ok14 := m14.ok
  have M14 := Mo.tr ok M5 m14 (fun x e => e)
  refine w_iconst d153_15 (by decide) ?_
  refine w_istore2 d153_16 rfl ?_
  have L17 : ∀ (m17 : Nat) (g : Hp) (f : Nat), 14 - f = m17 → Mo S (fun x => x = (sT S 393 p)) h g → (1 ≤ f) → (f ≤ 14) → (∀ w, w < ts.length → wayS ts (AI g (sT S 393 p)) to (f) w) → Wp G d 153 17 [some (vR (some p)), some (vI (to : Nat)), some (vI (f : Nat)), none, none, none] [] g Q := by
    intro m17
    induction m17 using Nat.strongRecOn with | ind m17 IH17 => ?_
    intro g f hm17 Mg i1 i2 i3
    have okg := Mg.ok
    refine w_iload_n d153_17 rfl ?_
    refine w_bipush d153_18 (by decide) ?_
    refine w_icmpge d153_20 (fun c20 => ?_) (fun c20 => ?_)
    · refine w_return d153_111 ?_
      exact kk g Mg (by rw [show f = 14 by omega] at i3; exact i3)
    · refine w_iconst d153_23 (by decide) ?_
      refine w_istore3 d153_24 rfl ?_
      have L25 : ∀ (m25 : Nat) (g2 : Hp) (u : Nat), ts.length - u = m25 → Mo S (fun x => x = (sT S 393 p)) h g2 → (u ≤ ts.length) → (∀ w, w < u → wayS ts (AI g2 (sT S 393 p)) to (f + 1) w) → (∀ w, u ≤ w → w < ts.length → wayS ts (AI g2 (sT S 393 p)) to (f) w) → (∀ w, w < ts.length → (AI g2 (sT S 393 p) w = (f : Nat) ↔ dst ts w to (f - 1))) → Wp G d 153 25 [some (vR (some p)), some (vI (to : Nat)), some (vI (f : Nat)), some (vI (u : Nat)), none, none] [] g2 Q := by
        intro m25
        induction m25 using Nat.strongRecOn with | ind m25 IH25 => ?_
        intro g2 u hm25 Mg2 j1 j2 j3 j4
        have okg2 := Mg2.ok
        have tcg := tc0.fr ok Mg2 hp (Or.inl hne) hnE
        refine w_iload_n d153_25 rfl ?_
        refine w_aload_n d153_26 rfl ?_
        refine w_getI (x := (ts.length : Int)) d153_27 (okg2.kd hp) tcg.1 ?_
        refine w_icmpge d153_30 (fun c30 => ?_) (fun c30 => ?_)
        · have uu : u = ts.length := by omega
          refine w_iinc2 d153_105 rfl (by constructor <;> omega) ?_
          refine w_goto d153_108 ?_
          refine w_less ?_ (IH17 _ (by omega) g2 (f + 1) rfl Mg2 (by omega) (by omega) (fun w hw => j2 w (by omega)))
          exact ⟨Or.inr rfl, Or.inr rfl, Or.inr rfl, Or.inl rfl, Or.inl rfl, Or.inl rfl, trivial⟩
        · have hu : u < ts.length := by omega
          obtain ⟨a1, a2, a3⟩ := tcg.2.2 u hu
          have a6 := a2.2.2.2.2.2.2.2.2.2.2.2.2.1.1
          refine w_iconst d153_33 (by decide) ?_
          refine w_istore4 d153_34 rfl ?_
          have L36 : ∀ (m36 : Nat) (g3 : Hp) (i : Nat), 6 - i = m36 → Mo S (fun x => x = (sT S 393 p)) h g3 → (i ≤ 6) → (∀ w, w < u → wayS ts (AI g3 (sT S 393 p)) to (f + 1) w) → (∀ w, u < w → w < ts.length → wayS ts (AI g3 (sT S 393 p)) to (f) w) → (∀ w, w < ts.length → (AI g3 (sT S 393 p) w = (f : Nat) ↔ dst ts w to (f - 1))) → ((wayS ts (AI g3 (sT S 393 p)) to (f) u) ∨ (AI g3 (sT S 393 p) u = ((f + 1 : Nat) : Int) ∧ dst ts u to f)) → (AI g3 (sT S 393 p) u = 0 → ∀ j, j < i → ∀ v : Nat, inT ts u j = (v : Nat) → ¬ dst ts v to (f - 1)) → Wp G d 153 36 [some (vR (some p)), some (vI (to : Nat)), some (vI (f : Nat)), some (vI (u : Nat)), some (vI (i : Nat)), none] [] g3 Q := by
            intro m36
            induction m36 using Nat.strongRecOn with | ind m36 IH36 => ?_
            intro g3 i hm36 Mg3 l1 l2 l3 l4 l5 l6
            have okg3 := Mg3.ok
            have tcg3 := tc0.fr ok Mg3 hp (Or.inl hne) hnE
            obtain ⟨a1, a2, a3⟩ := tcg3.2.2 u hu
            have fin : AI g3 (sT S 393 p) u ≠ 0 ∨ (∀ j, ∀ v : Nat, inT ts u j = (v : Nat) → ¬ dst ts v to (f - 1)) → wayS ts (AI g3 (sT S 393 p)) to (f + 1) u := by
              intro hq
              rcases l5 with (⟨k, k1, k2, k3⟩ | ⟨k1, k2⟩) | ⟨k1, k2⟩
              · exact Or.inl ⟨k, by omega, k2, k3⟩
              · refine Or.inr ⟨k1, fun k hk z => ?_⟩
                by_cases q : k < f
                · exact k2 k q z
                · have e : k = (f - 1) + 1 := by omega
                  rw [e] at z
                  obtain ⟨v, ⟨j, e1⟩, e2⟩ := stp_front.mp z
                  refine hq.resolve_left (fun q => q k1) j v e1 ⟨e2, fun j2 hj z2 => k2 (j2 + 1) (by omega) (stp_front.mpr ⟨v, ⟨j, e1⟩, z2⟩)⟩
              · exact Or.inl ⟨f, by omega, k1, k2⟩
            refine w_aload_n d153_36 rfl ?_
            refine w_dloadS d153_37 (okg3.kd hp) (fr393 okg3 hp) ?_
            refine w_iload_n d153_40 rfl ?_
            refine w_ialoadN d153_41 (gi393 okg3 hp (by omega)) ?_
            have r41 := ra393 okg3 hp u
            refine w_ifne d153_42 (fun c42 => ?_) (fun c42 => ?_)
            · have c42 : AI g3 (sT S 393 p) u ≠ 0 := c42
              have l9 := fin (Or.inl c42)
              refine w_iinc3 d153_99 rfl (by constructor <;> omega) ?_
              refine w_goto d153_102 ?_
              refine w_less ?_ (IH25 _ (by omega) g3 (u + 1) rfl Mg3 (by omega) (fun w hw => by
                by_cases z : w = u
                · subst z; exact l9
                · exact l2 w (by omega)) (fun w h1 h2 => l3 w (by omega) h2) l4)
              exact ⟨Or.inr rfl, Or.inr rfl, Or.inr rfl, Or.inr rfl, Or.inl rfl, Or.inl rfl, trivial⟩
            · have c42 : AI g3 (sT S 393 p) u = 0 := c42
              refine w_iload d153_45 rfl ?_
              refine w_aload_n d153_47 rfl ?_
              refine w_dloadS d153_48 (okg3.kd hp) (fr392 okg3 hp) ?_
              refine w_iload_n d153_51 rfl ?_
              have k52 := kE392 okg3 hp (j := u) (by omega)
              refine w_aaloadSN d153_52 (gi392 okg3 hp (by omega)) (er392 okg3 hp (by omega)) ?_
              refine w_getI (x := ((tgI (tD ts u)).length : Int)) d153_53 (okg3.kd k52) a2.2.2.2.2.1 ?_
              refine w_icmpge d153_56 (fun c56 => ?_) (fun c56 => ?_)
              · have l9 := fin (Or.inr (fun j v e => by
                  by_cases q : j < i
                  · exact l6 c42 j q v e
                  · rw [inT_end (by omega)] at e; omega))
                refine w_iinc3 d153_99 rfl (by constructor <;> omega) ?_
                refine w_goto d153_102 ?_
                refine w_less ?_ (IH25 _ (by omega) g3 (u + 1) rfl Mg3 (by omega) (fun w hw => by
                  by_cases z : w = u
                  · subst z; exact l9
                  · exact l2 w (by omega)) (fun w h1 h2 => l3 w (by omega) h2) l4)
                exact ⟨Or.inr rfl, Or.inr rfl, Or.inr rfl, Or.inr rfl, Or.inl rfl, Or.inl rfl, trivial⟩
              · have hi : i < (tgI (tD ts u)).length := by omega
                refine w_aload_n d153_59 rfl ?_
                refine w_iload_n d153_60 rfl ?_
                refine w_iload d153_61 rfl ?_
                refine w_callv3 d153_63 (by omega) rfl (okg3.kd hp) (by simp) (Nat.le_of_ble_eq_true rfl) ?_
                refine k_Plan_inputTargetN okg3 (by omega) hp tcg3 ?_
                refine w_istore5 d153_66 rfl ?_
                refine w_iload d153_68 rfl ?_
                refine w_iflt d153_70 (fun c70 => ?_) (fun c70 => ?_)
                · have n6 : ∀ v : Nat, inT ts u i = (v : Nat) → ¬ dst ts v to (f - 1) := fun v e => by omega
                  refine w_iinc4 d153_93 rfl (by constructor <;> omega) ?_
                  refine w_goto d153_96 ?_
                  refine w_less ?_ (IH36 _ (by omega) g3 (i + 1) rfl Mg3 (by omega) l2 l3 l4 l5 (fun q j hj v e => by
                    by_cases z : j = i
                    · subst z; exact n6 v e
                    · exact l6 q j (by omega) v e))
                  exact ⟨Or.inr rfl, Or.inr rfl, Or.inr rfl, Or.inr rfl, Or.inr rfl, Or.inl rfl, trivial⟩
                · have hvr := inT_rg ts u i
                  have hv : inT ts u i = (((inT ts u i).toNat : Nat) : Int) := by omega
                  generalize (inT ts u i).toNat = v at hv
                  rw [hv]
                  have hv14 : v < ts.length := by omega
                  refine w_aload_n d153_73 rfl ?_
                  refine w_dloadS d153_74 (okg3.kd hp) (fr393 okg3 hp) ?_
                  refine w_iload d153_77 rfl ?_
                  refine w_ialoadN d153_79 (gi393 okg3 hp (by omega)) ?_
                  have r79 := ra393 okg3 hp v
                  refine w_iload_n d153_80 rfl ?_
                  refine w_icmpne d153_81 (fun c81 => ?_) (fun c81 => ?_)
                  · have c81 : AI g3 (sT S 393 p) v ≠ (f : Nat) := c81
                    have n6 : ∀ v : Nat, inT ts u i = (v : Nat) → ¬ dst ts v to (f - 1) := fun w e q => by
                      have e2 : w = v := by omega
                      subst e2
                      exact c81 ((l4 w hv14).mpr q)
                    refine w_iinc4 d153_93 rfl (by constructor <;> omega) ?_
                    refine w_goto d153_96 ?_
                    refine w_less ?_ (IH36 _ (by omega) g3 (i + 1) rfl Mg3 (by omega) l2 l3 l4 l5 (fun q j hj v e => by
                      by_cases z : j = i
                      · subst z; exact n6 v e
                      · exact l6 q j (by omega) v e))
                    exact ⟨Or.inr rfl, Or.inr rfl, Or.inr rfl, Or.inr rfl, Or.inr rfl, Or.inl rfl, trivial⟩
                  · have c81 : AI g3 (sT S 393 p) v = (f : Nat) := c81
                    have dv := (l4 v hv14).mp c81
                    have du : dst ts u to f := by
                      refine ⟨by rw [show f = (f - 1) + 1 by omega]; exact stp_front.mpr ⟨v, ⟨i, hv⟩, dv.1⟩, fun j hj z => ?_⟩
                      rcases l5 with (⟨k, k1, k2, k3⟩ | ⟨k1, k2⟩) | ⟨k1, k2⟩
                      · omega
                      · exact k2 j hj z
                      · omega
                    refine w_aload_n d153_84 rfl ?_
                    refine w_dloadS d153_85 (okg3.kd hp) (fr393 okg3 hp) ?_
                    refine w_iload_n d153_88 rfl ?_
                    refine w_iload_n d153_89 rfl ?_
                    refine w_iconst d153_90 (by decide) ?_
                    refine w_iadd d153_91 (by constructor <;> omega) ?_
                    refine wa393 d153_92 okg3 hp (by omega) (by omega) (fun h92 e92 m92 => ?_)
                    have e92 : h92 = sAI g3 (sT S 393 p) u (((f : Nat) : Int) + 1) := e92
                    have ok92 := m92.ok
                    have M92 := Mo.tr ok Mg3 m92 (fun x e => e)
                    refine w_iinc4 d153_93 rfl (by constructor <;> omega) ?_
                    refine w_goto d153_96 ?_
                    have eo : ∀ w, w ≠ u → AI h92 (sT S 393 p) w = AI g3 (sT S 393 p) w := fun w hw => by rw [e92, sArr, if_neg hw]
                    have eu : AI h92 (sT S 393 p) u = ((f : Nat) : Int) + 1 := by rw [e92, sArr, if_pos rfl]
                    refine w_less ?_ (IH36 _ (by omega) h92 (i + 1) rfl M92 (by omega) (fun w hw => (l2 w hw).congr (eo w (by omega))) (fun w h1 h2 => (l3 w h1 h2).congr (eo w (by omega))) (fun w hw => by
                      by_cases z : w = u
                      · subst z
                        rw [eu]
                        exact ⟨fun q => by omega, fun q => absurd q.1 (du.2 _ (by omega))⟩
                      · rw [eo w z]; exact l4 w hw) (Or.inr ⟨by rw [eu]; rfl, du⟩) (fun q => by rw [eu] at q; omega))
                    exact ⟨Or.inr rfl, Or.inr rfl, Or.inr rfl, Or.inr rfl, Or.inr rfl, Or.inl rfl, trivial⟩
          refine w_less ?_ (L36 _ g2 0 rfl Mg2 (by omega) j2 (fun w h1 h2 => j3 w (by omega) h2) j4 (Or.inl (j3 u (Nat.le_refl _) hu)) (fun _ j hj => by omega))
          exact ⟨Or.inr rfl, Or.inr rfl, Or.inr rfl, Or.inr rfl, Or.inr rfl, Or.inl rfl, trivial⟩
      refine w_less ?_ (L25 _ g 0 rfl Mg (by omega) (fun w hw => by omega) (fun w _ hw => i3 w hw) (fun w hw => by
        rcases i3 w hw with ⟨k, k1, k2, k3⟩ | ⟨k1, k2⟩
        · constructor
          · intro q; have e : k = f - 1 := by omega
            rw [← e]; exact k3
          · intro q
            have e : k = f - 1 := by
              rcases Nat.lt_trichotomy k (f - 1) with z | z | z
              · exact absurd k3.1 (q.2 k z)
              · exact z
              · exact absurd q.1 (k3.2 _ z)
            omega
        · constructor
          · intro q; omega
          · intro q; exact absurd q.1 (k2 _ (by omega))))
      exact ⟨Or.inr rfl, Or.inr rfl, Or.inr rfl, Or.inr rfl, Or.inl rfl, Or.inl rfl, trivial⟩
  refine w_less ?_ (L17 _ h14 1 rfl M14 (by omega) (by omega) (fun w hw => by
    unfold wayS
    rw [e14, sArr, e5_1 w (by omega)]
    by_cases q : w = to
    · subst q
      rw [if_pos rfl]
      exact Or.inl ⟨0, by omega, rfl, rfl, fun j hj => by omega⟩
    · rw [if_neg q]
      refine Or.inr ⟨rfl, fun k hk z => ?_⟩
      have e0 : k = 0 := by omega
      subst e0; exact q z))
  exact ⟨Or.inr rfl, Or.inr rfl, Or.inr rfl, Or.inl rfl, Or.inl rfl, Or.inl rfl, trivial⟩
theorem d154_0 : dc 154 0 = some (.iload_n 1, 1) := by decide +kernel
theorem d154_1 : dc 154 1 = some (.istore_n 3, 2) := by decide +kernel
theorem d154_2 : dc 154 2 = some (.aload_n 2, 3) := by decide +kernel
theorem d154_3 : dc 154 3 = some (.aload_n 0, 4) := by decide +kernel
theorem d154_4 : dc 154 4 = some (.dload 392, 7) := by decide +kernel
theorem d154_7 : dc 154 7 = some (.iload_n 3, 8) := by decide +kernel
theorem d154_8 : dc 154 8 = some (.aaload, 9) := by decide +kernel
theorem d154_9 : dc 154 9 = some (.fload 129, 12) := by decide +kernel
theorem d154_12 : dc 154 12 = some (.invokevirtual 104, 15) := by decide +kernel
theorem d154_15 : dc 154 15 = some (.aload_n 0, 16) := by decide +kernel
theorem d154_16 : dc 154 16 = some (.dload 393, 19) := by decide +kernel
theorem d154_19 : dc 154 19 = some (.iload_n 3, 20) := by decide +kernel
theorem d154_20 : dc 154 20 = some (.iaload, 21) := by decide +kernel
theorem d154_21 : dc 154 21 = some (.iconst 1, 22) := by decide +kernel
theorem d154_22 : dc 154 22 = some (.isub, 23) := by decide +kernel
theorem d154_23 : dc 154 23 = some (.istore 4, 25) := by decide +kernel
theorem d154_25 : dc 154 25 = some (.iload 4, 27) := by decide +kernel
theorem d154_27 : dc 154 27 = some (.ifCond .le ((130 : Nat) : Int), 30) := by decide +kernel
theorem d154_30 : dc 154 30 = some (.bipush 14, 32) := by decide +kernel
theorem d154_32 : dc 154 32 = some (.istore 5, 34) := by decide +kernel
theorem d154_34 : dc 154 34 = some (.iconst 0, 35) := by decide +kernel
theorem d154_35 : dc 154 35 = some (.istore 6, 37) := by decide +kernel
theorem d154_37 : dc 154 37 = some (.iload 6, 39) := by decide +kernel
theorem d154_39 : dc 154 39 = some (.aload_n 0, 40) := by decide +kernel
theorem d154_40 : dc 154 40 = some (.dload 392, 43) := by decide +kernel
theorem d154_43 : dc 154 43 = some (.iload_n 3, 44) := by decide +kernel
theorem d154_44 : dc 154 44 = some (.aaload, 45) := by decide +kernel
theorem d154_45 : dc 154 45 = some (.getfield 133, 48) := by decide +kernel
theorem d154_48 : dc 154 48 = some (.if_icmp .ge ((92 : Nat) : Int), 51) := by decide +kernel
theorem d154_51 : dc 154 51 = some (.aload_n 0, 52) := by decide +kernel
theorem d154_52 : dc 154 52 = some (.iload_n 3, 53) := by decide +kernel
theorem d154_53 : dc 154 53 = some (.iload 6, 55) := by decide +kernel
theorem d154_55 : dc 154 55 = some (.invokevirtual 78, 58) := by decide +kernel
theorem d154_58 : dc 154 58 = some (.istore 7, 60) := by decide +kernel
theorem d154_60 : dc 154 60 = some (.iload 7, 62) := by decide +kernel
theorem d154_62 : dc 154 62 = some (.ifCond .lt ((86 : Nat) : Int), 65) := by decide +kernel
theorem d154_65 : dc 154 65 = some (.aload_n 0, 66) := by decide +kernel
theorem d154_66 : dc 154 66 = some (.dload 393, 69) := by decide +kernel
theorem d154_69 : dc 154 69 = some (.iload 7, 71) := by decide +kernel
theorem d154_71 : dc 154 71 = some (.iaload, 72) := by decide +kernel
theorem d154_72 : dc 154 72 = some (.iload 4, 74) := by decide +kernel
theorem d154_74 : dc 154 74 = some (.if_icmp .ne ((86 : Nat) : Int), 77) := by decide +kernel
theorem d154_77 : dc 154 77 = some (.iload 5, 79) := by decide +kernel
theorem d154_79 : dc 154 79 = some (.iload 7, 81) := by decide +kernel
theorem d154_81 : dc 154 81 = some (.invokestatic 4, 84) := by decide +kernel
theorem d154_84 : dc 154 84 = some (.istore 5, 86) := by decide +kernel
theorem d154_86 : dc 154 86 = some (.iinc 6 1, 89) := by decide +kernel
theorem d154_89 : dc 154 89 = some (.goto ((37 : Nat) : Int), 92) := by decide +kernel
theorem d154_92 : dc 154 92 = some (.iload 5, 94) := by decide +kernel
theorem d154_94 : dc 154 94 = some (.aload_n 0, 95) := by decide +kernel
theorem d154_95 : dc 154 95 = some (.getfield 391, 98) := by decide +kernel
theorem d154_98 : dc 154 98 = some (.if_icmp .lt ((102 : Nat) : Int), 101) := by decide +kernel
theorem d154_101 : dc 154 101 = some (.return_, 102) := by decide +kernel
theorem d154_102 : dc 154 102 = some (.iload 5, 104) := by decide +kernel
theorem d154_104 : dc 154 104 = some (.istore_n 3, 105) := by decide +kernel
theorem d154_105 : dc 154 105 = some (.aload_n 2, 106) := by decide +kernel
theorem d154_106 : dc 154 106 = some (.bipush 32, 108) := by decide +kernel
theorem d154_108 : dc 154 108 = some (.invokevirtual 15, 111) := by decide +kernel
theorem d154_111 : dc 154 111 = some (.aload_n 2, 112) := by decide +kernel
theorem d154_112 : dc 154 112 = some (.aload_n 0, 113) := by decide +kernel
theorem d154_113 : dc 154 113 = some (.dload 392, 116) := by decide +kernel
theorem d154_116 : dc 154 116 = some (.iload_n 3, 117) := by decide +kernel
theorem d154_117 : dc 154 117 = some (.aaload, 118) := by decide +kernel
theorem d154_118 : dc 154 118 = some (.fload 129, 121) := by decide +kernel
theorem d154_121 : dc 154 121 = some (.invokevirtual 104, 124) := by decide +kernel
theorem d154_124 : dc 154 124 = some (.iinc 4 (-1), 127) := by decide +kernel
theorem d154_127 : dc 154 127 = some (.goto ((25 : Nat) : Int), 130) := by decide +kernel
theorem d154_130 : dc 154 130 = some (.return_, 131) := by decide +kernel
theorem k_Plan_tellDown {S : Shp} {G : Nat → Option Nat} {d : Nat} {h : Hp} {Q : Option MV → Hp → Prop} {p : Nat} {t : Nat} {r : Nat}  (ok : Ok S h) (h1 : 2 ≤ d) (hp : sK S p = 4) (hr : sK S r = 6) {ts : List (Bool × TgV)} (tc : TsC S h p ts) (ht : t < ts.length) (hpr : ¬ U S p r)
    (kk : ∀ h', Mo S (fun y => y = r) h h' → rl h' r = addBs (cap h r) (rl h r) (tgN (tD ts t) ++ dnT ts (AI h (sT S 393 p)) ((AI h (sT S 393 p) t).toNat - 1) t) → cap h' r = cap h r → Q none h') : Cl G d 154 [vR (some p), vI (t : Nat), vR (some r)] h Q := by
  show Wp G d 154 0 [some (vR (some p)), some (vI (t : Nat)), some (vR (some r)), none, none, none, none, none] [] h Q
  have tc0 := tc
  have hl14 := tc.2.1
  have nA : ∀ y, U S p y → ¬ y = r := fun y u q => hpr (q ▸ u)
  have kM := kT393 ok hp
  have o1 := tc.okn t ht
  have rmk := ra393 ok hp
  have a2 := (tc.2.2 t ht).2.1
  refine w_iload_n d154_0 rfl ?_
  refine w_istore3 d154_1 rfl ?_
  refine w_aload_n d154_2 rfl ?_
  refine w_aload_n d154_3 rfl ?_
  refine w_dloadS d154_4 (ok.kd hp) (fr392 ok hp) ?_
  refine w_iload_n d154_7 rfl ?_
  have k8 := kE392 ok hp (j := t) (by omega)
  refine w_aaloadSN d154_8 (gi392 ok hp (by omega)) (er392 ok hp (by omega)) ?_
  refine w_floadV (x := (hd (tgN (tD ts t)))) d154_9 (ok.kd k8) a2.1 ?_
  refine w_callv2 d154_12 (by omega) rfl (ok.kd hr) (by simp) (Nat.le_of_ble_eq_true rfl) ?_
  refine r_Row_addName (by omega) ok hr (fun h12 m12 e12_1 e12_2 => ?_)
  have ok12 := m12.ok
  have M12 := Mo.tr ok (Mo.refl (A := (fun x => x = r)) ok) m12 (fun x e => e)
  refine w_aload_n d154_15 rfl ?_
  refine w_dloadS d154_16 (ok12.kd hp) (fr393 ok12 hp) ?_
  refine w_iload_n d154_19 rfl ?_
  refine w_ialoadV (x := (AI h (sT S 393 p) t)) d154_20 (gi393 ok12 hp (by omega)) (congrFun (m12.ai ok (by omega) (nA _ (ok.so.uT (by decide) U_refl))) t) ?_
  refine w_iconst d154_21 (by decide) ?_
  refine w_isub d154_22 (by have := rmk t; constructor <;> omega) ?_
  refine w_istore4 d154_23 rfl ?_
  have L25 : ∀ (m25 : Nat) (g : Hp) (m : Int) (u : Nat) (tx : List Nat), m.toNat = m25 → Mo S (fun x => x = r) h g → (-1 ≤ m) → (m ≤ 15) → (u < ts.length) → (tgN (tD ts t) ++ dnT ts (AI h (sT S 393 p)) ((AI h (sT S 393 p) t).toNat - 1) t = tx ++ dnT ts (AI h (sT S 393 p)) m.toNat u) → (rl g r = addBs (cap h r) (rl h r) (tx)) → (cap g r = cap h r) → Wp G d 154 25 [some (vR (some p)), some (vI (t : Nat)), some (vR (some r)), some (vI (u : Nat)), some (vI m), none, none, none] [] g Q := by
    intro m25
    induction m25 using Nat.strongRecOn with | ind m25 IH25 => ?_
    intro g m u tx hm25 Mg i1 i15 i4 i5 i2 i3
    have okg := Mg.ok
    have tcg := tc0.mo ok Mg hp nA
    have em : AI g (sT S 393 p) = AI h (sT S 393 p) := Mg.ai ok (by omega) (nA _ (ok.so.uT (by decide) U_refl))
    obtain ⟨a1, a2, a3⟩ := tcg.2.2 u i4
    have a6 := a2.2.2.2.2.2.2.2.2.2.2.2.2.1.1
    refine w_iload d154_25 rfl ?_
    refine w_ifle d154_27 (fun c27 => ?_) (fun c27 => ?_)
    · refine w_return d154_130 ?_
      rw [show m.toNat = 0 by omega, dnT, List.append_nil] at i5
      exact kk g Mg (by rw [i5]; exact i2) i3
    · have hm : m = (((m.toNat - 1) + 1 : Nat) : Int) := by omega
      generalize hmm : m.toNat - 1 = m1 at hm
      refine w_bipush d154_30 (by decide) ?_
      refine w_istore5 d154_32 rfl ?_
      refine w_iconst d154_34 (by decide) ?_
      refine w_istore6 d154_35 rfl ?_
      have L37 : ∀ (m37 : Nat) (i : Nat), 6 - i = m37 → (i ≤ 6) → Wp G d 154 37 [some (vR (some p)), some (vI (t : Nat)), some (vR (some r)), some (vI (u : Nat)), some (vI m), some (vI (nxtF ts (AI h (sT S 393 p)) u (m1 + 1) i : Nat)), some (vI (i : Nat)), none] [] g Q := by
        intro m37
        induction m37 using Nat.strongRecOn with | ind m37 IH37 => ?_
        intro i hm37 l1
        have nle := nxtF_le ts (AI h (sT S 393 p)) u (m1 + 1) i
        refine w_iload d154_37 rfl ?_
        refine w_aload_n d154_39 rfl ?_
        refine w_dloadS d154_40 (okg.kd hp) (fr392 okg hp) ?_
        refine w_iload_n d154_43 rfl ?_
        have k44 := kE392 okg hp (j := u) (by omega)
        refine w_aaloadSN d154_44 (gi392 okg hp (by omega)) (er392 okg hp (by omega)) ?_
        refine w_getI (x := ((tgI (tD ts u)).length : Int)) d154_45 (okg.kd k44) a2.2.2.2.2.1 ?_
        refine w_icmpge d154_48 (fun c48 => ?_) (fun c48 => ?_)
        · have e6 : nxtF ts (AI h (sT S 393 p)) u (m1 + 1) i = nxtF ts (AI h (sT S 393 p)) u (m1 + 1) 6 := by have := nxtF_end (ts := ts) (mk := AI h (sT S 393 p)) (t := u) (m := m1 + 1) (i := i) (by omega) (6 - i); rw [show i + (6 - i) = 6 by omega] at this; exact this.symm
          rw [e6]
          refine w_iload d154_92 rfl ?_
          refine w_aload_n d154_94 rfl ?_
          refine w_getI (x := (ts.length : Int)) d154_95 (okg.kd hp) tcg.1 ?_
          refine w_icmplt d154_98 (fun c98 => ?_) (fun c98 => ?_)
          · have hnx : nxtF ts (AI h (sT S 393 p)) u (m1 + 1) 6 < ts.length := by omega
            have b2 := (tcg.2.2 _ hnx).2.1
            have o2 := tc.okn _ hnx
            refine w_iload d154_102 rfl ?_
            refine w_istore3 d154_104 rfl ?_
            refine w_aload_n d154_105 rfl ?_
            refine w_bipush d154_106 (by decide) ?_
            refine w_callv2 d154_108 (by omega) rfl (okg.kd hr) (by simp) (Nat.le_of_ble_eq_true rfl) ?_
            refine r_Row_add okg hr (fun h108 m108 e108_1 e108_2 => ?_)
            have ok108 := m108.ok
            have M108 := Mo.tr ok Mg m108 (fun x e => e)
            refine w_aload_n d154_111 rfl ?_
            refine w_aload_n d154_112 rfl ?_
            refine w_dloadS d154_113 (ok108.kd hp) (fr392 ok108 hp) ?_
            refine w_iload_n d154_116 rfl ?_
            have k117 := kE392 ok108 hp (j := (nxtF ts (AI h (sT S 393 p)) u (m1 + 1) 6)) (by omega)
            refine w_aaloadSN d154_117 (gi392 ok108 hp (by omega)) (er392 ok108 hp (by omega)) ?_
            refine w_floadV (x := (hd (tgN (tD ts (nxtF ts (AI h (sT S 393 p)) u (m1 + 1) 6))))) d154_118 (ok108.kd k117) (by rw [m108.fl okg (by have := kE392 ok hp (j := nxtF ts (AI h (sT S 393 p)) u (m1 + 1) 6) (by omega); omega) (nA _ (ok.so.uE (by omega) (ok.so.uT (by decide) U_refl)))]; exact b2.1) ?_
            refine w_callv2 d154_121 (by omega) rfl (ok108.kd hr) (by simp) (Nat.le_of_ble_eq_true rfl) ?_
            refine r_Row_addName (by omega) ok108 hr (fun h121 m121 e121_1 e121_2 => ?_)
            have ok121 := m121.ok
            have M121 := Mo.tr ok M108 m121 (fun x e => e)
            refine w_iinc4 d154_124 rfl (by constructor <;> omega) ?_
            refine w_goto d154_127 ?_
            refine w_less ?_ (IH25 _ (by omega) h121 (m - 1) (nxtF ts (AI h (sT S 393 p)) u (m1 + 1) 6) (tx ++ 32 :: tgN (tD ts (nxtF ts (AI h (sT S 393 p)) u (m1 + 1) 6))) rfl M121 (by omega) (by omega) hnx (by rw [i5, show m.toNat = m1 + 1 by omega, dnT, if_pos hnx, show (m - 1).toNat = m1 by omega]; simp) (by rw [e121_1, e108_1, e108_2, i3, i2, addBs3, addBs3, nm_hd o2]; rfl) (by rw [e121_2, e108_2, i3]))
            exact ⟨Or.inr rfl, Or.inr rfl, Or.inr rfl, Or.inr rfl, Or.inr rfl, Or.inl rfl, Or.inl rfl, Or.inl rfl, trivial⟩
          · refine w_return d154_101 ?_
            rw [show m.toNat = m1 + 1 by omega, dnT, if_neg (by omega), List.append_nil] at i5
            exact kk g Mg (by rw [i5]; exact i2) i3
        · have hi : i < (tgI (tD ts u)).length := by omega
          refine w_aload_n d154_51 rfl ?_
          refine w_iload_n d154_52 rfl ?_
          refine w_iload d154_53 rfl ?_
          refine w_callv3 d154_55 (by omega) rfl (okg.kd hp) (by simp) (Nat.le_of_ble_eq_true rfl) ?_
          refine k_Plan_inputTargetN okg (by omega) hp tcg ?_
          refine w_istore7 d154_58 rfl ?_
          refine w_iload d154_60 rfl ?_
          refine w_iflt d154_62 (fun c62 => ?_) (fun c62 => ?_)
          · have n5 : nxtF ts (AI h (sT S 393 p)) u (m1 + 1) (i + 1) = nxtF ts (AI h (sT S 393 p)) u (m1 + 1) i := by rw [nxtF, if_neg (fun q => by omega)]
            refine w_iinc6 d154_86 rfl (by constructor <;> omega) ?_
            refine w_goto d154_89 ?_
            refine w_less ?_ (IH37 _ (by omega) (i + 1) rfl (by omega))
            exact ⟨Or.inr rfl, Or.inr rfl, Or.inr rfl, Or.inr rfl, Or.inr rfl, Or.inr (by first | rfl | rw [n5]), Or.inr rfl, Or.inl rfl, trivial⟩
          · have hvr := inT_rg ts u i
            have hv : inT ts u i = (((inT ts u i).toNat : Nat) : Int) := by omega
            generalize hvv : (inT ts u i).toNat = v at hv
            rw [hv]
            have hv14 : v < ts.length := by omega
            refine w_aload_n d154_65 rfl ?_
            refine w_dloadS d154_66 (okg.kd hp) (fr393 okg hp) ?_
            refine w_iload d154_69 rfl ?_
            refine w_ialoadV (x := (AI h (sT S 393 p) v)) d154_71 (gi393 okg hp (by omega)) (congrFun em v) ?_
            refine w_iload d154_72 rfl ?_
            refine w_icmpne d154_74 (fun c74 => ?_) (fun c74 => ?_)
            · have n5 : nxtF ts (AI h (sT S 393 p)) u (m1 + 1) (i + 1) = nxtF ts (AI h (sT S 393 p)) u (m1 + 1) i := by rw [nxtF, if_neg (fun q => by rw [hvv] at q; omega)]
              refine w_iinc6 d154_86 rfl (by constructor <;> omega) ?_
              refine w_goto d154_89 ?_
              refine w_less ?_ (IH37 _ (by omega) (i + 1) rfl (by omega))
              exact ⟨Or.inr rfl, Or.inr rfl, Or.inr rfl, Or.inr rfl, Or.inr rfl, Or.inr (by first | rfl | rw [n5]), Or.inr rfl, Or.inl rfl, trivial⟩
            · have n5 : nxtF ts (AI h (sT S 393 p)) u (m1 + 1) (i + 1) = min (nxtF ts (AI h (sT S 393 p)) u (m1 + 1) i) v := by rw [nxtF, if_pos ⟨by omega, by rw [hvv]; omega⟩, hvv]
              refine w_iload d154_77 rfl ?_
              refine w_iload d154_79 rfl ?_
              refine w_min d154_81 (by refine ⟨by simp, ?_⟩; omega) ?_
              rw [show (if ((v : Nat) : Int) < (((nxtF ts (AI h (sT S 393 p)) u (m1 + 1) i : Nat) : Int)) then ((v : Nat) : Int) else (((nxtF ts (AI h (sT S 393 p)) u (m1 + 1) i : Nat) : Int))) = ((nxtF ts (AI h (sT S 393 p)) u (m1 + 1) (i + 1) : Nat) : Int) by rw [n5]; split <;> omega]
              have upd := True.intro
              refine w_istore5 d154_84 rfl ?_
              refine w_iinc6 d154_86 rfl (by constructor <;> omega) ?_
              refine w_goto d154_89 ?_
              refine w_less ?_ (IH37 _ (by omega) (i + 1) rfl (by omega))
              exact ⟨Or.inr rfl, Or.inr rfl, Or.inr rfl, Or.inr rfl, Or.inr rfl, Or.inr (by first | rfl | rw [n5]), Or.inr rfl, Or.inl rfl, trivial⟩
      refine w_less ?_ (L37 _ 0 rfl (by omega))
      exact ⟨Or.inr rfl, Or.inr rfl, Or.inr rfl, Or.inr rfl, Or.inr rfl, Or.inr rfl, Or.inr rfl, Or.inl rfl, trivial⟩
  refine w_less ?_ (L25 _ h12 (AI h (sT S 393 p) t - 1) t (tgN (tD ts t)) rfl M12 (by have := rmk t; omega) (by have := rmk t; omega) ht (by rw [show (AI h (sT S 393 p) t - 1).toNat = (AI h (sT S 393 p) t).toNat - 1 by have := rmk t; omega]) (by rw [e12_1, nm_hd o1]) e12_2)
  exact ⟨Or.inr rfl, Or.inr rfl, Or.inr rfl, Or.inr rfl, Or.inr rfl, Or.inl rfl, Or.inl rfl, Or.inl rfl, trivial⟩
