/-! the heaps: what a cell of the JVM holds where the small machine's maps have a kind -/
/-- numbers of the classes, places of the fields, numbers of the array classes, the first address of our own -/
abbrev Dk : Type := (Nat → ClassId) × (Nat → Nat → Nat) × (Nat → ClassId) × Nat
def kty (k : Nat) : FieldType := match k with
  | 40 | 80 => .int
  | 41 | 81 => .byte
  | 42 => .boolean
  | 44 => .long
  | 75 | 82 => .object "BuildHouse$Verb"
  | 76 => .array .int
  | k => .object (onm (k - 50))
def aKs : List Nat := [40, 41, 42, 44, 75, 76, 50, 51, 52, 53, 54, 55, 56, 57, 58, 59, 60, 61, 62, 63]
/-- the array kinds that the launch makes -/
def aUs : List Nat := [40, 41, 42, 44, 75, 76, 51, 52, 55, 62]
def tysL (D : Dk) : List (ClassId × FieldType) := aUs.map fun k => (D.2.2.1 k, kty k)
def fval (h : Hp) (c k a : Nat) : Value := match (ftyT.getD c []).getD k 9 with
  | 1 => .long (FL h (128 * c + k) a)
  | 2 => va_rf (FR h (128 * c + k) a)
  | _ => .int (i32 (FI h (128 * c + k) a))
def aval (h : Hp) (kd a j : Nat) : Value := if kd = 44 then .long (AL h a j) else if (50 ≤ kd ∧ kd < 77) ∨ kd = 82 then va_rf (AR h a j) else .int (i32 (AI h a j))
def oA (D : Dk) : Nat → Prop := fun q => D.2.2.2 ≤ q
def fSt (D : Dk) (h : Hp) (U : State) (H : Heap) (a : Nat) : Prop := va_O "java/lang/String" a (oA D) U H ∧ va_OF "java/lang/String" "value" "[B" (va_rf (FR h 2048 a)) a (oA D) U H ∧ va_OF "java/lang/String" "coder" "B" (.int (i32 (FI h 2049 a))) a (oA D) U H
def fVb (D : Dk) (h : Hp) (U : State) (H : Heap) (a : Nat) : Prop := va_O "BuildHouse$Verb" a (oA D) U H ∧ va_OF "BuildHouse$Verb" "word" "Ljava/lang/String;" (va_rf (FR h 2176 a)) a (oA D) U H ∧ va_OF "BuildHouse$Verb" "form" "Ljava/lang/String;" (va_rf (FR h 2177 a)) a (oA D) U H ∧ va_OF "BuildHouse$Verb" "kind" "I" (.int (i32 (FI h 2178 a))) a (oA D) U H ∧ va_OF "java/lang/Enum" "ordinal" "I" (.int (i32 (FI h 2179 a))) a (oA D) U H
/-- the values are in their ranges -/
def hok (h : Hp) : Prop := (∀ f a, InR (FI h f a)) ∧ (∀ b j, InR (AI h b j)) ∧ (∀ b j, KD h b = 41 → -128 ≤ AI h b j ∧ AI h b j < 128) ∧ (∀ b j, KD h b = 42 → AI h b j = 0 ∨ AI h b j = 1) ∧ ∀ a, LN h a ≤ 60000000
def rOb (D : Dk) (h : Hp) (H : Heap) : Prop := ∀ a c, c < 14 → KD h a = 1 + c → D.2.2.2 ≤ a ∧ t_OB a (D.1 c) (mN c) (D.2.1 c) H (fun k => fval h c k a)
def rAr (D : Dk) (h : Hp) (H : Heap) : Prop := ∀ a kd, kd ∈ aKs → KD h a = kd → D.2.2.2 ≤ a ∧ kd ∈ aUs ∧ H[a]? = some (arrV (D.2.2.1 kd) (LN h a) (aval h kd a))
/-- the array that is cloned -/
def f82 (D : Dk) (h : Hp) (H : Heap) (a : Nat) : Prop := ∃ cell : Cell, H[a]? = some cell ∧ cell.slots.size = LN h a ∧ cell.cls = D.2.2.1 75 ∧ ¬ oA D a
/-- what is not ours -/
def rFo (D : Dk) (G : Nat → Option Nat) (h : Hp) (U : State) (H : Heap) : Prop :=
  (∀ a, KD h a = 30 → fSt D h U H a) ∧ (∀ a, KD h a = 31 → fVb D h U H a) ∧ (∀ a kd, kd = 80 ∨ kd = 81 ∨ kd = 82 → KD h a = kd → va_T (kty kd) a (LN h a) (aval h kd a) (oA D) U H) ∧
  (∀ g C n d, (g, C, n, d) ∈ sttN → va_Z C n d (if g < 1000 then va_rf (G g) else .int (i32 ((g - 1000 : Nat) : Int))) (oA D) U H) ∧ ∀ a, KD h a = 82 → f82 D h H a
def Rel (D : Dk) (G : Nat → Option Nat) (h : Hp) (U : State) (H : Heap) : Prop := H.size = NX h ∧ D.2.2.2 ≤ NX h ∧ hok h ∧ rOb D h H ∧ rAr D h H ∧ rFo D G h U H
def isNest : Cond → Bool
  | .fieldLinkNest _ _ _ _ _ _ | .methodLinkNest _ _ _ _ => true
  | _ => false
def nestL : List Cond := tables_1.filter isNest
def AOA (U : State) : Prop := (Cond.arrayOver (.array .int)).before #[] U = true
/-- what the tables say -/
def GK (D : Dk) (G : Nat → Option Nat) (U : State) : Prop :=
  va_K (D.1, D.2.1) mcl (tysL D) U ∧ (∀ w ∈ nestL, va_Nw w U) ∧ (∀ o ∈ [1, 2, 5, 12], va_AO (onm o) U) ∧ AOA U ∧ va_Nw (.castable "[LBuildHouse$Verb;" "java/lang/Cloneable") U ∧ va_Nw (.declares ⟨"java/lang/Enum", "ordinal", "()I"⟩) U ∧
  ∀ o idx g pos, (idx, g, pos) ∈ strT.getD o [] → ∃ (tx : String) (a : Nat), G g = some a ∧ vk_R (onm o) idx tx a U
theorem AOA.moved {u U : State} (hvm : u.vm.Alike U.vm) (h : AOA u) : AOA U := by
  obtain ⟨comp, c, k, h1, h2, h3, h4, h5⟩ := arrayOverA_spec (args := #[]) (first := u) (s := u) (o := none) (idx := []) h
  obtain ⟨k', hk', he⟩ := hvm.2.2 _ _ h3
  have hi : (U.vm.classes.findIdx? fun (x : Class) => match x.kind with | .array component _ => component == comp | _ => false) = some c := by
    have e1 := va_idx_bare (vm := U.vm) (comp := comp)
    have e2 := va_idx_bare (vm := u.vm) (comp := comp)
    refine e1.symm.trans (Eq.trans ?_ (e2.trans h2))
    first | rw [hvm.bare_eq] | rw [← hvm.bare_eq]
  have hkind : k'.kind = .array comp (.array .int) := by rw [he]; exact h4
  have f1 : U.vm.findClass (FieldType.array .int).toString = some comp := by rw [hvm.findClass]; exact h1
  have f2 : U.vm.findClass ("[" ++ (FieldType.array .int).toString) = some c := by rw [hvm.findClass]; exact h5
  unfold AOA Cond.before Cond.holds
  simp only [Cond.value]
  rw [f1, Option.bind_some]
  refine (congrArg (fun o : Option Nat => (o.bind (fun c => (U.vm.classes[c]?).map fun (k : Class) => match k.kind with | .array _ ty => decide (ty = FieldType.array .int) && decide (U.vm.findClass ("[" ++ (FieldType.array .int).toString) = some c) | _ => false) == some true)) hi).trans ?_
  simp [hk', hkind, f2]
theorem GK.warm {D : Dk} {G : Nat → Option Nat} {s U : State} (hW : s.WarmedH U.vm) (h : GK D G s) : GK D G U := by
  obtain ⟨h1, h2, h3, h4, h5, h6, h7⟩ := h
  refine ⟨va_K.moved hW.alike h1, fun w hw => ?_, fun o ho => va_AO.moved hW.alike (h3 o ho), AOA.moved hW.alike h4, va_Nw.warmC hW h5, va_Nw.warmD hW h6, fun o idx g pos hm => ?_⟩
  · have hn := (List.mem_filter.mp hw).2
    have := h2 w hw
    unfold isNest at hn
    split at hn
    · exact va_Nw.warmF hW this
    · exact va_Nw.warmM hW this
    · cases hn
  · obtain ⟨tx, a, e1, e2⟩ := h7 o idx g pos hm
    exact ⟨tx, a, e1, vk_R.warm hW e2⟩
theorem fSt.moved {D : Dk} {h : Hp} {u U : State} {H : Heap} {a : Nat} (hvm : u.vm.Alike U.vm) (x : fSt D h u H a) : fSt D h U H a := ⟨x.1.moved hvm, x.2.1.moved hvm, x.2.2.moved hvm⟩
theorem fVb.moved {D : Dk} {h : Hp} {u U : State} {H : Heap} {a : Nat} (hvm : u.vm.Alike U.vm) (x : fVb D h u H a) : fVb D h U H a := ⟨x.1.moved hvm, x.2.1.moved hvm, x.2.2.1.moved hvm, x.2.2.2.1.moved hvm, x.2.2.2.2.moved hvm⟩
theorem fSt.kept {D : Dk} {h : Hp} {U : State} {H H1 : Heap} {a : Nat} (hq : ∀ q : Nat, q < H.size → ¬ oA D q → H1[q]? = H[q]?) (x : fSt D h U H a) : fSt D h U H1 a := ⟨x.1.kept hq, x.2.1.kept hq, x.2.2.kept hq⟩
theorem fVb.kept {D : Dk} {h : Hp} {U : State} {H H1 : Heap} {a : Nat} (hq : ∀ q : Nat, q < H.size → ¬ oA D q → H1[q]? = H[q]?) (x : fVb D h U H a) : fVb D h U H1 a := ⟨x.1.kept hq, x.2.1.kept hq, x.2.2.1.kept hq, x.2.2.2.1.kept hq, x.2.2.2.2.kept hq⟩
theorem rFo.moved {D : Dk} {G : Nat → Option Nat} {h : Hp} {u U : State} {H : Heap} (hvm : u.vm.Alike U.vm) (x : rFo D G h u H) : rFo D G h U H :=
  ⟨fun a ha => (x.1 a ha).moved hvm, fun a ha => (x.2.1 a ha).moved hvm, fun a kd hk ha => (x.2.2.1 a kd hk ha).moved hvm, fun g C n d hm => (x.2.2.2.1 g C n d hm).moved hvm, x.2.2.2.2⟩
theorem Rel.moved {D : Dk} {G : Nat → Option Nat} {h : Hp} {u U : State} {H : Heap} (hvm : u.vm.Alike U.vm) (x : Rel D G h u H) : Rel D G h U H := ⟨x.1, x.2.1, x.2.2.1, x.2.2.2.1, x.2.2.2.2.1, x.2.2.2.2.2.moved hvm⟩
