/-! the start: tables of the places of its words (written by wip/tools/gen18.py) -/
/-- by text: piece of the start's words and place, owner and pool place of its first mention -/
def txP : List (Nat × Nat × Nat × Nat) := [(0, 335, 1, 61), (1, 146, 3, 132), (1, 156, 3, 139), (1, 170, 3, 141), (1, 304, 3, 198), (1, 203, 6, 193), (1, 209, 6, 199), (1, 218, 6, 200), (1, 229, 6, 210), (1, 235, 7, 121), (1, 383, 7, 92), (1, 392, 7, 94), (1, 399, 7, 96), (2, 7, 7, 98), (2, 17, 7, 100), (2, 25, 7, 102), (1, 104, 8, 46), (1, 115, 8, 48), (1, 129, 8, 50), (1, 141, 8, 52), (1, 253, 8, 54), (1, 325, 8, 101), (1, 333, 8, 103), (1, 342, 8, 105), (1, 353, 8, 107), (1, 363, 8, 119), (1, 372, 8, 121), (1, 182, 9, 220), (1, 190, 9, 172), (1, 18, 10, 256), (1, 29, 10, 270), (1, 40, 10, 275), (1, 51, 10, 289), (1, 61, 10, 294), (1, 74, 10, 296), (1, 82, 10, 298), (1, 262, 10, 358), (1, 277, 10, 176), (1, 285, 10, 425), (1, 293, 10, 427), (2, 35, 10, 392), (2, 45, 13, 477), (2, 294, 13, 21), (3, 327, 13, 936), (3, 340, 15, 142), (3, 355, 15, 271), (3, 363, 15, 235), (3, 371, 15, 237), (3, 392, 15, 265), (3, 397, 15, 150), (4, 5, 15, 152), (4, 12, 15, 155), (4, 21, 15, 157), (4, 26, 15, 160), (4, 35, 15, 162), (4, 42, 15, 165), (4, 53, 15, 167), (4, 58, 15, 170), (4, 67, 15, 172), (4, 72, 15, 175), (4, 82, 15, 178), (4, 89, 15, 180), (4, 94, 15, 183), (4, 102, 15, 186), (4, 114, 15, 189), (4, 123, 15, 191), (4, 132, 15, 194), (4, 141, 15, 196), (4, 154, 15, 199), (4, 164, 15, 202), (4, 173, 15, 205), (4, 182, 15, 208), (4, 193, 15, 211), (4, 204, 15, 214), (4, 213, 15, 217), (4, 221, 15, 220), (4, 229, 15, 223), (4, 237, 15, 226), (4, 246, 15, 229), (4, 256, 15, 232), (4, 266, 15, 240), (4, 278, 15, 243), (4, 286, 15, 246), (4, 298, 15, 249), (4, 307, 15, 252), (4, 316, 15, 255), (4, 326, 15, 257), (4, 331, 15, 260), (4, 341, 15, 268)]
/-- by text: its bytes -/
def txB : List (List Nat) := [[106, 111, 105, 110, 32, 32, 32, 32, 115, 111, 114, 116, 32, 32, 32, 32, 117, 110, 105, 113, 32, 32, 32, 32, 117, 112, 112, 101, 114, 32, 32, 32, 103, 114, 101, 112, 32, 32, 32, 32, 99, 111, 117, 110, 116, 32, 32, 32, 100, 105, 103, 101, 115, 116, 32, 32, 99, 111, 109, 112, 105, 108, 101, 32], [97, 98, 115, 101, 110, 116], [110, 111, 32, 116, 97, 114, 103, 101, 116, 32], [110, 111, 32, 102, 105, 108, 101, 32], [110, 111, 110, 101], [111, 110], [98, 117, 105, 108, 116], [102, 97, 105, 108, 101, 100, 32], [58, 32], [115, 97, 109, 101, 32], [110, 101, 118, 101, 114], [110, 101, 119], [114, 117, 108, 101], [105, 110, 112, 117, 116, 115], [108, 111, 115, 116], [105, 110, 112, 117, 116, 32], [110, 111, 32, 112, 97, 114, 116], [110, 111, 32, 118, 101, 114, 115, 105, 111, 110], [110, 111, 32, 114, 111, 111, 109], [], [114, 117, 108, 101, 32], [102, 105, 118, 101], [109, 101, 101, 116, 115], [98, 114, 111, 107, 101, 110, 32], [115, 111, 108, 118, 101, 100], [111, 112, 101, 110, 32], [114, 101, 102, 117, 116, 101, 100], [98, 97, 100, 32], [116, 111, 111, 32, 108, 97, 114, 103, 101], [110, 111, 32, 102, 105, 108, 101], [110, 111, 32, 114, 117, 108, 101], [110, 111, 32, 119, 111, 114, 100], [99, 105, 114, 99, 108, 101], [110, 111, 32, 116, 97, 114, 103, 101, 116], [98, 117, 115, 121], [110, 111, 32, 115, 101, 115, 115, 105, 111, 110], [111, 107], [115, 104, 117, 116], [115, 97, 109, 101], [117, 110, 108, 105, 107, 101, 32], [110, 111, 32, 99, 117, 116], [104, 111, 117, 115, 101, 32, 112, 117, 116, 32, 103, 111, 110, 101, 32, 102, 108, 97, 103, 32, 116, 97, 114, 103, 101, 116, 32, 100, 114, 111, 112, 32, 98, 117, 105, 108, 100, 32, 103, 111, 32, 115, 116, 111, 112, 32, 114, 101, 108, 101, 97, 115, 101, 32, 119, 105, 115, 104, 32, 110, 101, 101, 100, 32, 117, 110, 119, 105, 115, 104, 32, 102, 105, 108, 101, 115, 32, 115, 104, 111, 119, 32, 116, 97, 114, 103, 101, 116, 115, 32, 111, 117, 116, 112, 117, 116, 32, 102, 97, 99, 101, 32, 119, 104, 121, 32, 114, 117, 110, 115, 32, 119, 111, 114, 107, 32, 97, 110, 101, 119, 32, 110, 101, 101, 100, 115, 32, 117, 115, 101, 114, 115, 32, 119, 97, 121, 32, 108, 111, 110, 103, 101, 115, 116, 32, 107, 101, 112, 116, 32, 101, 100, 105, 116, 105, 111, 110, 32, 114, 117, 108, 101, 115, 32, 115, 111, 108, 118, 101, 32, 109, 101, 101, 116, 115, 32, 114, 101, 102, 117, 116, 101, 32, 100, 105, 115, 112, 114, 111, 118, 101, 32, 99, 117, 116, 32, 109, 101, 110, 100, 32], [106, 111, 105, 110, 32, 115, 111, 114, 116, 32, 117, 110, 105, 113, 32, 117, 112, 112, 101, 114, 32, 103, 114, 101, 112, 32, 99, 111, 117, 110, 116, 32, 100, 105, 103, 101, 115, 116, 32, 99, 111, 109, 112, 105, 108, 101, 32], [100, 105, 115, 112, 114, 111, 118, 101, 32], [104, 111, 117, 115, 101], [109, 101, 110, 100], [119, 97, 121, 32], [97, 32, 97], [114], [112, 117, 116, 32], [112, 32, 116], [103, 111, 110, 101, 32], [112], [102, 108, 97, 103, 32], [97, 32, 110], [116, 97, 114, 103, 101, 116, 32], [100], [100, 114, 111, 112, 32], [97], [98, 117, 105, 108, 100, 32], [103, 111, 32], [110], [115, 116, 111, 112], [114, 101, 108, 101, 97, 115, 101, 32], [119, 105, 115, 104, 32], [110, 32, 110, 32, 110], [110, 101, 101, 100, 32], [110, 32, 110, 32, 110, 32, 110, 32, 110], [117, 110, 119, 105, 115, 104], [102, 105, 108, 101, 115], [115, 104, 111, 119, 32], [116, 97, 114, 103, 101, 116, 115], [111, 117, 116, 112, 117, 116, 32], [102, 97, 99, 101, 32], [119, 104, 121, 32], [114, 117, 110, 115], [119, 111, 114, 107], [97, 110, 101, 119, 32], [110, 101, 101, 100, 115, 32], [117, 115, 101, 114, 115, 32], [108, 111, 110, 103, 101, 115, 116, 32], [107, 101, 112, 116], [101, 100, 105, 116, 105, 111, 110, 32], [114, 117, 108, 101, 115], [115, 111, 108, 118, 101], [109, 101, 101, 116, 115, 32], [118], [114, 101, 102, 117, 116, 101], [99, 117, 116, 32]]
/-- by owner, in the order of strT: where the start says that it is the first mention's text (9: it is that one) -/
def eqP : List (List (Nat × Nat × Nat)) := [[], [(9, 0, 0)], [], [(9, 0, 0), (9, 0, 0), (9, 0, 0), (9, 0, 0)], [], [], [(9, 0, 0), (9, 0, 0), (9, 0, 0), (9, 0, 0)], [(9, 0, 0), (1, 313, 1), (9, 0, 0), (9, 0, 0), (9, 0, 0), (9, 0, 0), (9, 0, 0), (9, 0, 0)], [(9, 0, 0), (9, 0, 0), (9, 0, 0), (9, 0, 0), (9, 0, 0), (1, 324, 0), (9, 0, 0), (9, 0, 0), (9, 0, 0), (9, 0, 0), (9, 0, 0), (9, 0, 0)], [(9, 0, 0), (9, 0, 0)], [(1, 140, 1), (1, 145, 1), (9, 0, 0), (9, 0, 0), (9, 0, 0), (9, 0, 0), (9, 0, 0), (9, 0, 0), (9, 0, 0), (1, 312, 1), (9, 0, 0), (1, 276, 0), (9, 0, 0), (9, 0, 0), (9, 0, 0), (9, 0, 0)], [], [], [(9, 0, 0), (2, 258, 0), (2, 268, 0), (2, 281, 0), (2, 293, 0), (9, 0, 0), (2, 356, 0), (2, 368, 0), (2, 379, 0), (2, 393, 0), (3, 2, 0), (3, 17, 0), (3, 28, 0), (3, 41, 0), (3, 56, 0), (3, 67, 0), (3, 82, 0), (3, 95, 0), (3, 109, 0), (3, 116, 0), (3, 128, 0), (3, 135, 0), (3, 145, 0), (3, 155, 0), (3, 165, 0), (3, 172, 0), (3, 183, 0), (3, 193, 0), (3, 201, 0), (3, 210, 0), (3, 221, 0), (3, 230, 0), (3, 242, 0), (3, 251, 0), (3, 260, 0), (3, 270, 0), (3, 282, 0), (3, 293, 0), (3, 303, 0), (3, 315, 0), (3, 326, 0), (9, 0, 0)], [], [(9, 0, 0), (3, 354, 0), (9, 0, 0), (9, 0, 0), (9, 0, 0), (3, 391, 0), (9, 0, 0), (9, 0, 0), (9, 0, 0), (9, 0, 0), (9, 0, 0), (9, 0, 0), (9, 0, 0), (9, 0, 0), (9, 0, 0), (9, 0, 0), (9, 0, 0), (9, 0, 0), (9, 0, 0), (9, 0, 0), (9, 0, 0), (9, 0, 0), (9, 0, 0), (9, 0, 0), (9, 0, 0), (9, 0, 0), (9, 0, 0), (9, 0, 0), (9, 0, 0), (9, 0, 0), (9, 0, 0), (9, 0, 0), (9, 0, 0), (9, 0, 0), (9, 0, 0), (9, 0, 0), (9, 0, 0), (9, 0, 0), (9, 0, 0), (9, 0, 0), (9, 0, 0), (9, 0, 0), (9, 0, 0), (9, 0, 0), (9, 0, 0), (9, 0, 0), (9, 0, 0)], [], [], [], [], [], []]
/-- by verb: piece, place, pool places of its word and its form -/
def vbP : List (Nat × Nat × Nat × Nat) := [(0, 42, 142, 144), (0, 105, 150, 152), (0, 110, 155, 157), (0, 115, 160, 162), (0, 120, 165, 167), (0, 125, 170, 172), (0, 130, 175, 172), (0, 135, 178, 180), (0, 140, 183, 144), (0, 145, 186, 172), (0, 150, 189, 191), (0, 155, 194, 196), (0, 160, 199, 144), (0, 165, 202, 144), (0, 170, 205, 157), (0, 175, 208, 144), (0, 180, 211, 172), (0, 185, 214, 172), (0, 190, 217, 172), (0, 195, 220, 144), (0, 200, 223, 144), (0, 205, 226, 172), (0, 210, 229, 172), (0, 215, 232, 157), (0, 95, 235, 237), (0, 220, 240, 172), (0, 225, 243, 144), (0, 230, 246, 172), (0, 235, 249, 144), (0, 240, 252, 144), (0, 245, 255, 257), (0, 250, 260, 144), (0, 100, 263, 265), (0, 255, 268, 180), (0, 52, 271, 144)]
/-- by verb: the text of its word, of its form, its kind -/
def vbW : List Nat := [44, 49, 51, 53, 55, 57, 59, 60, 62, 63, 64, 66, 68, 69, 70, 71, 72, 73, 74, 75, 76, 77, 78, 79, 46, 80, 81, 82, 83, 84, 85, 87, 43, 88, 45]
def vbF : List Nat := [19, 50, 52, 54, 56, 58, 58, 61, 19, 58, 65, 67, 19, 19, 52, 19, 58, 58, 58, 19, 19, 58, 58, 52, 47, 58, 19, 58, 19, 19, 86, 19, 48, 61, 19]
def vbK : List Nat := [0, 0, 0, 0, 0, 0, 0, 0, 0, 0, 0, 0, 0, 1, 1, 1, 1, 1, 1, 1, 1, 2, 2, 1, 2, 2, 1, 1, 3, 3, 3, 3, 3, 1, 1]
/-- the switch's map -/
def swB : List Nat := [13, 1, 2, 3, 4, 5, 6, 7, 8, 9, 10, 11, 12, 14, 15, 16, 17, 18, 19, 20, 21, 26, 27, 22, 28, 29, 23, 24, 30, 31, 32, 33, 34, 25, 0]
/-- the statics' words in the tables -/
def stP : List (Nat × Nat) := [(803, 24), (63, 6), (1387, 6), (73, 6), (723, 6), (1211, 6), (584, 19), (604, 21)]
def narP (k : Nat) : Cond := [narrow_1_1, narrow_1_2, narrow_1_3, narrow_1_4, narrow_1_5].getD k .tt
def NK (k : Nat) : List Cond := flatC (narP k) ++ flatC (narP (k + 1))
def startC : Cond := Jvm.Cond.and given_1 narrow_1
theorem nar_in {k : Nat} {w : Cond} (hw : w ∈ flatC (narP k)) : w = .tt ∨ w ∈ flatC startC := by
  have e : flatC startC = flatC given_1 ++ ((flatC narrow_1_1 ++ flatC narrow_1_2) ++ (flatC narrow_1_3 ++ (flatC narrow_1_4 ++ flatC narrow_1_5))) := rfl
  rw [e]
  simp only [List.mem_append]
  match k, hw with
  | 0, h => exact Or.inr (Or.inr (Or.inl (Or.inl h)))
  | 1, h => exact Or.inr (Or.inr (Or.inl (Or.inr h)))
  | 2, h => exact Or.inr (Or.inr (Or.inr (Or.inl h)))
  | 3, h => exact Or.inr (Or.inr (Or.inr (Or.inr (Or.inl h))))
  | 4, h => exact Or.inr (Or.inr (Or.inr (Or.inr (Or.inr h))))
  | k + 5, h => exact Or.inl (List.mem_singleton.mp h)
theorem NK_b {args : Array Value} {s : State} (hs : startC.before args s = true) {k : Nat} {w : Cond} (hw : w ∈ NK k) : w.before args s = true := by
  have h1 : ∀ k, w ∈ flatC (narP k) → w.before args s = true := fun k h => by
    rcases nar_in h with rfl | h
    · rfl
    · exact flat_of_before _ hs w h
  rcases List.mem_append.mp hw with h | h
  · exact h1 _ h
  · exact h1 _ h
def tS (o i : Nat) : Term := .string (onm o) i
def tV (t : Term) : Term := .field t "java/lang/String" "value" "[B"
def txW (t : Term) (bs : List Nat) : List Cond := .exactly t "java/lang/String" :: .eq (.field t "java/lang/String" "coder" "B") (.int 0) :: .arrayOf (tV t) .byte :: .eq (.length (tV t)) (.int (Int32.ofNat bs.length)) :: (List.range bs.length).map fun j => .eq (.elem (tV t) (.int (Int32.ofNat j))) (.int (Int32.ofNat (bs.getD j 0)))
def txt (i : Nat) : List Nat := txB.getD i []
def txq (i : Nat) : Nat × Nat × Nat × Nat := txP.getD i (9, 0, 0, 0)
def tX (i : Nat) : Term := tS (txq i).2.2.1 (txq i).2.2.2
def isPart (k p : Nat) (ws : List Cond) : Bool := decide (((NK k).drop p).take ws.length = ws)
theorem isPart_b {args : Array Value} {s : State} (hs : startC.before args s = true) {k p : Nat} {ws : List Cond} (h : isPart k p ws = true) : ∀ w ∈ ws, w.before args s = true := by
  intro w hw
  unfold isPart at h
  rw [decide_eq_true_eq] at h
  rw [← h] at hw
  exact NK_b hs (List.mem_of_mem_drop (List.mem_of_mem_take hw))
set_option maxRecDepth 100000 in
theorem txt_c : ((List.range 89).all fun i => isPart (txq i).1 (txq i).2.1 (txW (tX i) (txt i)) && decide ((txt i).length ≤ 300) && (txt i).all (fun c => decide (c < 128))) = true := by decide +kernel
def vtm (t : Nat) : Term := .static "BuildHouse$Verb" (vnmT.getD t "") "LBuildHouse$Verb;"
def vbq (t : Nat) : Nat × Nat × Nat × Nat := vbP.getD t (9, 0, 0, 0)
def vbWd (t : Nat) : List Cond := [.exactly (vtm t) "BuildHouse$Verb", .eq (.field (vtm t) "java/lang/Enum" "ordinal" "I") (.int (Int32.ofNat t)), .eq (.field (vtm t) "BuildHouse$Verb" "word" "Ljava/lang/String;") (tS 15 (vbq t).2.2.1), .eq (.field (vtm t) "BuildHouse$Verb" "form" "Ljava/lang/String;") (tS 15 (vbq t).2.2.2), .eq (.field (vtm t) "BuildHouse$Verb" "kind" "I") (.int (Int32.ofNat (vbK.getD t 0)))]
set_option maxRecDepth 100000 in
theorem vrb_c : ((List.range 35).all fun t => isPart (vbq t).1 (vbq t).2.1 (vbWd t) && decide (((strT.getD 15 []).lookup (vbq t).2.2.1).map (fun e => e.1) = some (50 + vbW.getD t 0)) && decide (((strT.getD 15 []).lookup (vbq t).2.2.2).map (fun e => e.1) = some (50 + vbF.getD t 0)) && decide (vbK.getD t 0 < 9)) = true := by decide +kernel
def swt : Term := .static "BuildHouse$1" "$SwitchMap$BuildHouse$Verb" "[I"
set_option maxRecDepth 100000 in
theorem swm_c : isPart 0 58 (.arrayOf swt .int :: .eq (.length swt) (.int (Int32.ofNat 35)) :: (List.range 35).map fun j => .eq (.elem swt (.int (Int32.ofNat j))) (.int (Int32.ofNat (swB.getD j 0)))) = true := by decide +kernel
def vlt : Term := .static "BuildHouse$Verb" "$VALUES" "[LBuildHouse$Verb;"
set_option maxRecDepth 100000 in
theorem vls_c : isPart 0 2 ([.isRef vlt, .exactly vlt "[LBuildHouse$Verb;", .arrayOf vlt (.object "BuildHouse$Verb"), .eq (.length vlt) (.int (Int32.ofNat 35)), .all vlt (.le (.index 0) (.int 34))] ++ (List.range 35).map fun j => .eq (.elem vlt (.int (Int32.ofNat j))) (vtm j)) = true := by decide +kernel
set_option maxRecDepth 100000 in
theorem cst0_c : isPart 0 47 [.eq (.static "java/lang/String" "COMPACT_STRINGS" "Z") (.int 1), .isRef (.static "jdk/internal/util/Preconditions" "SIOOBE_FORMATTER" "Ljava/util/function/BiFunction;")] = true := by decide +kernel
/-- the mentions of a text are of one String -/
def eqOk (o : Nat) (e : Nat × Nat × Nat) (q : Nat × Nat × Nat) : Bool := decide (50 ≤ e.2.1) && decide (e.2.1 < 139) && isW e.2.2 (.stringRef (onm o) e.1 (txtT.getD (e.2.1 - 50) "")) &&
  (if q.1 = 9 then decide ((txq (e.2.1 - 50)).2.2 = (o, e.1)) else if q.2.2 = 0 then isPart q.1 q.2.1 [.eq (tX (e.2.1 - 50)) (tS o e.1)] else isPart q.1 q.2.1 [.eq (tS o e.1) (tX (e.2.1 - 50))])
set_option maxRecDepth 100000 in
theorem eqs_c : ((List.range 22).all fun o => (List.range (strT.getD o []).length).all fun i => match (strT.getD o [])[i]? with | some e => eqOk o e ((eqP.getD o []).getD i (9, 0, 0)) | none => true) = true := by decide +kernel
set_option maxRecDepth 100000 in
theorem sta_c : ((List.range 8).all fun i => match sttN[i]? with | some q => isW ((stP.getD i (0, 0)).1) (.laysStatic q.2.1 q.2.2.1 q.2.2.2) && isW ((stP.getD i (0, 0)).2) (.initialized q.2.1) | none => false) = true := by decide +kernel
