-- the kit's printed names (starting text), the words by their places, links and method descriptors (printed by wip/whole/gennames.py)
theorem goodIn_r {big : List Cond} (ws : List Cond) (ps : List Nat) (hp : ws = ps.filterMap (fun i => big[i]?)) (h : ws.all goodWord = true) : GoodIn big ws := by
  intro w hw
  have h1 := List.all_eq_true.mp h w hw
  rw [hp] at hw
  obtain ⟨i, -, hi⟩ := List.mem_filterMap.mp hw
  have hm : w ∈ big := by first | exact List.mem_of_getElem? hi | exact List.getElem?_mem hi
  exact ⟨hm, good_of_word h1⟩
theorem goodIn_app {big a b : List Cond} (ha : GoodIn big a) (hb : GoodIn big b) : GoodIn big (a ++ b) := fun w h => (List.mem_append.mp h).elim (ha w) (hb w)
theorem goodIn_ca {big a b : List Cond} {c : Cond} (ha : GoodIn big (c :: a)) (hb : GoodIn big b) : GoodIn big (c :: (a ++ b)) := fun w h => (List.mem_cons.mp h).elim (fun e => ha w (List.mem_cons.mpr (Or.inl e))) (fun h => (List.mem_append.mp h).elim (fun h => ha w (List.mem_cons.mpr (Or.inr h))) (hb w))
theorem goodIn_sub {big ws : List Cond} (hm : ∀ w ∈ ws, w ∈ big) (h : ws.all goodWord = true) : GoodIn big ws := fun w hw => ⟨hm w hw, good_of_word (List.all_eq_true.mp h w hw)⟩
def RX0 : String := "PolyominoCover$Covers"
def TX0 : u_T := fun k => match k with
  | 0 => ("PolyominoCover$Covers", "walk", "LPolyominoCover$Walk;", true)
  | 1 => ("PolyominoCover$Covers", "placements", "LPolyominoCover$Placements;", true)
  | 2 => ("PolyominoCover$Covers", "symmetries", "LPolyominoCover$Symmetries;", true)
  | 3 => ("PolyominoCover$Covers", "rows", "[I", true)
  | 4 => ("PolyominoCover$Covers", "size", "I", false)
  | 5 => ("PolyominoCover$Covers", "tryCount", "I", false)
  | 6 => ("PolyominoCover$Covers", "least", "I", false)
  | _ => ("PolyominoCover$Covers", "finished", "Z", false)
def tyX0 : Nat → FieldType := fun k => match k with
  | 0 => .object "PolyominoCover$Walk"
  | 1 => .object "PolyominoCover$Placements"
  | 2 => .object "PolyominoCover$Symmetries"
  | 3 => .array .int
  | 4 => .int
  | 5 => .int
  | 6 => .int
  | _ => .boolean
abbrev wsX00 : List Cond := u_ws RX0 TX0 8
theorem nmX0 : ∀ a, a < 8 → ∀ b, b < 8 → a ≠ b → (TX0 a).2.1 ≠ (TX0 b).2.1 := by decide +kernel
theorem tyX0_ok : ∀ k, k < 8 → parseFieldDescriptor (TX0 k).2.2.1 = some (tyX0 k) := by decide +kernel
abbrev cX0_init : ByteArray := prog_2_method_1_code
def yX0_init : MethodName := ⟨RX0, "<init>", "(LPolyominoCover$Walk;LPolyominoCover$Placements;LPolyominoCover$Symmetries;)V"⟩
abbrev cX0_collect : ByteArray := prog_2_method_2_code
def yX0_collect : MethodName := ⟨RX0, "collect", "()V"⟩
abbrev cX0_rowOf : ByteArray := prog_2_method_3_code
def yX0_rowOf : MethodName := ⟨RX0, "rowOf", "(II)I"⟩
abbrev cX0_placementAt : ByteArray := prog_2_method_4_code
def yX0_placementAt : MethodName := ⟨RX0, "placementAt", "(II)I"⟩
abbrev cX0_beginsAt : ByteArray := prog_2_method_5_code
def yX0_beginsAt : MethodName := ⟨RX0, "beginsAt", "(II)Z"⟩
abbrev cX0_usesOf : ByteArray := prog_2_method_6_code
def yX0_usesOf : MethodName := ⟨RX0, "usesOf", "(II)I"⟩
abbrev cX0_classCount : ByteArray := prog_2_method_7_code
def yX0_classCount : MethodName := ⟨RX0, "classCount", "()I"⟩
abbrev cX0_isLikeEarlier : ByteArray := prog_2_method_8_code
def yX0_isLikeEarlier : MethodName := ⟨RX0, "isLikeEarlier", "(I)Z"⟩
abbrev cX0_areAlike : ByteArray := prog_2_method_9_code
def yX0_areAlike : MethodName := ⟨RX0, "areAlike", "(II)Z"⟩
abbrev cX0_isMapped : ByteArray := prog_2_method_10_code
def yX0_isMapped : MethodName := ⟨RX0, "isMapped", "(III)Z"⟩
def RX1 : String := "PolyominoCover$Forms"
def TX1 : u_T := fun k => match k with
  | 0 => ("PolyominoCover$Forms", "shapes", "[I", true)
  | _ => ("PolyominoCover$Forms", "sizes", "[I", true)
def tyX1 : Nat → FieldType := fun k => match k with
  | 0 => .array .int
  | _ => .array .int
abbrev wsX10 : List Cond := u_ws RX1 TX1 2
theorem nmX1 : ∀ a, a < 2 → ∀ b, b < 2 → a ≠ b → (TX1 a).2.1 ≠ (TX1 b).2.1 := by decide +kernel
theorem tyX1_ok : ∀ k, k < 2 → parseFieldDescriptor (TX1 k).2.2.1 = some (tyX1 k) := by decide +kernel
abbrev cX1_init : ByteArray := prog_3_method_1_code
def yX1_init : MethodName := ⟨RX1, "<init>", "()V"⟩
abbrev cX1_fill : ByteArray := prog_3_method_2_code
def yX1_fill : MethodName := ⟨RX1, "fill", "(LPolyominoCover$Problem;)V"⟩
abbrev cX1_insertTurns : ByteArray := prog_3_method_3_code
def yX1_insertTurns : MethodName := ⟨RX1, "insertTurns", "(III)V"⟩
abbrev cX1_insert : ByteArray := prog_3_method_4_code
def yX1_insert : MethodName := ⟨RX1, "insert", "(II)V"⟩
abbrev cX1_sizeOf : ByteArray := prog_3_method_5_code
def yX1_sizeOf : MethodName := ⟨RX1, "sizeOf", "(I)I"⟩
abbrev cX1_shapeOf : ByteArray := prog_3_method_6_code
def yX1_shapeOf : MethodName := ⟨RX1, "shapeOf", "(II)I"⟩
def RX2 : String := "PolyominoCover$History"
def TX2 : u_T := fun k => match k with
  | 0 => ("PolyominoCover$History", "ring", "[LPolyominoCover$Problem;", true)
  | 1 => ("PolyominoCover$History", "oldest", "I", false)
  | _ => ("PolyominoCover$History", "size", "I", false)
def tyX2 : Nat → FieldType := fun k => match k with
  | 0 => .array (.object "PolyominoCover$Problem")
  | 1 => .int
  | _ => .int
abbrev wsX20 : List Cond := u_ws RX2 TX2 3
theorem nmX2 : ∀ a, a < 3 → ∀ b, b < 3 → a ≠ b → (TX2 a).2.1 ≠ (TX2 b).2.1 := by decide +kernel
theorem tyX2_ok : ∀ k, k < 3 → parseFieldDescriptor (TX2 k).2.2.1 = some (tyX2 k) := by decide +kernel
abbrev cX2_init : ByteArray := prog_4_method_1_code
def yX2_init : MethodName := ⟨RX2, "<init>", "()V"⟩
abbrev cX2_save : ByteArray := prog_4_method_2_code
def yX2_save : MethodName := ⟨RX2, "save", "(LPolyominoCover$Problem;)V"⟩
abbrev cX2_restore : ByteArray := prog_4_method_3_code
def yX2_restore : MethodName := ⟨RX2, "restore", "(LPolyominoCover$Problem;)V"⟩
abbrev cX2_slotAfterOldest : ByteArray := prog_4_method_4_code
def yX2_slotAfterOldest : MethodName := ⟨RX2, "slotAfterOldest", "(I)LPolyominoCover$Problem;"⟩
def RX3 : String := "PolyominoCover$Placements"
def TX3 : u_T := fun k => match k with
  | 0 => ("PolyominoCover$Placements", "masks", "[J", true)
  | 1 => ("PolyominoCover$Placements", "codes", "[I", true)
  | 2 => ("PolyominoCover$Placements", "order", "[I", true)
  | 3 => ("PolyominoCover$Placements", "starts", "[I", true)
  | 4 => ("PolyominoCover$Placements", "size", "I", false)
  | _ => ("PolyominoCover$Placements", "open", "J", false)
def tyX3 : Nat → FieldType := fun k => match k with
  | 0 => .array .long
  | 1 => .array .int
  | 2 => .array .int
  | 3 => .array .int
  | 4 => .int
  | _ => .long
abbrev wsX30 : List Cond := u_ws RX3 TX3 6
theorem nmX3 : ∀ a, a < 6 → ∀ b, b < 6 → a ≠ b → (TX3 a).2.1 ≠ (TX3 b).2.1 := by decide +kernel
theorem tyX3_ok : ∀ k, k < 6 → parseFieldDescriptor (TX3 k).2.2.1 = some (tyX3 k) := by decide +kernel
abbrev cX3_init : ByteArray := prog_5_method_1_code
def yX3_init : MethodName := ⟨RX3, "<init>", "()V"⟩
abbrev cX3_fill : ByteArray := prog_5_method_2_code
def yX3_fill : MethodName := ⟨RX3, "fill", "(LPolyominoCover$Problem;LPolyominoCover$Forms;)V"⟩
abbrev cX3_fillForm : ByteArray := prog_5_method_3_code
def yX3_fillForm : MethodName := ⟨RX3, "fillForm", "(LPolyominoCover$Problem;III)V"⟩
abbrev cX3_lay : ByteArray := prog_5_method_4_code
def yX3_lay : MethodName := ⟨RX3, "lay", "(LPolyominoCover$Problem;III)J"⟩
abbrev cX3_fillOrder : ByteArray := prog_5_method_5_code
def yX3_fillOrder : MethodName := ⟨RX3, "fillOrder", "()V"⟩
abbrev cX3_maskOf : ByteArray := prog_5_method_6_code
def yX3_maskOf : MethodName := ⟨RX3, "maskOf", "(I)J"⟩
abbrev cX3_pieceOf : ByteArray := prog_5_method_7_code
def yX3_pieceOf : MethodName := ⟨RX3, "pieceOf", "(I)I"⟩
abbrev cX3_formOf : ByteArray := prog_5_method_8_code
def yX3_formOf : MethodName := ⟨RX3, "formOf", "(I)I"⟩
abbrev cX3_cornerOf : ByteArray := prog_5_method_9_code
def yX3_cornerOf : MethodName := ⟨RX3, "cornerOf", "(I)I"⟩
abbrev cX3_sizeOf : ByteArray := prog_5_method_10_code
def yX3_sizeOf : MethodName := ⟨RX3, "sizeOf", "(I)I"⟩
def RX4 : String := "PolyominoCover$Problem"
def TX4 : u_T := fun k => match k with
  | 0 => ("PolyominoCover$Problem", "width", "I", false)
  | 1 => ("PolyominoCover$Problem", "height", "I", false)
  | 2 => ("PolyominoCover$Problem", "mode", "I", false)
  | 3 => ("PolyominoCover$Problem", "rule", "I", false)
  | 4 => ("PolyominoCover$Problem", "pieceCount", "I", false)
  | 5 => ("PolyominoCover$Problem", "cells", "[I", true)
  | 6 => ("PolyominoCover$Problem", "shapes", "[I", true)
  | 7 => ("PolyominoCover$Problem", "freedoms", "[I", true)
  | 8 => ("PolyominoCover$Problem", "colours", "[I", true)
  | _ => ("PolyominoCover$Problem", "copies", "[I", true)
def tyX4 : Nat → FieldType := fun k => match k with
  | 0 => .int
  | 1 => .int
  | 2 => .int
  | 3 => .int
  | 4 => .int
  | 5 => .array .int
  | 6 => .array .int
  | 7 => .array .int
  | 8 => .array .int
  | _ => .array .int
abbrev wsX40 : List Cond := u_ws RX4 TX4 10
theorem nmX4 : ∀ a, a < 10 → ∀ b, b < 10 → a ≠ b → (TX4 a).2.1 ≠ (TX4 b).2.1 := by decide +kernel
theorem tyX4_ok : ∀ k, k < 10 → parseFieldDescriptor (TX4 k).2.2.1 = some (tyX4 k) := by decide +kernel
abbrev cX4_init : ByteArray := prog_6_method_1_code
def yX4_init : MethodName := ⟨RX4, "<init>", "()V"⟩
abbrev cX4_copyFrom : ByteArray := prog_6_method_2_code
def yX4_copyFrom : MethodName := ⟨RX4, "copyFrom", "(LPolyominoCover$Problem;)V"⟩
abbrev cX4_copyPiece : ByteArray := prog_6_method_3_code
def yX4_copyPiece : MethodName := ⟨RX4, "copyPiece", "(ILPolyominoCover$Problem;I)V"⟩
abbrev cX4_makeBoard : ByteArray := prog_6_method_4_code
def yX4_makeBoard : MethodName := ⟨RX4, "makeBoard", "(II)V"⟩
abbrev cX4_cellCount : ByteArray := prog_6_method_5_code
def yX4_cellCount : MethodName := ⟨RX4, "cellCount", "()I"⟩
abbrev cX4_hasCell : ByteArray := prog_6_method_6_code
def yX4_hasCell : MethodName := ⟨RX4, "hasCell", "(I)Z"⟩
abbrev cX4_cellAt : ByteArray := prog_6_method_7_code
def yX4_cellAt : MethodName := ⟨RX4, "cellAt", "(I)I"⟩
abbrev cX4_putCell : ByteArray := prog_6_method_8_code
def yX4_putCell : MethodName := ⟨RX4, "putCell", "(II)V"⟩
abbrev cX4_isHole : ByteArray := prog_6_method_9_code
def yX4_isHole : MethodName := ⟨RX4, "isHole", "(I)Z"⟩
abbrev cX4_columnOf : ByteArray := prog_6_method_10_code
def yX4_columnOf : MethodName := ⟨RX4, "columnOf", "(I)I"⟩
abbrev cX4_rowOf : ByteArray := prog_6_method_11_code
def yX4_rowOf : MethodName := ⟨RX4, "rowOf", "(I)I"⟩
abbrev cX4_openCount : ByteArray := prog_6_method_12_code
def yX4_openCount : MethodName := ⟨RX4, "openCount", "()I"⟩
abbrev cX4_openMask : ByteArray := prog_6_method_13_code
def yX4_openMask : MethodName := ⟨RX4, "openMask", "()J"⟩
abbrev cX4_takesColour : ByteArray := prog_6_method_14_code
def yX4_takesColour : MethodName := ⟨RX4, "takesColour", "(II)Z"⟩
abbrev cX4_hasPiece : ByteArray := prog_6_method_15_code
def yX4_hasPiece : MethodName := ⟨RX4, "hasPiece", "(I)Z"⟩
abbrev cX4_shapeOf : ByteArray := prog_6_method_16_code
def yX4_shapeOf : MethodName := ⟨RX4, "shapeOf", "(I)I"⟩
abbrev cX4_freedomOf : ByteArray := prog_6_method_17_code
def yX4_freedomOf : MethodName := ⟨RX4, "freedomOf", "(I)I"⟩
abbrev cX4_colourOf : ByteArray := prog_6_method_18_code
def yX4_colourOf : MethodName := ⟨RX4, "colourOf", "(I)I"⟩
abbrev cX4_copiesOf : ByteArray := prog_6_method_19_code
def yX4_copiesOf : MethodName := ⟨RX4, "copiesOf", "(I)I"⟩
abbrev cX4_append : ByteArray := prog_6_method_20_code
def yX4_append : MethodName := ⟨RX4, "append", "(IIII)V"⟩
abbrev cX4_dropPiece : ByteArray := prog_6_method_21_code
def yX4_dropPiece : MethodName := ⟨RX4, "dropPiece", "(I)V"⟩
abbrev cX4_copyCount : ByteArray := prog_6_method_22_code
def yX4_copyCount : MethodName := ⟨RX4, "copyCount", "()I"⟩
abbrev cX4_squareCount : ByteArray := prog_6_method_23_code
def yX4_squareCount : MethodName := ⟨RX4, "squareCount", "()I"⟩
def RX5 : String := "PolyominoCover$Reader"
def TX5 : u_T := fun k => match k with
  | 0 => ("PolyominoCover$Reader", "characters", "[I", true)
  | 1 => ("PolyominoCover$Reader", "length", "I", false)
  | 2 => ("PolyominoCover$Reader", "draft", "LPolyominoCover$Problem;", true)
  | 3 => ("PolyominoCover$Reader", "position", "I", false)
  | 4 => ("PolyominoCover$Reader", "columns", "I", false)
  | 5 => ("PolyominoCover$Reader", "rows", "I", false)
  | _ => ("PolyominoCover$Reader", "shape", "I", false)
def tyX5 : Nat → FieldType := fun k => match k with
  | 0 => .array .int
  | 1 => .int
  | 2 => .object "PolyominoCover$Problem"
  | 3 => .int
  | 4 => .int
  | 5 => .int
  | _ => .int
abbrev wsX50 : List Cond := u_ws RX5 TX5 7
theorem nmX5 : ∀ a, a < 7 → ∀ b, b < 7 → a ≠ b → (TX5 a).2.1 ≠ (TX5 b).2.1 := by decide +kernel
theorem tyX5_ok : ∀ k, k < 7 → parseFieldDescriptor (TX5 k).2.2.1 = some (tyX5 k) := by decide +kernel
abbrev cX5_init : ByteArray := prog_7_method_1_code
def yX5_init : MethodName := ⟨RX5, "<init>", "()V"⟩
abbrev cX5_append : ByteArray := prog_7_method_2_code
def yX5_append : MethodName := ⟨RX5, "append", "(I)V"⟩
abbrev cX5_handOver : ByteArray := prog_7_method_3_code
def yX5_handOver : MethodName := ⟨RX5, "handOver", "(LPolyominoCover$Problem;)V"⟩
abbrev cX5_read : ByteArray := prog_7_method_4_code
def yX5_read : MethodName := ⟨RX5, "read", "()I"⟩
abbrev cX5_look : ByteArray := prog_7_method_5_code
def yX5_look : MethodName := ⟨RX5, "look", "()I"⟩
abbrev cX5_readBoard : ByteArray := prog_7_method_6_code
def yX5_readBoard : MethodName := ⟨RX5, "readBoard", "()Z"⟩
abbrev cX5_readRows : ByteArray := prog_7_method_7_code
def yX5_readRows : MethodName := ⟨RX5, "readRows", "(IZ)Z"⟩
abbrev cX5_readRow : ByteArray := prog_7_method_8_code
def yX5_readRow : MethodName := ⟨RX5, "readRow", "(IZ)I"⟩
abbrev cX5_readCell : ByteArray := prog_7_method_9_code
def yX5_readCell : MethodName := ⟨RX5, "readCell", "(II)Z"⟩
abbrev cX5_readSquare : ByteArray := prog_7_method_10_code
def yX5_readSquare : MethodName := ⟨RX5, "readSquare", "(II)Z"⟩
abbrev cX5_readPiece : ByteArray := prog_7_method_11_code
def yX5_readPiece : MethodName := ⟨RX5, "readPiece", "()Z"⟩
abbrev cX5_readOptions : ByteArray := prog_7_method_12_code
def yX5_readOptions : MethodName := ⟨RX5, "readOptions", "()Z"⟩
abbrev cX5_readDigit : ByteArray := prog_7_method_13_code
def yX5_readDigit : MethodName := ⟨RX5, "readDigit", "(I)I"⟩
def RX6 : String := "PolyominoCover$Shapes"
def TX6 : u_T := fun k => match k with
  | _ => ("", "", "", false)
def tyX6 : Nat → FieldType := fun k => match k with
  | _ => .int
abbrev wsX60 : List Cond := u_ws RX6 TX6 0
theorem nmX6 : ∀ a, a < 0 → ∀ b, b < 0 → a ≠ b → (TX6 a).2.1 ≠ (TX6 b).2.1 := by decide +kernel
theorem tyX6_ok : ∀ k, k < 0 → parseFieldDescriptor (TX6 k).2.2.1 = some (tyX6 k) := by decide +kernel
abbrev cX6_isShape : ByteArray := prog_8_method_2_code
def yX6_isShape : MethodName := ⟨RX6, "isShape", "(I)Z"⟩
abbrev cX6_hangsTogether : ByteArray := prog_8_method_3_code
def yX6_hangsTogether : MethodName := ⟨RX6, "hangsTogether", "(I)Z"⟩
abbrev cX6_normalize : ByteArray := prog_8_method_4_code
def yX6_normalize : MethodName := ⟨RX6, "normalize", "(I)I"⟩
abbrev cX6_turn : ByteArray := prog_8_method_5_code
def yX6_turn : MethodName := ⟨RX6, "turn", "(I)I"⟩
abbrev cX6_mirror : ByteArray := prog_8_method_6_code
def yX6_mirror : MethodName := ⟨RX6, "mirror", "(I)I"⟩
abbrev cX6_hasSquare : ByteArray := prog_8_method_7_code
def yX6_hasSquare : MethodName := ⟨RX6, "hasSquare", "(II)Z"⟩
def RX7 : String := "PolyominoCover$Sieve"
def TX7 : u_T := fun k => match k with
  | _ => ("PolyominoCover$Sieve", "struck", "[Z", true)
def tyX7 : Nat → FieldType := fun k => match k with
  | _ => .array .boolean
abbrev wsX70 : List Cond := u_ws RX7 TX7 1
theorem nmX7 : ∀ a, a < 1 → ∀ b, b < 1 → a ≠ b → (TX7 a).2.1 ≠ (TX7 b).2.1 := by decide +kernel
theorem tyX7_ok : ∀ k, k < 1 → parseFieldDescriptor (TX7 k).2.2.1 = some (tyX7 k) := by decide +kernel
abbrev cX7_init : ByteArray := prog_9_method_1_code
def yX7_init : MethodName := ⟨RX7, "<init>", "()V"⟩
abbrev cX7_sift : ByteArray := prog_9_method_2_code
def yX7_sift : MethodName := ⟨RX7, "sift", "(LPolyominoCover$Placements;)V"⟩
abbrev cX7_strikeSome : ByteArray := prog_9_method_3_code
def yX7_strikeSome : MethodName := ⟨RX7, "strikeSome", "(LPolyominoCover$Placements;)Z"⟩
abbrev cX7_limitOf : ByteArray := prog_9_method_4_code
def yX7_limitOf : MethodName := ⟨RX7, "limitOf", "(LPolyominoCover$Placements;)I"⟩
abbrev cX7_leavesAllCoverable : ByteArray := prog_9_method_5_code
def yX7_leavesAllCoverable : MethodName := ⟨RX7, "leavesAllCoverable", "(LPolyominoCover$Placements;I)Z"⟩
abbrev cX7_leftOfPiece : ByteArray := prog_9_method_6_code
def yX7_leftOfPiece : MethodName := ⟨RX7, "leftOfPiece", "(LPolyominoCover$Placements;I)I"⟩
abbrev cX7_leftAtCell : ByteArray := prog_9_method_7_code
def yX7_leftAtCell : MethodName := ⟨RX7, "leftAtCell", "(LPolyominoCover$Placements;I)I"⟩
def RX8 : String := "PolyominoCover$Symmetries"
def TX8 : u_T := fun k => match k with
  | 0 => ("PolyominoCover$Symmetries", "images", "[I", true)
  | _ => ("PolyominoCover$Symmetries", "size", "I", false)
def tyX8 : Nat → FieldType := fun k => match k with
  | 0 => .array .int
  | _ => .int
abbrev wsX80 : List Cond := u_ws RX8 TX8 2
theorem nmX8 : ∀ a, a < 2 → ∀ b, b < 2 → a ≠ b → (TX8 a).2.1 ≠ (TX8 b).2.1 := by decide +kernel
theorem tyX8_ok : ∀ k, k < 2 → parseFieldDescriptor (TX8 k).2.2.1 = some (tyX8 k) := by decide +kernel
abbrev cX8_init : ByteArray := prog_10_method_1_code
def yX8_init : MethodName := ⟨RX8, "<init>", "()V"⟩
abbrev cX8_fill : ByteArray := prog_10_method_2_code
def yX8_fill : MethodName := ⟨RX8, "fill", "(LPolyominoCover$Problem;)V"⟩
abbrev cX8_fillNext : ByteArray := prog_10_method_3_code
def yX8_fillNext : MethodName := ⟨RX8, "fillNext", "(LPolyominoCover$Problem;I)Z"⟩
abbrev cX8_mapCell : ByteArray := prog_10_method_4_code
def yX8_mapCell : MethodName := ⟨RX8, "mapCell", "(LPolyominoCover$Problem;II)I"⟩
abbrev cX8_imageOf : ByteArray := prog_10_method_5_code
def yX8_imageOf : MethodName := ⟨RX8, "imageOf", "(II)I"⟩
def RX9 : String := "PolyominoCover$Walk"
def TX9 : u_T := fun k => match k with
  | 0 => ("PolyominoCover$Walk", "problem", "LPolyominoCover$Problem;", true)
  | 1 => ("PolyominoCover$Walk", "placements", "LPolyominoCover$Placements;", true)
  | 2 => ("PolyominoCover$Walk", "chosen", "[I", true)
  | 3 => ("PolyominoCover$Walk", "next", "[I", true)
  | 4 => ("PolyominoCover$Walk", "copiesLeft", "[I", true)
  | 5 => ("PolyominoCover$Walk", "takenByColour", "[J", true)
  | 6 => ("PolyominoCover$Walk", "taken", "J", false)
  | 7 => ("PolyominoCover$Walk", "leftColumn", "J", false)
  | 8 => ("PolyominoCover$Walk", "rightColumn", "J", false)
  | 9 => ("PolyominoCover$Walk", "level", "I", false)
  | 10 => ("PolyominoCover$Walk", "copyCount", "I", false)
  | 11 => ("PolyominoCover$Walk", "tryCount", "I", false)
  | 12 => ("PolyominoCover$Walk", "coverCount", "I", false)
  | 13 => ("PolyominoCover$Walk", "unseen", "Z", false)
  | 14 => ("PolyominoCover$Walk", "over", "Z", false)
  | _ => ("PolyominoCover$Walk", "unfinished", "Z", false)
def tyX9 : Nat → FieldType := fun k => match k with
  | 0 => .object "PolyominoCover$Problem"
  | 1 => .object "PolyominoCover$Placements"
  | 2 => .array .int
  | 3 => .array .int
  | 4 => .array .int
  | 5 => .array .long
  | 6 => .long
  | 7 => .long
  | 8 => .long
  | 9 => .int
  | 10 => .int
  | 11 => .int
  | 12 => .int
  | 13 => .boolean
  | 14 => .boolean
  | _ => .boolean
abbrev wsX90 : List Cond := u_ws RX9 TX9 16
theorem nmX9 : ∀ a, a < 16 → ∀ b, b < 16 → a ≠ b → (TX9 a).2.1 ≠ (TX9 b).2.1 := by decide +kernel
theorem tyX9_ok : ∀ k, k < 16 → parseFieldDescriptor (TX9 k).2.2.1 = some (tyX9 k) := by decide +kernel
abbrev cX9_init : ByteArray := prog_11_method_1_code
def yX9_init : MethodName := ⟨RX9, "<init>", "(LPolyominoCover$Problem;LPolyominoCover$Placements;)V"⟩
abbrev cX9_begin : ByteArray := prog_11_method_2_code
def yX9_begin : MethodName := ⟨RX9, "begin", "()V"⟩
abbrev cX9_advance : ByteArray := prog_11_method_3_code
def yX9_advance : MethodName := ⟨RX9, "advance", "()Z"⟩
abbrev cX9_isCover : ByteArray := prog_11_method_4_code
def yX9_isCover : MethodName := ⟨RX9, "isCover", "()Z"⟩
abbrev cX9_stepOn : ByteArray := prog_11_method_5_code
def yX9_stepOn : MethodName := ⟨RX9, "stepOn", "(I)V"⟩
abbrev cX9_stepBack : ByteArray := prog_11_method_6_code
def yX9_stepBack : MethodName := ⟨RX9, "stepBack", "()V"⟩
abbrev cX9_openLevel : ByteArray := prog_11_method_7_code
def yX9_openLevel : MethodName := ⟨RX9, "openLevel", "()V"⟩
abbrev cX9_nextThatFits : ByteArray := prog_11_method_8_code
def yX9_nextThatFits : MethodName := ⟨RX9, "nextThatFits", "()I"⟩
abbrev cX9_isAllowed : ByteArray := prog_11_method_9_code
def yX9_isAllowed : MethodName := ⟨RX9, "isAllowed", "(IJ)Z"⟩
abbrev cX9_around : ByteArray := prog_11_method_10_code
def yX9_around : MethodName := ⟨RX9, "around", "(J)J"⟩
abbrev cX9_change : ByteArray := prog_11_method_11_code
def yX9_change : MethodName := ⟨RX9, "change", "(II)V"⟩
abbrev cX9_writeTo : ByteArray := prog_11_method_12_code
def yX9_writeTo : MethodName := ⟨RX9, "writeTo", "([II)V"⟩
def RX10 : String := "PolyominoCover$Weights"
def TX10 : u_T := fun k => match k with
  | 0 => ("PolyominoCover$Weights", "ofCells", "[I", true)
  | 1 => ("PolyominoCover$Weights", "ofPieces", "[I", true)
  | _ => ("PolyominoCover$Weights", "modulus", "I", false)
def tyX10 : Nat → FieldType := fun k => match k with
  | 0 => .array .int
  | 1 => .array .int
  | _ => .int
abbrev wsX100 : List Cond := u_ws RX10 TX10 3
theorem nmX10 : ∀ a, a < 3 → ∀ b, b < 3 → a ≠ b → (TX10 a).2.1 ≠ (TX10 b).2.1 := by decide +kernel
theorem tyX10_ok : ∀ k, k < 3 → parseFieldDescriptor (TX10 k).2.2.1 = some (tyX10 k) := by decide +kernel
abbrev cX10_init : ByteArray := prog_12_method_1_code
def yX10_init : MethodName := ⟨RX10, "<init>", "()V"⟩
abbrev cX10_excludeCover : ByteArray := prog_12_method_2_code
def yX10_excludeCover : MethodName := ⟨RX10, "excludeCover", "(LPolyominoCover$Problem;LPolyominoCover$Placements;III)Z"⟩
abbrev cX10_weighCells : ByteArray := prog_12_method_3_code
def yX10_weighCells : MethodName := ⟨RX10, "weighCells", "(LPolyominoCover$Problem;II)V"⟩
abbrev cX10_weighPieces : ByteArray := prog_12_method_4_code
def yX10_weighPieces : MethodName := ⟨RX10, "weighPieces", "(LPolyominoCover$Placements;)V"⟩
abbrev cX10_weightOf : ByteArray := prog_12_method_5_code
def yX10_weightOf : MethodName := ⟨RX10, "weightOf", "(J)I"⟩
abbrev cX10_rest : ByteArray := prog_12_method_6_code
def yX10_rest : MethodName := ⟨RX10, "rest", "(I)I"⟩
abbrev cX10_addAll : ByteArray := prog_12_method_7_code
def yX10_addAll : MethodName := ⟨RX10, "addAll", "(II)I"⟩
def RX11 : String := "PolyominoCover"
def TX11 : u_T := fun k => match k with
  | 0 => ("PolyominoCover", "problem", "LPolyominoCover$Problem;", true)
  | 1 => ("PolyominoCover", "history", "LPolyominoCover$History;", true)
  | 2 => ("PolyominoCover", "reader", "LPolyominoCover$Reader;", true)
  | 3 => ("PolyominoCover", "forms", "LPolyominoCover$Forms;", true)
  | 4 => ("PolyominoCover", "placements", "LPolyominoCover$Placements;", true)
  | 5 => ("PolyominoCover", "symmetries", "LPolyominoCover$Symmetries;", true)
  | 6 => ("PolyominoCover", "walk", "LPolyominoCover$Walk;", true)
  | 7 => ("PolyominoCover", "found", "LPolyominoCover$Covers;", true)
  | 8 => ("PolyominoCover", "sieve", "LPolyominoCover$Sieve;", true)
  | 9 => ("PolyominoCover", "weights", "LPolyominoCover$Weights;", true)
  | 10 => ("PolyominoCover", "placed", "Z", false)
  | 11 => ("PolyominoCover", "searched", "Z", false)
  | _ => ("PolyominoCover", "sifted", "Z", false)
def tyX11 : Nat → FieldType := fun k => match k with
  | 0 => .object "PolyominoCover$Problem"
  | 1 => .object "PolyominoCover$History"
  | 2 => .object "PolyominoCover$Reader"
  | 3 => .object "PolyominoCover$Forms"
  | 4 => .object "PolyominoCover$Placements"
  | 5 => .object "PolyominoCover$Symmetries"
  | 6 => .object "PolyominoCover$Walk"
  | 7 => .object "PolyominoCover$Covers"
  | 8 => .object "PolyominoCover$Sieve"
  | 9 => .object "PolyominoCover$Weights"
  | 10 => .boolean
  | 11 => .boolean
  | _ => .boolean
abbrev wsX110 : List Cond := u_ws RX11 TX11 13
theorem nmX11 : ∀ a, a < 13 → ∀ b, b < 13 → a ≠ b → (TX11 a).2.1 ≠ (TX11 b).2.1 := by decide +kernel
theorem tyX11_ok : ∀ k, k < 13 → parseFieldDescriptor (TX11 k).2.2.1 = some (tyX11 k) := by decide +kernel
abbrev cX11_init : ByteArray := prog_1_method_1_code
def yX11_init : MethodName := ⟨RX11, "<init>", "()V"⟩
abbrev cX11_setBoard : ByteArray := prog_1_method_2_code
def yX11_setBoard : MethodName := ⟨RX11, "setBoard", "(II)I"⟩
abbrev cX11_setHole : ByteArray := prog_1_method_3_code
def yX11_setHole : MethodName := ⟨RX11, "setHole", "(II)I"⟩
abbrev cX11_setColour : ByteArray := prog_1_method_4_code
def yX11_setColour : MethodName := ⟨RX11, "setColour", "(II)I"⟩
abbrev cX11_addPiece : ByteArray := prog_1_method_5_code
def yX11_addPiece : MethodName := ⟨RX11, "addPiece", "(III)I"⟩
abbrev cX11_removePiece : ByteArray := prog_1_method_6_code
def yX11_removePiece : MethodName := ⟨RX11, "removePiece", "(I)I"⟩
abbrev cX11_setCopies : ByteArray := prog_1_method_7_code
def yX11_setCopies : MethodName := ⟨RX11, "setCopies", "(II)I"⟩
abbrev cX11_setMode : ByteArray := prog_1_method_8_code
def yX11_setMode : MethodName := ⟨RX11, "setMode", "(I)I"⟩
abbrev cX11_setRule : ByteArray := prog_1_method_9_code
def yX11_setRule : MethodName := ⟨RX11, "setRule", "(I)I"⟩
abbrev cX11_count : ByteArray := prog_1_method_10_code
def yX11_count : MethodName := ⟨RX11, "count", "(I)I"⟩
abbrev cX11_colour : ByteArray := prog_1_method_11_code
def yX11_colour : MethodName := ⟨RX11, "colour", "(I)I"⟩
abbrev cX11_piece : ByteArray := prog_1_method_12_code
def yX11_piece : MethodName := ⟨RX11, "piece", "(II)I"⟩
abbrev cX11_form : ByteArray := prog_1_method_13_code
def yX11_form : MethodName := ⟨RX11, "form", "(II)I"⟩
abbrev cX11_placement : ByteArray := prog_1_method_14_code
def yX11_placement : MethodName := ⟨RX11, "placement", "(II)I"⟩
abbrev cX11_appendCharacter : ByteArray := prog_1_method_15_code
def yX11_appendCharacter : MethodName := ⟨RX11, "appendCharacter", "(I)I"⟩
abbrev cX11_clearText : ByteArray := prog_1_method_16_code
def yX11_clearText : MethodName := ⟨RX11, "clearText", "()I"⟩
abbrev cX11_load : ByteArray := prog_1_method_17_code
def yX11_load : MethodName := ⟨RX11, "load", "()I"⟩
abbrev cX11_covers : ByteArray := prog_1_method_18_code
def yX11_covers : MethodName := ⟨RX11, "covers", "()I"⟩
abbrev cX11_tries : ByteArray := prog_1_method_19_code
def yX11_tries : MethodName := ⟨RX11, "tries", "()I"⟩
abbrev cX11_coverAt : ByteArray := prog_1_method_20_code
def yX11_coverAt : MethodName := ⟨RX11, "coverAt", "(II)I"⟩
abbrev cX11_used : ByteArray := prog_1_method_21_code
def yX11_used : MethodName := ⟨RX11, "used", "(II)I"⟩
abbrev cX11_classes : ByteArray := prog_1_method_22_code
def yX11_classes : MethodName := ⟨RX11, "classes", "()I"⟩
abbrev cX11_alike : ByteArray := prog_1_method_23_code
def yX11_alike : MethodName := ⟨RX11, "alike", "(II)I"⟩
abbrev cX11_fewest : ByteArray := prog_1_method_24_code
def yX11_fewest : MethodName := ⟨RX11, "fewest", "()I"⟩
abbrev cX11_useful : ByteArray := prog_1_method_25_code
def yX11_useful : MethodName := ⟨RX11, "useful", "(I)I"⟩
abbrev cX11_usefulAt : ByteArray := prog_1_method_26_code
def yX11_usefulAt : MethodName := ⟨RX11, "usefulAt", "(I)I"⟩
abbrev cX11_proves : ByteArray := prog_1_method_27_code
def yX11_proves : MethodName := ⟨RX11, "proves", "(III)I"⟩
abbrev cX11_proof : ByteArray := prog_1_method_28_code
def yX11_proof : MethodName := ⟨RX11, "proof", "()I"⟩
abbrev cX11_undo : ByteArray := prog_1_method_29_code
def yX11_undo : MethodName := ⟨RX11, "undo", "()I"⟩
abbrev cX11_prepareChange : ByteArray := prog_1_method_30_code
def yX11_prepareChange : MethodName := ⟨RX11, "prepareChange", "()V"⟩
abbrev cX11_forgetDerived : ByteArray := prog_1_method_31_code
def yX11_forgetDerived : MethodName := ⟨RX11, "forgetDerived", "()V"⟩
abbrev cX11_placeAll : ByteArray := prog_1_method_32_code
def yX11_placeAll : MethodName := ⟨RX11, "placeAll", "()V"⟩
abbrev cX11_searchAll : ByteArray := prog_1_method_33_code
def yX11_searchAll : MethodName := ⟨RX11, "searchAll", "()V"⟩
abbrev cX11_siftAll : ByteArray := prog_1_method_34_code
def yX11_siftAll : MethodName := ⟨RX11, "siftAll", "()V"⟩
abbrev cX11_whyNoCover : ByteArray := prog_1_method_35_code
def yX11_whyNoCover : MethodName := ⟨RX11, "whyNoCover", "()I"⟩
abbrev cX11_isWithin : ByteArray := prog_1_method_36_code
def yX11_isWithin : MethodName := ⟨RX11, "isWithin", "(III)Z"⟩
abbrev cX11_at : ByteArray := prog_1_method_37_code
def yX11_at : MethodName := ⟨RX11, "at", "([II)I"⟩
abbrev cX11_put : ByteArray := prog_1_method_38_code
def yX11_put : MethodName := ⟨RX11, "put", "([III)V"⟩
abbrev cX11_smallestCell : ByteArray := prog_1_method_39_code
def yX11_smallestCell : MethodName := ⟨RX11, "smallestCell", "(J)I"⟩
abbrev cX11_greatestCell : ByteArray := prog_1_method_40_code
def yX11_greatestCell : MethodName := ⟨RX11, "greatestCell", "(J)I"⟩
abbrev cX11_holds : ByteArray := prog_1_method_41_code
def yX11_holds : MethodName := ⟨RX11, "holds", "(JI)Z"⟩
def RX12 : String := "PolyominoCoverModel"
def TX12 : u_T := fun k => match k with
  | 0 => ("PolyominoCoverModel", "s", "[I", true)
  | 1 => ("PolyominoCoverModel", "past", "[I", true)
  | 2 => ("PolyominoCoverModel", "pasts", "I", false)
  | 3 => ("PolyominoCoverModel", "text", "[B", true)
  | 4 => ("PolyominoCoverModel", "typed", "I", false)
  | 5 => ("PolyominoCoverModel", "form", "[I", true)
  | 6 => ("PolyominoCoverModel", "forms", "I", false)
  | 7 => ("PolyominoCoverModel", "ofPiece", "[I", true)
  | 8 => ("PolyominoCoverModel", "ofForm", "[I", true)
  | 9 => ("PolyominoCoverModel", "corner", "[I", true)
  | 10 => ("PolyominoCoverModel", "bits", "[J", true)
  | 11 => ("PolyominoCoverModel", "least", "[I", true)
  | 12 => ("PolyominoCoverModel", "placements", "I", false)
  | 13 => ("PolyominoCoverModel", "at", "I", false)
  | 14 => ("PolyominoCoverModel", "isWrong", "Z", false)
  | 15 => ("PolyominoCoverModel", "before", "[I", true)
  | 16 => ("PolyominoCoverModel", "length", "I", false)
  | 17 => ("PolyominoCoverModel", "rows", "I", false)
  | 18 => ("PolyominoCoverModel", "column", "I", false)
  | 19 => ("PolyominoCoverModel", "shape", "I", false)
  | 20 => ("PolyominoCoverModel", "grid", "[I", true)
  | 21 => ("PolyominoCoverModel", "freedom", "I", false)
  | 22 => ("PolyominoCoverModel", "tint", "I", false)
  | 23 => ("PolyominoCoverModel", "copies", "I", false)
  | 24 => ("PolyominoCoverModel", "put", "[I", true)
  | 25 => ("PolyominoCoverModel", "from", "[I", true)
  | 26 => ("PolyominoCoverModel", "puts", "I", false)
  | 27 => ("PolyominoCoverModel", "covered", "J", false)
  | 28 => ("PolyominoCoverModel", "tinted", "[J", true)
  | 29 => ("PolyominoCoverModel", "left", "[I", true)
  | 30 => ("PolyominoCoverModel", "tried", "I", false)
  | 31 => ("PolyominoCoverModel", "found", "I", false)
  | 32 => ("PolyominoCoverModel", "isCut", "Z", false)
  | 33 => ("PolyominoCoverModel", "isOver", "Z", false)
  | 34 => ("PolyominoCoverModel", "isFresh", "Z", false)
  | 35 => ("PolyominoCoverModel", "fewestPut", "I", false)
  | 36 => ("PolyominoCoverModel", "labels", "[I", true)
  | _ => ("PolyominoCoverModel", "isOut", "[Z", true)
def tyX12 : Nat → FieldType := fun k => match k with
  | 0 => .array .int
  | 1 => .array .int
  | 2 => .int
  | 3 => .array .byte
  | 4 => .int
  | 5 => .array .int
  | 6 => .int
  | 7 => .array .int
  | 8 => .array .int
  | 9 => .array .int
  | 10 => .array .long
  | 11 => .array .int
  | 12 => .int
  | 13 => .int
  | 14 => .boolean
  | 15 => .array .int
  | 16 => .int
  | 17 => .int
  | 18 => .int
  | 19 => .int
  | 20 => .array .int
  | 21 => .int
  | 22 => .int
  | 23 => .int
  | 24 => .array .int
  | 25 => .array .int
  | 26 => .int
  | 27 => .long
  | 28 => .array .long
  | 29 => .array .int
  | 30 => .int
  | 31 => .int
  | 32 => .boolean
  | 33 => .boolean
  | 34 => .boolean
  | 35 => .int
  | 36 => .array .int
  | _ => .array .boolean
abbrev wsX120 : List Cond := u_ws RX12 TX12 38
theorem nmX12 : ∀ a, a < 38 → ∀ b, b < 38 → a ≠ b → (TX12 a).2.1 ≠ (TX12 b).2.1 := by decide +kernel
theorem tyX12_ok : ∀ k, k < 38 → parseFieldDescriptor (TX12 k).2.2.1 = some (tyX12 k) := by decide +kernel
abbrev cX12_init : ByteArray := prog_14_method_1_code
def yX12_init : MethodName := ⟨RX12, "<init>", "()V"⟩
abbrev cX12_in : ByteArray := prog_14_method_3_code
def yX12_in : MethodName := ⟨RX12, "in", "(III)Z"⟩
abbrev cX12_note : ByteArray := prog_14_method_4_code
def yX12_note : MethodName := ⟨RX12, "note", "()V"⟩
abbrev cX12_undo : ByteArray := prog_14_method_5_code
def yX12_undo : MethodName := ⟨RX12, "undo", "()I"⟩
abbrev cX12_cells : ByteArray := prog_14_method_6_code
def yX12_cells : MethodName := ⟨RX12, "cells", "()I"⟩
abbrev cX12_isCell : ByteArray := prog_14_method_7_code
def yX12_isCell : MethodName := ⟨RX12, "isCell", "(I)Z"⟩
abbrev cX12_isOpen : ByteArray := prog_14_method_8_code
def yX12_isOpen : MethodName := ⟨RX12, "isOpen", "(I)Z"⟩
abbrev cX12_isPiece : ByteArray := prog_14_method_9_code
def yX12_isPiece : MethodName := ⟨RX12, "isPiece", "(I)Z"⟩
abbrev cX12_its : ByteArray := prog_14_method_10_code
def yX12_its : MethodName := ⟨RX12, "its", "(II)I"⟩
abbrev cX12_opens : ByteArray := prog_14_method_11_code
def yX12_opens : MethodName := ⟨RX12, "opens", "()I"⟩
abbrev cX12_squares : ByteArray := prog_14_method_12_code
def yX12_squares : MethodName := ⟨RX12, "squares", "(I)I"⟩
abbrev cX12_normal : ByteArray := prog_14_method_13_code
def yX12_normal : MethodName := ⟨RX12, "normal", "(I)I"⟩
abbrev cX12_grown : ByteArray := prog_14_method_14_code
def yX12_grown : MethodName := ⟨RX12, "grown", "(I)I"⟩
abbrev cX12_isShape : ByteArray := prog_14_method_15_code
def yX12_isShape : MethodName := ⟨RX12, "isShape", "(I)Z"⟩
abbrev cX12_changed : ByteArray := prog_14_method_16_code
def yX12_changed : MethodName := ⟨RX12, "changed", "(II)I"⟩
abbrev cX12_addsForm : ByteArray := prog_14_method_17_code
def yX12_addsForm : MethodName := ⟨RX12, "addsForm", "(I)V"⟩
abbrev cX12_findsForms : ByteArray := prog_14_method_18_code
def yX12_findsForms : MethodName := ⟨RX12, "findsForms", "(I)V"⟩
abbrev cX12_cellsOf : ByteArray := prog_14_method_19_code
def yX12_cellsOf : MethodName := ⟨RX12, "cellsOf", "(IIII)J"⟩
abbrev cX12_lowest : ByteArray := prog_14_method_20_code
def yX12_lowest : MethodName := ⟨RX12, "lowest", "(J)I"⟩
abbrev cX12_findsPlacements : ByteArray := prog_14_method_21_code
def yX12_findsPlacements : MethodName := ⟨RX12, "findsPlacements", "()V"⟩
abbrev cX12_placementsOf : ByteArray := prog_14_method_22_code
def yX12_placementsOf : MethodName := ⟨RX12, "placementsOf", "(I)I"⟩
abbrev cX12_has : ByteArray := prog_14_method_23_code
def yX12_has : MethodName := ⟨RX12, "has", "(II)Z"⟩
abbrev cX12_setBoard : ByteArray := prog_14_method_24_code
def yX12_setBoard : MethodName := ⟨RX12, "setBoard", "(II)I"⟩
abbrev cX12_setHole : ByteArray := prog_14_method_25_code
def yX12_setHole : MethodName := ⟨RX12, "setHole", "(II)I"⟩
abbrev cX12_setColour : ByteArray := prog_14_method_26_code
def yX12_setColour : MethodName := ⟨RX12, "setColour", "(II)I"⟩
abbrev cX12_adds : ByteArray := prog_14_method_27_code
def yX12_adds : MethodName := ⟨RX12, "adds", "(IIII)V"⟩
abbrev cX12_addPiece : ByteArray := prog_14_method_28_code
def yX12_addPiece : MethodName := ⟨RX12, "addPiece", "(III)I"⟩
abbrev cX12_removePiece : ByteArray := prog_14_method_29_code
def yX12_removePiece : MethodName := ⟨RX12, "removePiece", "(I)I"⟩
abbrev cX12_sets : ByteArray := prog_14_method_30_code
def yX12_sets : MethodName := ⟨RX12, "sets", "(IIZ)I"⟩
abbrev cX12_setCopies : ByteArray := prog_14_method_31_code
def yX12_setCopies : MethodName := ⟨RX12, "setCopies", "(II)I"⟩
abbrev cX12_setMode : ByteArray := prog_14_method_32_code
def yX12_setMode : MethodName := ⟨RX12, "setMode", "(I)I"⟩
abbrev cX12_setRule : ByteArray := prog_14_method_33_code
def yX12_setRule : MethodName := ⟨RX12, "setRule", "(I)I"⟩
abbrev cX12_count : ByteArray := prog_14_method_34_code
def yX12_count : MethodName := ⟨RX12, "count", "(I)I"⟩
abbrev cX12_colour : ByteArray := prog_14_method_35_code
def yX12_colour : MethodName := ⟨RX12, "colour", "(I)I"⟩
abbrev cX12_piece : ByteArray := prog_14_method_36_code
def yX12_piece : MethodName := ⟨RX12, "piece", "(II)I"⟩
abbrev cX12_form : ByteArray := prog_14_method_37_code
def yX12_form : MethodName := ⟨RX12, "form", "(II)I"⟩
abbrev cX12_placement : ByteArray := prog_14_method_38_code
def yX12_placement : MethodName := ⟨RX12, "placement", "(II)I"⟩
abbrev cX12_appendCharacter : ByteArray := prog_14_method_39_code
def yX12_appendCharacter : MethodName := ⟨RX12, "appendCharacter", "(I)I"⟩
abbrev cX12_clearText : ByteArray := prog_14_method_40_code
def yX12_clearText : MethodName := ⟨RX12, "clearText", "()I"⟩
abbrev cX12_here : ByteArray := prog_14_method_41_code
def yX12_here : MethodName := ⟨RX12, "here", "()I"⟩
abbrev cX12_isInRow : ByteArray := prog_14_method_42_code
def yX12_isInRow : MethodName := ⟨RX12, "isInRow", "(IZ)Z"⟩
abbrev cX12_readsRows : ByteArray := prog_14_method_43_code
def yX12_readsRows : MethodName := ⟨RX12, "readsRows", "(Z)V"⟩
abbrev cX12_isPart : ByteArray := prog_14_method_44_code
def yX12_isPart : MethodName := ⟨RX12, "isPart", "(IZ)Z"⟩
abbrev cX12_readsOption : ByteArray := prog_14_method_45_code
def yX12_readsOption : MethodName := ⟨RX12, "readsOption", "()V"⟩
abbrev cX12_readsPiece : ByteArray := prog_14_method_46_code
def yX12_readsPiece : MethodName := ⟨RX12, "readsPiece", "()V"⟩
abbrev cX12_exchanges : ByteArray := prog_14_method_47_code
def yX12_exchanges : MethodName := ⟨RX12, "exchanges", "()V"⟩
abbrev cX12_load : ByteArray := prog_14_method_48_code
def yX12_load : MethodName := ⟨RX12, "load", "()I"⟩
abbrev cX12_all : ByteArray := prog_14_method_49_code
def yX12_all : MethodName := ⟨RX12, "all", "()J"⟩
abbrev cX12_beside : ByteArray := prog_14_method_50_code
def yX12_beside : MethodName := ⟨RX12, "beside", "(J)J"⟩
abbrev cX12_fits : ByteArray := prog_14_method_51_code
def yX12_fits : MethodName := ⟨RX12, "fits", "(I)Z"⟩
abbrev cX12_turns : ByteArray := prog_14_method_52_code
def yX12_turns : MethodName := ⟨RX12, "turns", "(IZ)V"⟩
abbrev cX12_begins : ByteArray := prog_14_method_53_code
def yX12_begins : MethodName := ⟨RX12, "begins", "()V"⟩
abbrev cX12_isCover : ByteArray := prog_14_method_54_code
def yX12_isCover : MethodName := ⟨RX12, "isCover", "()Z"⟩
abbrev cX12_goesBack : ByteArray := prog_14_method_55_code
def yX12_goesBack : MethodName := ⟨RX12, "goesBack", "()V"⟩
abbrev cX12_goesOn : ByteArray := prog_14_method_56_code
def yX12_goesOn : MethodName := ⟨RX12, "goesOn", "()Z"⟩
abbrev cX12_searches : ByteArray := prog_14_method_57_code
def yX12_searches : MethodName := ⟨RX12, "searches", "()V"⟩
abbrev cX12_seeks : ByteArray := prog_14_method_58_code
def yX12_seeks : MethodName := ⟨RX12, "seeks", "(I)I"⟩
abbrev cX12_covers : ByteArray := prog_14_method_59_code
def yX12_covers : MethodName := ⟨RX12, "covers", "()I"⟩
abbrev cX12_tries : ByteArray := prog_14_method_60_code
def yX12_tries : MethodName := ⟨RX12, "tries", "()I"⟩
abbrev cX12_coverAt : ByteArray := prog_14_method_61_code
def yX12_coverAt : MethodName := ⟨RX12, "coverAt", "(II)I"⟩
abbrev cX12_used : ByteArray := prog_14_method_62_code
def yX12_used : MethodName := ⟨RX12, "used", "(II)I"⟩
abbrev cX12_fewest : ByteArray := prog_14_method_63_code
def yX12_fewest : MethodName := ⟨RX12, "fewest", "()I"⟩
abbrev cX12_image : ByteArray := prog_14_method_64_code
def yX12_image : MethodName := ⟨RX12, "image", "(II)I"⟩
abbrev cX12_isSymmetry : ByteArray := prog_14_method_65_code
def yX12_isSymmetry : MethodName := ⟨RX12, "isSymmetry", "(I)Z"⟩
abbrev cX12_labels : ByteArray := prog_14_method_66_code
def yX12_labels : MethodName := ⟨RX12, "labels", "(II)V"⟩
abbrev cX12_labelsAll : ByteArray := prog_14_method_67_code
def yX12_labelsAll : MethodName := ⟨RX12, "labelsAll", "(I)V"⟩
abbrev cX12_areAlike : ByteArray := prog_14_method_68_code
def yX12_areAlike : MethodName := ⟨RX12, "areAlike", "(II)Z"⟩
abbrev cX12_classes : ByteArray := prog_14_method_69_code
def yX12_classes : MethodName := ⟨RX12, "classes", "()I"⟩
abbrev cX12_alike : ByteArray := prog_14_method_70_code
def yX12_alike : MethodName := ⟨RX12, "alike", "(II)I"⟩
abbrev cX12_isUseless : ByteArray := prog_14_method_71_code
def yX12_isUseless : MethodName := ⟨RX12, "isUseless", "(I)Z"⟩
abbrev cX12_strikes : ByteArray := prog_14_method_72_code
def yX12_strikes : MethodName := ⟨RX12, "strikes", "()V"⟩
abbrev cX12_useful : ByteArray := prog_14_method_73_code
def yX12_useful : MethodName := ⟨RX12, "useful", "(I)I"⟩
abbrev cX12_usefulAt : ByteArray := prog_14_method_74_code
def yX12_usefulAt : MethodName := ⟨RX12, "usefulAt", "(I)I"⟩
abbrev cX12_weight : ByteArray := prog_14_method_75_code
def yX12_weight : MethodName := ⟨RX12, "weight", "(JIII)I"⟩
abbrev cX12_weights : ByteArray := prog_14_method_76_code
def yX12_weights : MethodName := ⟨RX12, "weights", "(IIII)I"⟩
abbrev cX12_isProof : ByteArray := prog_14_method_77_code
def yX12_isProof : MethodName := ⟨RX12, "isProof", "(III)Z"⟩
abbrev cX12_proves : ByteArray := prog_14_method_78_code
def yX12_proves : MethodName := ⟨RX12, "proves", "(III)I"⟩
abbrev cX12_proof : ByteArray := prog_14_method_79_code
def yX12_proof : MethodName := ⟨RX12, "proof", "()I"⟩
def RJ6 : String := "java/lang/Integer"
def TJ6 : u_T := fun k => match k with
  | _ => ("", "", "", false)
def tyJ6 : Nat → FieldType := fun k => match k with
  | _ => .int
abbrev wsJ60 : List Cond := u_ws RJ6 TJ6 0
theorem nmJ6 : ∀ a, a < 0 → ∀ b, b < 0 → a ≠ b → (TJ6 a).2.1 ≠ (TJ6 b).2.1 := by decide +kernel
theorem tyJ6_ok : ∀ k, k < 0 → parseFieldDescriptor (TJ6 k).2.2.1 = some (tyJ6 k) := by decide +kernel
abbrev cJ6_bitCount_0f7a4 : ByteArray := prog_15_method_49_code
def yJ6_bitCount_0f7a4 : MethodName := ⟨RJ6, "bitCount", "(I)I"⟩
def RJ13 : String := "java/lang/Long"
def TJ13 : u_T := fun k => match k with
  | _ => ("", "", "", false)
def tyJ13 : Nat → FieldType := fun k => match k with
  | _ => .int
abbrev wsJ130 : List Cond := u_ws RJ13 TJ13 0
theorem nmJ13 : ∀ a, a < 0 → ∀ b, b < 0 → a ≠ b → (TJ13 a).2.1 ≠ (TJ13 b).2.1 := by decide +kernel
theorem tyJ13_ok : ∀ k, k < 0 → parseFieldDescriptor (TJ13 k).2.2.1 = some (tyJ13 k) := by decide +kernel
abbrev cJ13_bitCount_95d88 : ByteArray := prog_16_method_50_code
def yJ13_bitCount_95d88 : MethodName := ⟨RJ13, "bitCount", "(J)I"⟩
def RJ9 : String := "java/lang/Math"
def TJ9 : u_T := fun k => match k with
  | _ => ("", "", "", false)
def tyJ9 : Nat → FieldType := fun k => match k with
  | _ => .int
abbrev wsJ90 : List Cond := u_ws RJ9 TJ9 0
theorem nmJ9 : ∀ a, a < 0 → ∀ b, b < 0 → a ≠ b → (TJ9 a).2.1 ≠ (TJ9 b).2.1 := by decide +kernel
theorem tyJ9_ok : ∀ k, k < 0 → parseFieldDescriptor (TJ9 k).2.2.1 = some (tyJ9 k) := by decide +kernel
abbrev cJ9_max_7cf53 : ByteArray := prog_17_method_65_code
def yJ9_max_7cf53 : MethodName := ⟨RJ9, "max", "(II)I"⟩
abbrev cJ9_min_7cf53 : ByteArray := prog_17_method_69_code
def yJ9_min_7cf53 : MethodName := ⟨RJ9, "min", "(II)I"⟩
def RL : String := "PolyominoCoverLaw"
abbrev cL_law : ByteArray := code
def yL_law : MethodName := ⟨RL, "law", "([I)Z"⟩
abbrev vwCl : List vw_C := [(RX0, TX0, 8), (RX1, TX1, 2), (RX2, TX2, 3), (RX3, TX3, 6), (RX4, TX4, 10), (RX5, TX5, 7), (RX7, TX7, 1), (RX8, TX8, 2), (RX9, TX9, 16), (RX10, TX10, 3), (RX11, TX11, 13), (RX12, TX12, 38)]
def gt : List Cond := lw_tbl.filter goodWord
def isNest : Cond → Bool := fun w => match w with | .fieldLinkNest .. => true | .methodLinkNest .. => true | _ => false
def nt : List Cond := lw_tbl.filter isNest
theorem gt_at {i : Nat} {w : Cond} (h : lw_tbl[i]? = some w) (hg : goodWord w = true) : w ∈ gt := List.mem_filter.mpr ⟨List.mem_of_getElem? h, hg⟩
theorem nt_at {i : Nat} {w : Cond} (h : lw_tbl[i]? = some w) (hg : isNest w = true) : w ∈ nt := List.mem_filter.mpr ⟨List.mem_of_getElem? h, hg⟩
theorem inX0 : ∀ w ∈ u_ws RX0 TX0 8, w ∈ gt := fun w h => by
  have q := goodIn_r (big := lw_tbl) (u_ws RX0 TX0 8) [358, 360, 362, 364, 366, 368, 370, 372] (by decide +kernel) (by decide +kernel) w h
  exact List.mem_filter.mpr ⟨q.1, by
    have q2 : (u_ws RX0 TX0 8).all goodWord = true := by decide +kernel
    exact List.all_eq_true.mp q2 w h⟩
theorem inX1 : ∀ w ∈ u_ws RX1 TX1 2, w ∈ gt := fun w h => by
  have q := goodIn_r (big := lw_tbl) (u_ws RX1 TX1 2) [226, 228] (by decide +kernel) (by decide +kernel) w h
  exact List.mem_filter.mpr ⟨q.1, by
    have q2 : (u_ws RX1 TX1 2).all goodWord = true := by decide +kernel
    exact List.all_eq_true.mp q2 w h⟩
theorem inX2 : ∀ w ∈ u_ws RX2 TX2 3, w ∈ gt := fun w h => by
  have q := goodIn_r (big := lw_tbl) (u_ws RX2 TX2 3) [180, 182, 184] (by decide +kernel) (by decide +kernel) w h
  exact List.mem_filter.mpr ⟨q.1, by
    have q2 : (u_ws RX2 TX2 3).all goodWord = true := by decide +kernel
    exact List.all_eq_true.mp q2 w h⟩
theorem inX3 : ∀ w ∈ u_ws RX3 TX3 6, w ∈ gt := fun w h => by
  have q := goodIn_r (big := lw_tbl) (u_ws RX3 TX3 6) [251, 253, 255, 257, 259, 261] (by decide +kernel) (by decide +kernel) w h
  exact List.mem_filter.mpr ⟨q.1, by
    have q2 : (u_ws RX3 TX3 6).all goodWord = true := by decide +kernel
    exact List.all_eq_true.mp q2 w h⟩
theorem inX4 : ∀ w ∈ u_ws RX4 TX4 10, w ∈ gt := fun w h => by
  have q := goodIn_r (big := lw_tbl) (u_ws RX4 TX4 10) [145, 147, 149, 151, 153, 155, 157, 159, 161, 163] (by decide +kernel) (by decide +kernel) w h
  exact List.mem_filter.mpr ⟨q.1, by
    have q2 : (u_ws RX4 TX4 10).all goodWord = true := by decide +kernel
    exact List.all_eq_true.mp q2 w h⟩
theorem inX5 : ∀ w ∈ u_ws RX5 TX5 7, w ∈ gt := fun w h => by
  have q := goodIn_r (big := lw_tbl) (u_ws RX5 TX5 7) [203, 205, 207, 209, 211, 213, 215] (by decide +kernel) (by decide +kernel) w h
  exact List.mem_filter.mpr ⟨q.1, by
    have q2 : (u_ws RX5 TX5 7).all goodWord = true := by decide +kernel
    exact List.all_eq_true.mp q2 w h⟩
theorem inX7 : ∀ w ∈ u_ws RX7 TX7 1, w ∈ gt := fun w h => by
  have q := goodIn_r (big := lw_tbl) (u_ws RX7 TX7 1) [382] (by decide +kernel) (by decide +kernel) w h
  exact List.mem_filter.mpr ⟨q.1, by
    have q2 : (u_ws RX7 TX7 1).all goodWord = true := by decide +kernel
    exact List.all_eq_true.mp q2 w h⟩
theorem inX8 : ∀ w ∈ u_ws RX8 TX8 2, w ∈ gt := fun w h => by
  have q := goodIn_r (big := lw_tbl) (u_ws RX8 TX8 2) [275, 277] (by decide +kernel) (by decide +kernel) w h
  exact List.mem_filter.mpr ⟨q.1, by
    have q2 : (u_ws RX8 TX8 2).all goodWord = true := by decide +kernel
    exact List.all_eq_true.mp q2 w h⟩
theorem inX9 : ∀ w ∈ u_ws RX9 TX9 16, w ∈ gt := fun w h => by
  have q := goodIn_r (big := lw_tbl) (u_ws RX9 TX9 16) [307, 309, 311, 313, 315, 317, 319, 321, 323, 325, 327, 329, 331, 333, 335, 337] (by decide +kernel) (by decide +kernel) w h
  exact List.mem_filter.mpr ⟨q.1, by
    have q2 : (u_ws RX9 TX9 16).all goodWord = true := by decide +kernel
    exact List.all_eq_true.mp q2 w h⟩
theorem inX10 : ∀ w ∈ u_ws RX10 TX10 3, w ∈ gt := fun w h => by
  have q := goodIn_r (big := lw_tbl) (u_ws RX10 TX10 3) [395, 397, 399] (by decide +kernel) (by decide +kernel) w h
  exact List.mem_filter.mpr ⟨q.1, by
    have q2 : (u_ws RX10 TX10 3).all goodWord = true := by decide +kernel
    exact List.all_eq_true.mp q2 w h⟩
theorem inX11 : ∀ w ∈ u_ws RX11 TX11 13, w ∈ gt := fun w h => by
  have q := goodIn_r (big := lw_tbl) (u_ws RX11 TX11 13) [415, 417, 419, 421, 423, 425, 427, 429, 431, 433, 435, 437, 439] (by decide +kernel) (by decide +kernel) w h
  exact List.mem_filter.mpr ⟨q.1, by
    have q2 : (u_ws RX11 TX11 13).all goodWord = true := by decide +kernel
    exact List.all_eq_true.mp q2 w h⟩
theorem inX12 : ∀ w ∈ u_ws RX12 TX12 38, w ∈ gt := fun w h => by
  have q := goodIn_r (big := lw_tbl) (u_ws RX12 TX12 38) [1095, 1097, 1099, 1101, 1103, 1105, 1107, 1109, 1111, 1113, 1115, 1117, 1119, 1121, 1123, 1125, 1127, 1129, 1131, 1133, 1135, 1137, 1139, 1141, 1143, 1145, 1147, 1149, 1151, 1153, 1155, 1157, 1159, 1161, 1163, 1165, 1167, 1169] (by decide +kernel) (by decide +kernel) w h
  exact List.mem_filter.mpr ⟨q.1, by
    have q2 : (u_ws RX12 TX12 38).all goodWord = true := by decide +kernel
    exact List.all_eq_true.mp q2 w h⟩
abbrev MD : Type := MethodName × ByteArray × Nat × Option FieldType × Nat × Nat
def lkF (own : String) (idx : Nat) (T : u_T) (k : Nat) : Prop := Cond.fieldLink own idx (T k).1 (T k).2.1 (T k).2.2.1 ∈ gt ∨ ∃ host, Cond.fieldLinkNest own idx (T k).1 (T k).2.1 (T k).2.2.1 host ∈ nt
def gfl (own : String) (idx ci k : Nat) : Prop := ∃ (C : String) (T : u_T) (N : Nat), vwCl[ci]? = some (C, T, N) ∧ k < N ∧ (∀ w ∈ u_ws C T N, w ∈ gt) ∧ lkF own idx T k
def pfl (own : String) (idx ci k : Nat) (ty : FieldType) : Prop := ∃ (C : String) (T : u_T) (N : Nat) (ty0 : Nat → FieldType), vwCl[ci]? = some (C, T, N) ∧ k < N ∧ (∀ w ∈ u_ws C T N, w ∈ gt) ∧ (∀ k, k < N → parseFieldDescriptor (T k).2.2.1 = some (ty0 k)) ∧ (∀ a, a < N → ∀ b, b < N → a ≠ b → (T a).2.1 ≠ (T b).2.1) ∧ (T k).2.2.2 = false ∧ parseFieldDescriptor (T k).2.2.1 = some ty ∧ lkF own idx T k
def pfF (own : String) (idx ci k : Nat) (ty : FieldType) : Prop := ∃ (C : String) (T : u_T) (N : Nat) (ty0 : Nat → FieldType), vwCl[ci]? = some (C, T, N) ∧ k < N ∧ (∀ w ∈ u_ws C T N, w ∈ gt) ∧ (∀ k, k < N → parseFieldDescriptor (T k).2.2.1 = some (ty0 k)) ∧ (∀ a, a < N → ∀ b, b < N → a ≠ b → (T a).2.1 ≠ (T b).2.1) ∧ (T k).2.2.2 = true ∧ (T k).1 = own ∧ parseFieldDescriptor (T k).2.2.1 = some ty ∧ Cond.fieldLink own idx (T k).1 (T k).2.1 (T k).2.2.1 ∈ gt
def lkM (own : String) (idx : Nat) (y : MethodName) : Prop := Cond.methodLink own idx y ∈ gt ∨ ∃ host, Cond.methodLinkNest own idx y host ∈ nt
def mOK (Mj : MD) (n : Nat) : Prop := Cond.code Mj.1 Mj.2.1 Mj.2.2.1 Mj.2.2.2.1 ∈ gt ∧ Cond.initialized Mj.1.cls ∈ gt ∧ Mj.1.cls ≠ "java/lang/invoke/MethodHandle" ∧ Mj.1.cls ≠ "java/lang/invoke/VarHandle" ∧ (parseMethodDescriptor Mj.1.desc).map (fun d => d.parameters.length) = some n ∧ plainName Mj.1.cls = true
def mVl (own : String) (idx : Nat) (Mj : MD) (n ci : Nat) : Prop := lkM own idx Mj.1 ∧ mOK Mj n ∧ Cond.instanceMethod Mj.1 ∈ gt ∧ Cond.selects Mj.1.cls Mj.1 Mj.1 ∈ gt ∧ ∃ (T : u_T) (N : Nat), vwCl[ci]? = some (Mj.1.cls, T, N)
def mSl (own : String) (idx : Nat) (Mj : MD) (n : Nat) : Prop := lkM own idx Mj.1 ∧ mOK Mj n ∧ Cond.static Mj.1 ∈ gt
def mIl (own : String) (idx : Nat) (Mj : MD) (n : Nat) : Prop := lkM own idx Mj.1 ∧ mOK Mj n ∧ Cond.instanceMethod Mj.1 ∈ gt ∧ Mj.1.name = "<init>" ∧ Mj.2.2.2.1 = none
abbrev MX11_init : MD := (yX11_init, cX11_init, 1, none, 3, 61)
abbrev MX4_init : MD := (yX4_init, cX4_init, 1, none, 1, 20)
abbrev MX2_init : MD := (yX2_init, cX2_init, 2, none, 2, 40)
abbrev MX5_init : MD := (yX5_init, cX5_init, 1, none, 2, 40)
abbrev MX1_init : MD := (yX1_init, cX1_init, 1, none, 1, 20)
abbrev MX3_init : MD := (yX3_init, cX3_init, 1, none, 1, 20)
abbrev MX8_init : MD := (yX8_init, cX8_init, 1, none, 1, 20)
abbrev MX9_init : MD := (yX9_init, cX9_init, 3, none, 1, 20)
abbrev MX0_init : MD := (yX0_init, cX0_init, 4, none, 1, 20)
abbrev MX7_init : MD := (yX7_init, cX7_init, 1, none, 1, 20)
abbrev MX10_init : MD := (yX10_init, cX10_init, 1, none, 1, 20)
abbrev MX11_setBoard : MD := (yX11_setBoard, cX11_setBoard, 3, (some .int), 6, 129)
abbrev MX11_isWithin : MD := (yX11_isWithin, cX11_isWithin, 3, (some .boolean), 0, 0)
abbrev MX11_prepareChange : MD := (yX11_prepareChange, cX11_prepareChange, 1, none, 5, 109)
abbrev MX2_save : MD := (yX2_save, cX2_save, 3, none, 4, 87)
abbrev MX2_slotAfterOldest : MD := (yX2_slotAfterOldest, cX2_slotAfterOldest, 3, (some (.object "PolyominoCover$Problem")), 0, 0)
abbrev MX4_copyFrom : MD := (yX4_copyFrom, cX4_copyFrom, 3, none, 3, 65)
abbrev MX4_copyPiece : MD := (yX4_copyPiece, cX4_copyPiece, 4, none, 2, 42)
abbrev MX4_shapeOf : MD := (yX4_shapeOf, cX4_shapeOf, 2, (some .int), 1, 21)
abbrev MX11_at : MD := (yX11_at, cX11_at, 2, (some .int), 0, 0)
abbrev MX11_put : MD := (yX11_put, cX11_put, 3, none, 0, 0)
abbrev MX4_freedomOf : MD := (yX4_freedomOf, cX4_freedomOf, 2, (some .int), 1, 21)
abbrev MX4_colourOf : MD := (yX4_colourOf, cX4_colourOf, 2, (some .int), 1, 21)
abbrev MX4_copiesOf : MD := (yX4_copiesOf, cX4_copiesOf, 2, (some .int), 1, 21)
abbrev MX11_forgetDerived : MD := (yX11_forgetDerived, cX11_forgetDerived, 1, none, 0, 0)
abbrev MX4_makeBoard : MD := (yX4_makeBoard, cX4_makeBoard, 4, none, 0, 0)
abbrev MX4_cellCount : MD := (yX4_cellCount, cX4_cellCount, 1, (some .int), 0, 0)
abbrev MX11_setHole : MD := (yX11_setHole, cX11_setHole, 3, (some .int), 6, 129)
abbrev MX4_hasCell : MD := (yX4_hasCell, cX4_hasCell, 2, (some .boolean), 1, 20)
abbrev MX4_isHole : MD := (yX4_isHole, cX4_isHole, 2, (some .boolean), 2, 42)
abbrev MX4_cellAt : MD := (yX4_cellAt, cX4_cellAt, 2, (some .int), 1, 21)
abbrev MX4_putCell : MD := (yX4_putCell, cX4_putCell, 3, none, 1, 22)
abbrev MX4_openCount : MD := (yX4_openCount, cX4_openCount, 1, (some .int), 4, 86)
abbrev MX4_openMask : MD := (yX4_openMask, cX4_openMask, 4, (some .long), 3, 63)
abbrev MJ13_bitCount_95d88 : MD := (yJ13_bitCount_95d88, cJ13_bitCount_95d88, 2, (some .int), 0, 0)
abbrev MX11_setColour : MD := (yX11_setColour, cX11_setColour, 4, (some .int), 6, 129)
abbrev MX11_addPiece : MD := (yX11_addPiece, cX11_addPiece, 4, (some .int), 6, 129)
abbrev MX6_isShape : MD := (yX6_isShape, cX6_isShape, 2, (some .boolean), 1, 26)
abbrev MJ6_bitCount_0f7a4 : MD := (yJ6_bitCount_0f7a4, cJ6_bitCount_0f7a4, 1, (some .int), 0, 0)
abbrev MX6_hangsTogether : MD := (yX6_hangsTogether, cX6_hangsTogether, 7, (some .boolean), 0, 0)
abbrev MX6_normalize : MD := (yX6_normalize, cX6_normalize, 3, (some .int), 0, 0)
abbrev MX4_append : MD := (yX4_append, cX4_append, 5, none, 1, 22)
abbrev MX11_removePiece : MD := (yX11_removePiece, cX11_removePiece, 2, (some .int), 6, 129)
abbrev MX4_hasPiece : MD := (yX4_hasPiece, cX4_hasPiece, 2, (some .boolean), 0, 0)
abbrev MX4_dropPiece : MD := (yX4_dropPiece, cX4_dropPiece, 3, none, 3, 65)
abbrev MX11_setCopies : MD := (yX11_setCopies, cX11_setCopies, 4, (some .int), 6, 129)
abbrev MX11_setMode : MD := (yX11_setMode, cX11_setMode, 3, (some .int), 6, 129)
abbrev MX11_setRule : MD := (yX11_setRule, cX11_setRule, 3, (some .int), 6, 129)
abbrev MX11_count : MD := (yX11_count, cX11_count, 2, (some .int), 6, 147)
abbrev MX4_squareCount : MD := (yX4_squareCount, cX4_squareCount, 3, (some .int), 2, 42)
abbrev MX11_placeAll : MD := (yX11_placeAll, cX11_placeAll, 1, none, 5, 127)
abbrev MX1_fill : MD := (yX1_fill, cX1_fill, 5, none, 4, 92)
abbrev MX1_insertTurns : MD := (yX1_insertTurns, cX1_insertTurns, 6, none, 3, 67)
abbrev MX1_insert : MD := (yX1_insert, cX1_insert, 5, none, 2, 43)
abbrev MX1_sizeOf : MD := (yX1_sizeOf, cX1_sizeOf, 2, (some .int), 1, 21)
abbrev MX1_shapeOf : MD := (yX1_shapeOf, cX1_shapeOf, 3, (some .int), 1, 21)
abbrev MX6_turn : MD := (yX6_turn, cX6_turn, 5, (some .int), 1, 22)
abbrev MX6_hasSquare : MD := (yX6_hasSquare, cX6_hasSquare, 2, (some .boolean), 0, 0)
abbrev MX6_mirror : MD := (yX6_mirror, cX6_mirror, 5, (some .int), 1, 22)
abbrev MX3_fill : MD := (yX3_fill, cX3_fill, 5, none, 4, 103)
abbrev MX3_fillForm : MD := (yX3_fillForm, cX3_fillForm, 9, none, 3, 75)
abbrev MX3_lay : MD := (yX3_lay, cX3_lay, 12, (some .long), 2, 44)
abbrev MX4_columnOf : MD := (yX4_columnOf, cX4_columnOf, 2, (some .int), 0, 0)
abbrev MX4_rowOf : MD := (yX4_rowOf, cX4_rowOf, 2, (some .int), 0, 0)
abbrev MX4_takesColour : MD := (yX4_takesColour, cX4_takesColour, 4, (some .boolean), 1, 21)
abbrev MX3_fillOrder : MD := (yX3_fillOrder, cX3_fillOrder, 4, none, 2, 42)
abbrev MX3_maskOf : MD := (yX3_maskOf, cX3_maskOf, 2, (some .long), 0, 0)
abbrev MX11_smallestCell : MD := (yX11_smallestCell, cX11_smallestCell, 2, (some .int), 1, 21)
abbrev MX8_fill : MD := (yX8_fill, cX8_fill, 4, none, 3, 69)
abbrev MX8_fillNext : MD := (yX8_fillNext, cX8_fillNext, 5, (some .boolean), 2, 45)
abbrev MX8_mapCell : MD := (yX8_mapCell, cX8_mapCell, 5, (some .int), 1, 21)
abbrev MX11_colour : MD := (yX11_colour, cX11_colour, 2, (some .int), 3, 63)
abbrev MX11_piece : MD := (yX11_piece, cX11_piece, 3, (some .int), 6, 147)
abbrev MX3_sizeOf : MD := (yX3_sizeOf, cX3_sizeOf, 4, (some .int), 2, 42)
abbrev MX3_pieceOf : MD := (yX3_pieceOf, cX3_pieceOf, 2, (some .int), 1, 21)
abbrev MX11_form : MD := (yX11_form, cX11_form, 3, (some .int), 6, 147)
abbrev MX11_placement : MD := (yX11_placement, cX11_placement, 3, (some .int), 6, 147)
abbrev MX3_formOf : MD := (yX3_formOf, cX3_formOf, 2, (some .int), 1, 21)
abbrev MX3_cornerOf : MD := (yX3_cornerOf, cX3_cornerOf, 2, (some .int), 1, 21)
abbrev MX11_greatestCell : MD := (yX11_greatestCell, cX11_greatestCell, 3, (some .int), 1, 22)
abbrev MX11_holds : MD := (yX11_holds, cX11_holds, 3, (some .boolean), 0, 0)
abbrev MX11_appendCharacter : MD := (yX11_appendCharacter, cX11_appendCharacter, 2, (some .int), 1, 22)
abbrev MX5_append : MD := (yX5_append, cX5_append, 2, none, 0, 0)
abbrev MX11_clearText : MD := (yX11_clearText, cX11_clearText, 2, (some .int), 0, 0)
abbrev MX11_load : MD := (yX11_load, cX11_load, 2, (some .int), 7, 156)
abbrev MX5_read : MD := (yX5_read, cX5_read, 2, (some .int), 6, 135)
abbrev MX5_readBoard : MD := (yX5_readBoard, cX5_readBoard, 1, (some .boolean), 5, 115)
abbrev MX5_readRows : MD := (yX5_readRows, cX5_readRows, 5, (some .boolean), 4, 91)
abbrev MX5_readRow : MD := (yX5_readRow, cX5_readRow, 4, (some .int), 3, 68)
abbrev MX5_readCell : MD := (yX5_readCell, cX5_readCell, 5, (some .boolean), 2, 44)
abbrev MX5_look : MD := (yX5_look, cX5_look, 2, (some .int), 0, 0)
abbrev MX5_readSquare : MD := (yX5_readSquare, cX5_readSquare, 4, (some .boolean), 1, 21)
abbrev MX5_readPiece : MD := (yX5_readPiece, cX5_readPiece, 1, (some .boolean), 5, 115)
abbrev MX5_readOptions : MD := (yX5_readOptions, cX5_readOptions, 6, (some .boolean), 2, 46)
abbrev MX5_readDigit : MD := (yX5_readDigit, cX5_readDigit, 3, (some .int), 1, 21)
abbrev MJ9_max_7cf53 : MD := (yJ9_max_7cf53, cJ9_max_7cf53, 2, (some .int), 0, 0)
abbrev MX5_handOver : MD := (yX5_handOver, cX5_handOver, 2, none, 4, 87)
abbrev MX11_covers : MD := (yX11_covers, cX11_covers, 1, (some .int), 7, 167)
abbrev MX11_searchAll : MD := (yX11_searchAll, cX11_searchAll, 1, none, 6, 147)
abbrev MX0_collect : MD := (yX0_collect, cX0_collect, 2, none, 5, 115)
abbrev MX9_begin : MD := (yX9_begin, cX9_begin, 2, none, 3, 64)
abbrev MX4_copyCount : MD := (yX4_copyCount, cX4_copyCount, 3, (some .int), 2, 42)
abbrev MX9_openLevel : MD := (yX9_openLevel, cX9_openLevel, 2, none, 2, 42)
abbrev MX9_advance : MD := (yX9_advance, cX9_advance, 4, (some .boolean), 4, 92)
abbrev MX9_isCover : MD := (yX9_isCover, cX9_isCover, 1, (some .boolean), 0, 0)
abbrev MX9_nextThatFits : MD := (yX9_nextThatFits, cX9_nextThatFits, 7, (some .int), 3, 66)
abbrev MX9_isAllowed : MD := (yX9_isAllowed, cX9_isAllowed, 5, (some .boolean), 2, 42)
abbrev MX9_around : MD := (yX9_around, cX9_around, 7, (some .long), 0, 0)
abbrev MX9_stepBack : MD := (yX9_stepBack, cX9_stepBack, 1, none, 3, 68)
abbrev MX9_change : MD := (yX9_change, cX9_change, 7, none, 2, 42)
abbrev MX9_stepOn : MD := (yX9_stepOn, cX9_stepOn, 2, none, 3, 68)
abbrev MX9_writeTo : MD := (yX9_writeTo, cX9_writeTo, 8, none, 2, 42)
abbrev MJ9_min_7cf53 : MD := (yJ9_min_7cf53, cJ9_min_7cf53, 2, (some .int), 0, 0)
abbrev MX11_tries : MD := (yX11_tries, cX11_tries, 1, (some .int), 7, 167)
abbrev MX11_coverAt : MD := (yX11_coverAt, cX11_coverAt, 3, (some .int), 7, 167)
abbrev MX11_whyNoCover : MD := (yX11_whyNoCover, cX11_whyNoCover, 1, (some .int), 0, 0)
abbrev MX0_rowOf : MD := (yX0_rowOf, cX0_rowOf, 4, (some .int), 5, 115)
abbrev MX0_placementAt : MD := (yX0_placementAt, cX0_placementAt, 3, (some .int), 1, 21)
abbrev MX11_used : MD := (yX11_used, cX11_used, 3, (some .int), 7, 167)
abbrev MX0_usesOf : MD := (yX0_usesOf, cX0_usesOf, 6, (some .int), 3, 64)
abbrev MX0_beginsAt : MD := (yX0_beginsAt, cX0_beginsAt, 3, (some .boolean), 2, 42)
abbrev MX11_classes : MD := (yX11_classes, cX11_classes, 1, (some .int), 7, 167)
abbrev MX0_classCount : MD := (yX0_classCount, cX0_classCount, 3, (some .int), 5, 115)
abbrev MX0_isLikeEarlier : MD := (yX0_isLikeEarlier, cX0_isLikeEarlier, 3, (some .boolean), 4, 93)
abbrev MX0_areAlike : MD := (yX0_areAlike, cX0_areAlike, 4, (some .boolean), 3, 70)
abbrev MX0_isMapped : MD := (yX0_isMapped, cX0_isMapped, 8, (some .boolean), 2, 43)
abbrev MX8_imageOf : MD := (yX8_imageOf, cX8_imageOf, 3, (some .int), 1, 21)
abbrev MX11_alike : MD := (yX11_alike, cX11_alike, 3, (some .int), 7, 167)
abbrev MX11_fewest : MD := (yX11_fewest, cX11_fewest, 1, (some .int), 7, 167)
abbrev MX11_useful : MD := (yX11_useful, cX11_useful, 2, (some .int), 7, 167)
abbrev MX11_siftAll : MD := (yX11_siftAll, cX11_siftAll, 1, none, 6, 147)
abbrev MX7_sift : MD := (yX7_sift, cX7_sift, 4, none, 4, 95)
abbrev MX7_strikeSome : MD := (yX7_strikeSome, cX7_strikeSome, 4, (some .boolean), 3, 72)
abbrev MX7_limitOf : MD := (yX7_limitOf, cX7_limitOf, 2, (some .int), 1, 21)
abbrev MX7_leavesAllCoverable : MD := (yX7_leavesAllCoverable, cX7_leavesAllCoverable, 11, (some .boolean), 2, 42)
abbrev MX7_leftOfPiece : MD := (yX7_leftOfPiece, cX7_leftOfPiece, 5, (some .int), 2, 42)
abbrev MX11_usefulAt : MD := (yX11_usefulAt, cX11_usefulAt, 2, (some .int), 7, 167)
abbrev MX7_leftAtCell : MD := (yX7_leftAtCell, cX7_leftAtCell, 5, (some .int), 2, 42)
abbrev MX11_proves : MD := (yX11_proves, cX11_proves, 4, (some .int), 6, 147)
abbrev MX10_excludeCover : MD := (yX10_excludeCover, cX10_excludeCover, 10, (some .boolean), 4, 90)
abbrev MX10_weighCells : MD := (yX10_weighCells, cX10_weighCells, 5, none, 1, 21)
abbrev MX10_rest : MD := (yX10_rest, cX10_rest, 2, (some .int), 0, 0)
abbrev MX10_weighPieces : MD := (yX10_weighPieces, cX10_weighPieces, 5, none, 3, 66)
abbrev MX10_weightOf : MD := (yX10_weightOf, cX10_weightOf, 5, (some .int), 2, 42)
abbrev MX10_addAll : MD := (yX10_addAll, cX10_addAll, 6, (some .int), 1, 21)
abbrev MX11_proof : MD := (yX11_proof, cX11_proof, 4, (some .int), 6, 147)
abbrev MX11_undo : MD := (yX11_undo, cX11_undo, 1, (some .int), 5, 109)
abbrev MX2_restore : MD := (yX2_restore, cX2_restore, 3, none, 4, 87)
abbrev MX12_init : MD := (yX12_init, cX12_init, 1, none, 1, 20)
abbrev MX12_undo : MD := (yX12_undo, cX12_undo, 2, (some .int), 0, 0)
abbrev MX12_setBoard : MD := (yX12_setBoard, cX12_setBoard, 4, (some .int), 1, 22)
abbrev MX12_in : MD := (yX12_in, cX12_in, 3, (some .boolean), 0, 0)
abbrev MX12_note : MD := (yX12_note, cX12_note, 2, none, 0, 0)
abbrev MX12_setHole : MD := (yX12_setHole, cX12_setHole, 3, (some .int), 2, 43)
abbrev MX12_isCell : MD := (yX12_isCell, cX12_isCell, 2, (some .boolean), 1, 22)
abbrev MX12_cells : MD := (yX12_cells, cX12_cells, 1, (some .int), 0, 0)
abbrev MX12_isOpen : MD := (yX12_isOpen, cX12_isOpen, 2, (some .boolean), 0, 0)
abbrev MX12_opens : MD := (yX12_opens, cX12_opens, 3, (some .int), 1, 21)
abbrev MX12_setColour : MD := (yX12_setColour, cX12_setColour, 4, (some .int), 2, 43)
abbrev MX12_addPiece : MD := (yX12_addPiece, cX12_addPiece, 4, (some .int), 2, 46)
abbrev MX12_isShape : MD := (yX12_isShape, cX12_isShape, 3, (some .boolean), 1, 22)
abbrev MX12_squares : MD := (yX12_squares, cX12_squares, 3, (some .int), 0, 0)
abbrev MX12_grown : MD := (yX12_grown, cX12_grown, 3, (some .int), 0, 0)
abbrev MX12_adds : MD := (yX12_adds, cX12_adds, 6, none, 1, 21)
abbrev MX12_normal : MD := (yX12_normal, cX12_normal, 2, (some .int), 0, 0)
abbrev MX12_removePiece : MD := (yX12_removePiece, cX12_removePiece, 3, (some .int), 2, 43)
abbrev MX12_isPiece : MD := (yX12_isPiece, cX12_isPiece, 2, (some .boolean), 1, 22)
abbrev MX12_setCopies : MD := (yX12_setCopies, cX12_setCopies, 3, (some .int), 2, 45)
abbrev MX12_sets : MD := (yX12_sets, cX12_sets, 5, (some .int), 1, 21)
abbrev MX12_setMode : MD := (yX12_setMode, cX12_setMode, 2, (some .int), 2, 45)
abbrev MX12_setRule : MD := (yX12_setRule, cX12_setRule, 2, (some .int), 2, 45)
abbrev MX12_count : MD := (yX12_count, cX12_count, 4, (some .int), 4, 95)
abbrev MX12_its : MD := (yX12_its, cX12_its, 3, (some .int), 0, 0)
abbrev MX12_findsPlacements : MD := (yX12_findsPlacements, cX12_findsPlacements, 6, none, 3, 70)
abbrev MX12_findsForms : MD := (yX12_findsForms, cX12_findsForms, 5, none, 2, 46)
abbrev MX12_addsForm : MD := (yX12_addsForm, cX12_addsForm, 4, none, 0, 0)
abbrev MX12_changed : MD := (yX12_changed, cX12_changed, 6, (some .int), 1, 21)
abbrev MX12_cellsOf : MD := (yX12_cellsOf, cX12_cellsOf, 11, (some .long), 1, 21)
abbrev MX12_lowest : MD := (yX12_lowest, cX12_lowest, 3, (some .int), 0, 0)
abbrev MX12_isSymmetry : MD := (yX12_isSymmetry, cX12_isSymmetry, 4, (some .boolean), 1, 24)
abbrev MX12_image : MD := (yX12_image, cX12_image, 5, (some .int), 0, 0)
abbrev MX12_colour : MD := (yX12_colour, cX12_colour, 2, (some .int), 2, 43)
abbrev MX12_piece : MD := (yX12_piece, cX12_piece, 4, (some .int), 5, 118)
abbrev MX12_placementsOf : MD := (yX12_placementsOf, cX12_placementsOf, 4, (some .int), 4, 95)
abbrev MX12_form : MD := (yX12_form, cX12_form, 3, (some .int), 3, 70)
abbrev MX12_placement : MD := (yX12_placement, cX12_placement, 5, (some .int), 4, 95)
abbrev MX12_has : MD := (yX12_has, cX12_has, 3, (some .boolean), 0, 0)
abbrev MX12_appendCharacter : MD := (yX12_appendCharacter, cX12_appendCharacter, 2, (some .int), 1, 22)
abbrev MX12_clearText : MD := (yX12_clearText, cX12_clearText, 2, (some .int), 0, 0)
abbrev MX12_load : MD := (yX12_load, cX12_load, 3, (some .int), 4, 93)
abbrev MX12_readsRows : MD := (yX12_readsRows, cX12_readsRows, 8, none, 2, 46)
abbrev MX12_here : MD := (yX12_here, cX12_here, 1, (some .int), 0, 0)
abbrev MX12_isInRow : MD := (yX12_isInRow, cX12_isInRow, 5, (some .boolean), 1, 22)
abbrev MX12_isPart : MD := (yX12_isPart, cX12_isPart, 2, (some .boolean), 1, 22)
abbrev MX12_readsPiece : MD := (yX12_readsPiece, cX12_readsPiece, 1, none, 3, 73)
abbrev MX12_readsOption : MD := (yX12_readsOption, cX12_readsOption, 3, none, 1, 22)
abbrev MX12_exchanges : MD := (yX12_exchanges, cX12_exchanges, 3, none, 0, 0)
abbrev MX12_covers : MD := (yX12_covers, cX12_covers, 1, (some .int), 6, 136)
abbrev MX12_searches : MD := (yX12_searches, cX12_searches, 1, none, 5, 116)
abbrev MX12_begins : MD := (yX12_begins, cX12_begins, 2, none, 4, 95)
abbrev MX12_goesOn : MD := (yX12_goesOn, cX12_goesOn, 5, (some .boolean), 3, 69)
abbrev MX12_all : MD := (yX12_all, cX12_all, 4, (some .long), 1, 21)
abbrev MX12_goesBack : MD := (yX12_goesBack, cX12_goesBack, 1, none, 2, 44)
abbrev MX12_turns : MD := (yX12_turns, cX12_turns, 3, none, 1, 22)
abbrev MX12_isCover : MD := (yX12_isCover, cX12_isCover, 3, (some .boolean), 0, 0)
abbrev MX12_fits : MD := (yX12_fits, cX12_fits, 4, (some .boolean), 2, 46)
abbrev MX12_beside : MD := (yX12_beside, cX12_beside, 7, (some .long), 1, 20)
abbrev MX12_tries : MD := (yX12_tries, cX12_tries, 1, (some .int), 6, 136)
abbrev MX12_coverAt : MD := (yX12_coverAt, cX12_coverAt, 5, (some .int), 6, 138)
abbrev MX12_seeks : MD := (yX12_seeks, cX12_seeks, 3, (some .int), 5, 116)
abbrev MX12_used : MD := (yX12_used, cX12_used, 4, (some .int), 6, 138)
abbrev MX12_fewest : MD := (yX12_fewest, cX12_fewest, 1, (some .int), 6, 136)
abbrev MX12_classes : MD := (yX12_classes, cX12_classes, 4, (some .int), 6, 136)
abbrev MX12_labelsAll : MD := (yX12_labelsAll, cX12_labelsAll, 3, none, 2, 51)
abbrev MX12_labels : MD := (yX12_labels, cX12_labels, 8, none, 1, 24)
abbrev MX12_areAlike : MD := (yX12_areAlike, cX12_areAlike, 7, (some .boolean), 2, 47)
abbrev MX12_alike : MD := (yX12_alike, cX12_alike, 4, (some .int), 6, 138)
abbrev MX12_useful : MD := (yX12_useful, cX12_useful, 4, (some .int), 5, 117)
abbrev MX12_strikes : MD := (yX12_strikes, cX12_strikes, 3, none, 4, 95)
abbrev MX12_isUseless : MD := (yX12_isUseless, cX12_isUseless, 6, (some .boolean), 1, 22)
abbrev MX12_usefulAt : MD := (yX12_usefulAt, cX12_usefulAt, 4, (some .int), 5, 117)
abbrev MX12_proves : MD := (yX12_proves, cX12_proves, 4, (some .int), 4, 103)
abbrev MX12_isProof : MD := (yX12_isProof, cX12_isProof, 11, (some .boolean), 3, 73)
abbrev MX12_weights : MD := (yX12_weights, cX12_weights, 7, (some .int), 2, 47)
abbrev MX12_weight : MD := (yX12_weight, cX12_weight, 8, (some .int), 1, 20)
abbrev MX12_proof : MD := (yX12_proof, cX12_proof, 4, (some .int), 4, 103)
theorem ok_MX11_init : mOK MX11_init 0 := ⟨gt_at (i := 103) (by decide +kernel) (by decide +kernel), gt_at (i := 83) (by decide +kernel) (by decide +kernel), by decide +kernel, by decide +kernel, by decide +kernel, by decide +kernel⟩
theorem ok_MX4_init : mOK MX4_init 0 := ⟨gt_at (i := 111) (by decide +kernel) (by decide +kernel), gt_at (i := 84) (by decide +kernel) (by decide +kernel), by decide +kernel, by decide +kernel, by decide +kernel, by decide +kernel⟩
theorem ok_MX2_init : mOK MX2_init 0 := ⟨gt_at (i := 171) (by decide +kernel) (by decide +kernel), gt_at (i := 85) (by decide +kernel) (by decide +kernel), by decide +kernel, by decide +kernel, by decide +kernel, by decide +kernel⟩
theorem ok_MX5_init : mOK MX5_init 0 := ⟨gt_at (i := 191) (by decide +kernel) (by decide +kernel), gt_at (i := 86) (by decide +kernel) (by decide +kernel), by decide +kernel, by decide +kernel, by decide +kernel, by decide +kernel⟩
theorem ok_MX1_init : mOK MX1_init 0 := ⟨gt_at (i := 222) (by decide +kernel) (by decide +kernel), gt_at (i := 87) (by decide +kernel) (by decide +kernel), by decide +kernel, by decide +kernel, by decide +kernel, by decide +kernel⟩
theorem ok_MX3_init : mOK MX3_init 0 := ⟨gt_at (i := 235) (by decide +kernel) (by decide +kernel), gt_at (i := 88) (by decide +kernel) (by decide +kernel), by decide +kernel, by decide +kernel, by decide +kernel, by decide +kernel⟩
theorem ok_MX8_init : mOK MX8_init 0 := ⟨gt_at (i := 269) (by decide +kernel) (by decide +kernel), gt_at (i := 89) (by decide +kernel) (by decide +kernel), by decide +kernel, by decide +kernel, by decide +kernel, by decide +kernel⟩
theorem ok_MX9_init : mOK MX9_init 2 := ⟨gt_at (i := 284) (by decide +kernel) (by decide +kernel), gt_at (i := 90) (by decide +kernel) (by decide +kernel), by decide +kernel, by decide +kernel, by decide +kernel, by decide +kernel⟩
theorem ok_MX0_init : mOK MX0_init 3 := ⟨gt_at (i := 344) (by decide +kernel) (by decide +kernel), gt_at (i := 91) (by decide +kernel) (by decide +kernel), by decide +kernel, by decide +kernel, by decide +kernel, by decide +kernel⟩
theorem ok_MX7_init : mOK MX7_init 0 := ⟨gt_at (i := 379) (by decide +kernel) (by decide +kernel), gt_at (i := 92) (by decide +kernel) (by decide +kernel), by decide +kernel, by decide +kernel, by decide +kernel, by decide +kernel⟩
theorem ok_MX10_init : mOK MX10_init 0 := ⟨gt_at (i := 390) (by decide +kernel) (by decide +kernel), gt_at (i := 93) (by decide +kernel) (by decide +kernel), by decide +kernel, by decide +kernel, by decide +kernel, by decide +kernel⟩
theorem ok_MX11_setBoard : mOK MX11_setBoard 2 := ⟨gt_at (i := 445) (by decide +kernel) (by decide +kernel), gt_at (i := 83) (by decide +kernel) (by decide +kernel), by decide +kernel, by decide +kernel, by decide +kernel, by decide +kernel⟩
theorem ok_MX11_isWithin : mOK MX11_isWithin 3 := ⟨gt_at (i := 448) (by decide +kernel) (by decide +kernel), gt_at (i := 83) (by decide +kernel) (by decide +kernel), by decide +kernel, by decide +kernel, by decide +kernel, by decide +kernel⟩
theorem ok_MX11_prepareChange : mOK MX11_prepareChange 0 := ⟨gt_at (i := 452) (by decide +kernel) (by decide +kernel), gt_at (i := 83) (by decide +kernel) (by decide +kernel), by decide +kernel, by decide +kernel, by decide +kernel, by decide +kernel⟩
theorem ok_MX2_save : mOK MX2_save 1 := ⟨gt_at (i := 456) (by decide +kernel) (by decide +kernel), gt_at (i := 85) (by decide +kernel) (by decide +kernel), by decide +kernel, by decide +kernel, by decide +kernel, by decide +kernel⟩
theorem ok_MX2_slotAfterOldest : mOK MX2_slotAfterOldest 1 := ⟨gt_at (i := 460) (by decide +kernel) (by decide +kernel), gt_at (i := 85) (by decide +kernel) (by decide +kernel), by decide +kernel, by decide +kernel, by decide +kernel, by decide +kernel⟩
theorem ok_MX4_copyFrom : mOK MX4_copyFrom 1 := ⟨gt_at (i := 464) (by decide +kernel) (by decide +kernel), gt_at (i := 84) (by decide +kernel) (by decide +kernel), by decide +kernel, by decide +kernel, by decide +kernel, by decide +kernel⟩
theorem ok_MX4_copyPiece : mOK MX4_copyPiece 3 := ⟨gt_at (i := 468) (by decide +kernel) (by decide +kernel), gt_at (i := 84) (by decide +kernel) (by decide +kernel), by decide +kernel, by decide +kernel, by decide +kernel, by decide +kernel⟩
theorem ok_MX4_shapeOf : mOK MX4_shapeOf 1 := ⟨gt_at (i := 472) (by decide +kernel) (by decide +kernel), gt_at (i := 84) (by decide +kernel) (by decide +kernel), by decide +kernel, by decide +kernel, by decide +kernel, by decide +kernel⟩
theorem ok_MX11_at : mOK MX11_at 2 := ⟨gt_at (i := 475) (by decide +kernel) (by decide +kernel), gt_at (i := 83) (by decide +kernel) (by decide +kernel), by decide +kernel, by decide +kernel, by decide +kernel, by decide +kernel⟩
theorem ok_MX11_put : mOK MX11_put 3 := ⟨gt_at (i := 478) (by decide +kernel) (by decide +kernel), gt_at (i := 83) (by decide +kernel) (by decide +kernel), by decide +kernel, by decide +kernel, by decide +kernel, by decide +kernel⟩
theorem ok_MX4_freedomOf : mOK MX4_freedomOf 1 := ⟨gt_at (i := 482) (by decide +kernel) (by decide +kernel), gt_at (i := 84) (by decide +kernel) (by decide +kernel), by decide +kernel, by decide +kernel, by decide +kernel, by decide +kernel⟩
theorem ok_MX4_colourOf : mOK MX4_colourOf 1 := ⟨gt_at (i := 486) (by decide +kernel) (by decide +kernel), gt_at (i := 84) (by decide +kernel) (by decide +kernel), by decide +kernel, by decide +kernel, by decide +kernel, by decide +kernel⟩
theorem ok_MX4_copiesOf : mOK MX4_copiesOf 1 := ⟨gt_at (i := 490) (by decide +kernel) (by decide +kernel), gt_at (i := 84) (by decide +kernel) (by decide +kernel), by decide +kernel, by decide +kernel, by decide +kernel, by decide +kernel⟩
theorem ok_MX11_forgetDerived : mOK MX11_forgetDerived 0 := ⟨gt_at (i := 494) (by decide +kernel) (by decide +kernel), gt_at (i := 83) (by decide +kernel) (by decide +kernel), by decide +kernel, by decide +kernel, by decide +kernel, by decide +kernel⟩
theorem ok_MX4_makeBoard : mOK MX4_makeBoard 2 := ⟨gt_at (i := 498) (by decide +kernel) (by decide +kernel), gt_at (i := 84) (by decide +kernel) (by decide +kernel), by decide +kernel, by decide +kernel, by decide +kernel, by decide +kernel⟩
theorem ok_MX4_cellCount : mOK MX4_cellCount 0 := ⟨gt_at (i := 502) (by decide +kernel) (by decide +kernel), gt_at (i := 84) (by decide +kernel) (by decide +kernel), by decide +kernel, by decide +kernel, by decide +kernel, by decide +kernel⟩
theorem ok_MX11_setHole : mOK MX11_setHole 2 := ⟨gt_at (i := 506) (by decide +kernel) (by decide +kernel), gt_at (i := 83) (by decide +kernel) (by decide +kernel), by decide +kernel, by decide +kernel, by decide +kernel, by decide +kernel⟩
theorem ok_MX4_hasCell : mOK MX4_hasCell 1 := ⟨gt_at (i := 510) (by decide +kernel) (by decide +kernel), gt_at (i := 84) (by decide +kernel) (by decide +kernel), by decide +kernel, by decide +kernel, by decide +kernel, by decide +kernel⟩
theorem ok_MX4_isHole : mOK MX4_isHole 1 := ⟨gt_at (i := 515) (by decide +kernel) (by decide +kernel), gt_at (i := 84) (by decide +kernel) (by decide +kernel), by decide +kernel, by decide +kernel, by decide +kernel, by decide +kernel⟩
theorem ok_MX4_cellAt : mOK MX4_cellAt 1 := ⟨gt_at (i := 519) (by decide +kernel) (by decide +kernel), gt_at (i := 84) (by decide +kernel) (by decide +kernel), by decide +kernel, by decide +kernel, by decide +kernel, by decide +kernel⟩
theorem ok_MX4_putCell : mOK MX4_putCell 2 := ⟨gt_at (i := 523) (by decide +kernel) (by decide +kernel), gt_at (i := 84) (by decide +kernel) (by decide +kernel), by decide +kernel, by decide +kernel, by decide +kernel, by decide +kernel⟩
theorem ok_MX4_openCount : mOK MX4_openCount 0 := ⟨gt_at (i := 527) (by decide +kernel) (by decide +kernel), gt_at (i := 84) (by decide +kernel) (by decide +kernel), by decide +kernel, by decide +kernel, by decide +kernel, by decide +kernel⟩
theorem ok_MX4_openMask : mOK MX4_openMask 0 := ⟨gt_at (i := 531) (by decide +kernel) (by decide +kernel), gt_at (i := 84) (by decide +kernel) (by decide +kernel), by decide +kernel, by decide +kernel, by decide +kernel, by decide +kernel⟩
theorem ok_MJ13_bitCount_95d88 : mOK MJ13_bitCount_95d88 1 := ⟨gt_at (i := 535) (by decide +kernel) (by decide +kernel), gt_at (i := 95) (by decide +kernel) (by decide +kernel), by decide +kernel, by decide +kernel, by decide +kernel, by decide +kernel⟩
theorem ok_MX11_setColour : mOK MX11_setColour 2 := ⟨gt_at (i := 542) (by decide +kernel) (by decide +kernel), gt_at (i := 83) (by decide +kernel) (by decide +kernel), by decide +kernel, by decide +kernel, by decide +kernel, by decide +kernel⟩
theorem ok_MX11_addPiece : mOK MX11_addPiece 3 := ⟨gt_at (i := 547) (by decide +kernel) (by decide +kernel), gt_at (i := 83) (by decide +kernel) (by decide +kernel), by decide +kernel, by decide +kernel, by decide +kernel, by decide +kernel⟩
theorem ok_MX6_isShape : mOK MX6_isShape 1 := ⟨gt_at (i := 550) (by decide +kernel) (by decide +kernel), gt_at (i := 96) (by decide +kernel) (by decide +kernel), by decide +kernel, by decide +kernel, by decide +kernel, by decide +kernel⟩
theorem ok_MJ6_bitCount_0f7a4 : mOK MJ6_bitCount_0f7a4 1 := ⟨gt_at (i := 554) (by decide +kernel) (by decide +kernel), gt_at (i := 97) (by decide +kernel) (by decide +kernel), by decide +kernel, by decide +kernel, by decide +kernel, by decide +kernel⟩
theorem ok_MX6_hangsTogether : mOK MX6_hangsTogether 1 := ⟨gt_at (i := 560) (by decide +kernel) (by decide +kernel), gt_at (i := 96) (by decide +kernel) (by decide +kernel), by decide +kernel, by decide +kernel, by decide +kernel, by decide +kernel⟩
theorem ok_MX6_normalize : mOK MX6_normalize 1 := ⟨gt_at (i := 564) (by decide +kernel) (by decide +kernel), gt_at (i := 96) (by decide +kernel) (by decide +kernel), by decide +kernel, by decide +kernel, by decide +kernel, by decide +kernel⟩
theorem ok_MX4_append : mOK MX4_append 4 := ⟨gt_at (i := 568) (by decide +kernel) (by decide +kernel), gt_at (i := 84) (by decide +kernel) (by decide +kernel), by decide +kernel, by decide +kernel, by decide +kernel, by decide +kernel⟩
theorem ok_MX11_removePiece : mOK MX11_removePiece 1 := ⟨gt_at (i := 572) (by decide +kernel) (by decide +kernel), gt_at (i := 83) (by decide +kernel) (by decide +kernel), by decide +kernel, by decide +kernel, by decide +kernel, by decide +kernel⟩
theorem ok_MX4_hasPiece : mOK MX4_hasPiece 1 := ⟨gt_at (i := 576) (by decide +kernel) (by decide +kernel), gt_at (i := 84) (by decide +kernel) (by decide +kernel), by decide +kernel, by decide +kernel, by decide +kernel, by decide +kernel⟩
theorem ok_MX4_dropPiece : mOK MX4_dropPiece 1 := ⟨gt_at (i := 580) (by decide +kernel) (by decide +kernel), gt_at (i := 84) (by decide +kernel) (by decide +kernel), by decide +kernel, by decide +kernel, by decide +kernel, by decide +kernel⟩
theorem ok_MX11_setCopies : mOK MX11_setCopies 2 := ⟨gt_at (i := 584) (by decide +kernel) (by decide +kernel), gt_at (i := 83) (by decide +kernel) (by decide +kernel), by decide +kernel, by decide +kernel, by decide +kernel, by decide +kernel⟩
theorem ok_MX11_setMode : mOK MX11_setMode 1 := ⟨gt_at (i := 590) (by decide +kernel) (by decide +kernel), gt_at (i := 83) (by decide +kernel) (by decide +kernel), by decide +kernel, by decide +kernel, by decide +kernel, by decide +kernel⟩
theorem ok_MX11_setRule : mOK MX11_setRule 1 := ⟨gt_at (i := 594) (by decide +kernel) (by decide +kernel), gt_at (i := 83) (by decide +kernel) (by decide +kernel), by decide +kernel, by decide +kernel, by decide +kernel, by decide +kernel⟩
theorem ok_MX11_count : mOK MX11_count 1 := ⟨gt_at (i := 598) (by decide +kernel) (by decide +kernel), gt_at (i := 83) (by decide +kernel) (by decide +kernel), by decide +kernel, by decide +kernel, by decide +kernel, by decide +kernel⟩
theorem ok_MX4_squareCount : mOK MX4_squareCount 0 := ⟨gt_at (i := 602) (by decide +kernel) (by decide +kernel), gt_at (i := 84) (by decide +kernel) (by decide +kernel), by decide +kernel, by decide +kernel, by decide +kernel, by decide +kernel⟩
theorem ok_MX11_placeAll : mOK MX11_placeAll 0 := ⟨gt_at (i := 607) (by decide +kernel) (by decide +kernel), gt_at (i := 83) (by decide +kernel) (by decide +kernel), by decide +kernel, by decide +kernel, by decide +kernel, by decide +kernel⟩
theorem ok_MX1_fill : mOK MX1_fill 1 := ⟨gt_at (i := 611) (by decide +kernel) (by decide +kernel), gt_at (i := 87) (by decide +kernel) (by decide +kernel), by decide +kernel, by decide +kernel, by decide +kernel, by decide +kernel⟩
theorem ok_MX1_insertTurns : mOK MX1_insertTurns 3 := ⟨gt_at (i := 619) (by decide +kernel) (by decide +kernel), gt_at (i := 87) (by decide +kernel) (by decide +kernel), by decide +kernel, by decide +kernel, by decide +kernel, by decide +kernel⟩
theorem ok_MX1_insert : mOK MX1_insert 2 := ⟨gt_at (i := 623) (by decide +kernel) (by decide +kernel), gt_at (i := 87) (by decide +kernel) (by decide +kernel), by decide +kernel, by decide +kernel, by decide +kernel, by decide +kernel⟩
theorem ok_MX1_sizeOf : mOK MX1_sizeOf 1 := ⟨gt_at (i := 627) (by decide +kernel) (by decide +kernel), gt_at (i := 87) (by decide +kernel) (by decide +kernel), by decide +kernel, by decide +kernel, by decide +kernel, by decide +kernel⟩
theorem ok_MX1_shapeOf : mOK MX1_shapeOf 2 := ⟨gt_at (i := 632) (by decide +kernel) (by decide +kernel), gt_at (i := 87) (by decide +kernel) (by decide +kernel), by decide +kernel, by decide +kernel, by decide +kernel, by decide +kernel⟩
theorem ok_MX6_turn : mOK MX6_turn 1 := ⟨gt_at (i := 635) (by decide +kernel) (by decide +kernel), gt_at (i := 96) (by decide +kernel) (by decide +kernel), by decide +kernel, by decide +kernel, by decide +kernel, by decide +kernel⟩
theorem ok_MX6_hasSquare : mOK MX6_hasSquare 2 := ⟨gt_at (i := 638) (by decide +kernel) (by decide +kernel), gt_at (i := 96) (by decide +kernel) (by decide +kernel), by decide +kernel, by decide +kernel, by decide +kernel, by decide +kernel⟩
theorem ok_MX6_mirror : mOK MX6_mirror 1 := ⟨gt_at (i := 642) (by decide +kernel) (by decide +kernel), gt_at (i := 96) (by decide +kernel) (by decide +kernel), by decide +kernel, by decide +kernel, by decide +kernel, by decide +kernel⟩
theorem ok_MX3_fill : mOK MX3_fill 2 := ⟨gt_at (i := 646) (by decide +kernel) (by decide +kernel), gt_at (i := 88) (by decide +kernel) (by decide +kernel), by decide +kernel, by decide +kernel, by decide +kernel, by decide +kernel⟩
theorem ok_MX3_fillForm : mOK MX3_fillForm 4 := ⟨gt_at (i := 653) (by decide +kernel) (by decide +kernel), gt_at (i := 88) (by decide +kernel) (by decide +kernel), by decide +kernel, by decide +kernel, by decide +kernel, by decide +kernel⟩
theorem ok_MX3_lay : mOK MX3_lay 4 := ⟨gt_at (i := 658) (by decide +kernel) (by decide +kernel), gt_at (i := 88) (by decide +kernel) (by decide +kernel), by decide +kernel, by decide +kernel, by decide +kernel, by decide +kernel⟩
theorem ok_MX4_columnOf : mOK MX4_columnOf 1 := ⟨gt_at (i := 662) (by decide +kernel) (by decide +kernel), gt_at (i := 84) (by decide +kernel) (by decide +kernel), by decide +kernel, by decide +kernel, by decide +kernel, by decide +kernel⟩
theorem ok_MX4_rowOf : mOK MX4_rowOf 1 := ⟨gt_at (i := 666) (by decide +kernel) (by decide +kernel), gt_at (i := 84) (by decide +kernel) (by decide +kernel), by decide +kernel, by decide +kernel, by decide +kernel, by decide +kernel⟩
theorem ok_MX4_takesColour : mOK MX4_takesColour 2 := ⟨gt_at (i := 671) (by decide +kernel) (by decide +kernel), gt_at (i := 84) (by decide +kernel) (by decide +kernel), by decide +kernel, by decide +kernel, by decide +kernel, by decide +kernel⟩
theorem ok_MX3_fillOrder : mOK MX3_fillOrder 0 := ⟨gt_at (i := 675) (by decide +kernel) (by decide +kernel), gt_at (i := 88) (by decide +kernel) (by decide +kernel), by decide +kernel, by decide +kernel, by decide +kernel, by decide +kernel⟩
theorem ok_MX3_maskOf : mOK MX3_maskOf 1 := ⟨gt_at (i := 679) (by decide +kernel) (by decide +kernel), gt_at (i := 88) (by decide +kernel) (by decide +kernel), by decide +kernel, by decide +kernel, by decide +kernel, by decide +kernel⟩
theorem ok_MX11_smallestCell : mOK MX11_smallestCell 1 := ⟨gt_at (i := 682) (by decide +kernel) (by decide +kernel), gt_at (i := 83) (by decide +kernel) (by decide +kernel), by decide +kernel, by decide +kernel, by decide +kernel, by decide +kernel⟩
theorem ok_MX8_fill : mOK MX8_fill 1 := ⟨gt_at (i := 689) (by decide +kernel) (by decide +kernel), gt_at (i := 89) (by decide +kernel) (by decide +kernel), by decide +kernel, by decide +kernel, by decide +kernel, by decide +kernel⟩
theorem ok_MX8_fillNext : mOK MX8_fillNext 2 := ⟨gt_at (i := 693) (by decide +kernel) (by decide +kernel), gt_at (i := 89) (by decide +kernel) (by decide +kernel), by decide +kernel, by decide +kernel, by decide +kernel, by decide +kernel⟩
theorem ok_MX8_mapCell : mOK MX8_mapCell 3 := ⟨gt_at (i := 697) (by decide +kernel) (by decide +kernel), gt_at (i := 89) (by decide +kernel) (by decide +kernel), by decide +kernel, by decide +kernel, by decide +kernel, by decide +kernel⟩
theorem ok_MX11_colour : mOK MX11_colour 1 := ⟨gt_at (i := 705) (by decide +kernel) (by decide +kernel), gt_at (i := 83) (by decide +kernel) (by decide +kernel), by decide +kernel, by decide +kernel, by decide +kernel, by decide +kernel⟩
theorem ok_MX11_piece : mOK MX11_piece 2 := ⟨gt_at (i := 709) (by decide +kernel) (by decide +kernel), gt_at (i := 83) (by decide +kernel) (by decide +kernel), by decide +kernel, by decide +kernel, by decide +kernel, by decide +kernel⟩
theorem ok_MX3_sizeOf : mOK MX3_sizeOf 1 := ⟨gt_at (i := 718) (by decide +kernel) (by decide +kernel), gt_at (i := 88) (by decide +kernel) (by decide +kernel), by decide +kernel, by decide +kernel, by decide +kernel, by decide +kernel⟩
theorem ok_MX3_pieceOf : mOK MX3_pieceOf 1 := ⟨gt_at (i := 722) (by decide +kernel) (by decide +kernel), gt_at (i := 88) (by decide +kernel) (by decide +kernel), by decide +kernel, by decide +kernel, by decide +kernel, by decide +kernel⟩
theorem ok_MX11_form : mOK MX11_form 2 := ⟨gt_at (i := 726) (by decide +kernel) (by decide +kernel), gt_at (i := 83) (by decide +kernel) (by decide +kernel), by decide +kernel, by decide +kernel, by decide +kernel, by decide +kernel⟩
theorem ok_MX11_placement : mOK MX11_placement 2 := ⟨gt_at (i := 731) (by decide +kernel) (by decide +kernel), gt_at (i := 83) (by decide +kernel) (by decide +kernel), by decide +kernel, by decide +kernel, by decide +kernel, by decide +kernel⟩
theorem ok_MX3_formOf : mOK MX3_formOf 1 := ⟨gt_at (i := 736) (by decide +kernel) (by decide +kernel), gt_at (i := 88) (by decide +kernel) (by decide +kernel), by decide +kernel, by decide +kernel, by decide +kernel, by decide +kernel⟩
theorem ok_MX3_cornerOf : mOK MX3_cornerOf 1 := ⟨gt_at (i := 740) (by decide +kernel) (by decide +kernel), gt_at (i := 88) (by decide +kernel) (by decide +kernel), by decide +kernel, by decide +kernel, by decide +kernel, by decide +kernel⟩
theorem ok_MX11_greatestCell : mOK MX11_greatestCell 1 := ⟨gt_at (i := 745) (by decide +kernel) (by decide +kernel), gt_at (i := 83) (by decide +kernel) (by decide +kernel), by decide +kernel, by decide +kernel, by decide +kernel, by decide +kernel⟩
theorem ok_MX11_holds : mOK MX11_holds 2 := ⟨gt_at (i := 748) (by decide +kernel) (by decide +kernel), gt_at (i := 83) (by decide +kernel) (by decide +kernel), by decide +kernel, by decide +kernel, by decide +kernel, by decide +kernel⟩
theorem ok_MX11_appendCharacter : mOK MX11_appendCharacter 1 := ⟨gt_at (i := 752) (by decide +kernel) (by decide +kernel), gt_at (i := 83) (by decide +kernel) (by decide +kernel), by decide +kernel, by decide +kernel, by decide +kernel, by decide +kernel⟩
theorem ok_MX5_append : mOK MX5_append 1 := ⟨gt_at (i := 756) (by decide +kernel) (by decide +kernel), gt_at (i := 86) (by decide +kernel) (by decide +kernel), by decide +kernel, by decide +kernel, by decide +kernel, by decide +kernel⟩
theorem ok_MX11_clearText : mOK MX11_clearText 0 := ⟨gt_at (i := 760) (by decide +kernel) (by decide +kernel), gt_at (i := 83) (by decide +kernel) (by decide +kernel), by decide +kernel, by decide +kernel, by decide +kernel, by decide +kernel⟩
theorem ok_MX11_load : mOK MX11_load 0 := ⟨gt_at (i := 764) (by decide +kernel) (by decide +kernel), gt_at (i := 83) (by decide +kernel) (by decide +kernel), by decide +kernel, by decide +kernel, by decide +kernel, by decide +kernel⟩
theorem ok_MX5_read : mOK MX5_read 0 := ⟨gt_at (i := 768) (by decide +kernel) (by decide +kernel), gt_at (i := 86) (by decide +kernel) (by decide +kernel), by decide +kernel, by decide +kernel, by decide +kernel, by decide +kernel⟩
theorem ok_MX5_readBoard : mOK MX5_readBoard 0 := ⟨gt_at (i := 772) (by decide +kernel) (by decide +kernel), gt_at (i := 86) (by decide +kernel) (by decide +kernel), by decide +kernel, by decide +kernel, by decide +kernel, by decide +kernel⟩
theorem ok_MX5_readRows : mOK MX5_readRows 2 := ⟨gt_at (i := 776) (by decide +kernel) (by decide +kernel), gt_at (i := 86) (by decide +kernel) (by decide +kernel), by decide +kernel, by decide +kernel, by decide +kernel, by decide +kernel⟩
theorem ok_MX5_readRow : mOK MX5_readRow 2 := ⟨gt_at (i := 780) (by decide +kernel) (by decide +kernel), gt_at (i := 86) (by decide +kernel) (by decide +kernel), by decide +kernel, by decide +kernel, by decide +kernel, by decide +kernel⟩
theorem ok_MX5_readCell : mOK MX5_readCell 2 := ⟨gt_at (i := 784) (by decide +kernel) (by decide +kernel), gt_at (i := 86) (by decide +kernel) (by decide +kernel), by decide +kernel, by decide +kernel, by decide +kernel, by decide +kernel⟩
theorem ok_MX5_look : mOK MX5_look 0 := ⟨gt_at (i := 788) (by decide +kernel) (by decide +kernel), gt_at (i := 86) (by decide +kernel) (by decide +kernel), by decide +kernel, by decide +kernel, by decide +kernel, by decide +kernel⟩
theorem ok_MX5_readSquare : mOK MX5_readSquare 2 := ⟨gt_at (i := 794) (by decide +kernel) (by decide +kernel), gt_at (i := 86) (by decide +kernel) (by decide +kernel), by decide +kernel, by decide +kernel, by decide +kernel, by decide +kernel⟩
theorem ok_MX5_readPiece : mOK MX5_readPiece 0 := ⟨gt_at (i := 798) (by decide +kernel) (by decide +kernel), gt_at (i := 86) (by decide +kernel) (by decide +kernel), by decide +kernel, by decide +kernel, by decide +kernel, by decide +kernel⟩
theorem ok_MX5_readOptions : mOK MX5_readOptions 0 := ⟨gt_at (i := 803) (by decide +kernel) (by decide +kernel), gt_at (i := 86) (by decide +kernel) (by decide +kernel), by decide +kernel, by decide +kernel, by decide +kernel, by decide +kernel⟩
theorem ok_MX5_readDigit : mOK MX5_readDigit 1 := ⟨gt_at (i := 807) (by decide +kernel) (by decide +kernel), gt_at (i := 86) (by decide +kernel) (by decide +kernel), by decide +kernel, by decide +kernel, by decide +kernel, by decide +kernel⟩
theorem ok_MX5_handOver : mOK MX5_handOver 1 := ⟨gt_at (i := 816) (by decide +kernel) (by decide +kernel), gt_at (i := 86) (by decide +kernel) (by decide +kernel), by decide +kernel, by decide +kernel, by decide +kernel, by decide +kernel⟩
theorem ok_MX11_covers : mOK MX11_covers 0 := ⟨gt_at (i := 821) (by decide +kernel) (by decide +kernel), gt_at (i := 83) (by decide +kernel) (by decide +kernel), by decide +kernel, by decide +kernel, by decide +kernel, by decide +kernel⟩
theorem ok_MX11_searchAll : mOK MX11_searchAll 0 := ⟨gt_at (i := 825) (by decide +kernel) (by decide +kernel), gt_at (i := 83) (by decide +kernel) (by decide +kernel), by decide +kernel, by decide +kernel, by decide +kernel, by decide +kernel⟩
theorem ok_MX0_collect : mOK MX0_collect 0 := ⟨gt_at (i := 829) (by decide +kernel) (by decide +kernel), gt_at (i := 91) (by decide +kernel) (by decide +kernel), by decide +kernel, by decide +kernel, by decide +kernel, by decide +kernel⟩
theorem ok_MX9_begin : mOK MX9_begin 0 := ⟨gt_at (i := 833) (by decide +kernel) (by decide +kernel), gt_at (i := 90) (by decide +kernel) (by decide +kernel), by decide +kernel, by decide +kernel, by decide +kernel, by decide +kernel⟩
theorem ok_MX4_copyCount : mOK MX4_copyCount 0 := ⟨gt_at (i := 839) (by decide +kernel) (by decide +kernel), gt_at (i := 84) (by decide +kernel) (by decide +kernel), by decide +kernel, by decide +kernel, by decide +kernel, by decide +kernel⟩
theorem ok_MX9_openLevel : mOK MX9_openLevel 0 := ⟨gt_at (i := 843) (by decide +kernel) (by decide +kernel), gt_at (i := 90) (by decide +kernel) (by decide +kernel), by decide +kernel, by decide +kernel, by decide +kernel, by decide +kernel⟩
theorem ok_MX9_advance : mOK MX9_advance 0 := ⟨gt_at (i := 850) (by decide +kernel) (by decide +kernel), gt_at (i := 90) (by decide +kernel) (by decide +kernel), by decide +kernel, by decide +kernel, by decide +kernel, by decide +kernel⟩
theorem ok_MX9_isCover : mOK MX9_isCover 0 := ⟨gt_at (i := 855) (by decide +kernel) (by decide +kernel), gt_at (i := 90) (by decide +kernel) (by decide +kernel), by decide +kernel, by decide +kernel, by decide +kernel, by decide +kernel⟩
theorem ok_MX9_nextThatFits : mOK MX9_nextThatFits 0 := ⟨gt_at (i := 859) (by decide +kernel) (by decide +kernel), gt_at (i := 90) (by decide +kernel) (by decide +kernel), by decide +kernel, by decide +kernel, by decide +kernel, by decide +kernel⟩
theorem ok_MX9_isAllowed : mOK MX9_isAllowed 2 := ⟨gt_at (i := 865) (by decide +kernel) (by decide +kernel), gt_at (i := 90) (by decide +kernel) (by decide +kernel), by decide +kernel, by decide +kernel, by decide +kernel, by decide +kernel⟩
theorem ok_MX9_around : mOK MX9_around 1 := ⟨gt_at (i := 870) (by decide +kernel) (by decide +kernel), gt_at (i := 90) (by decide +kernel) (by decide +kernel), by decide +kernel, by decide +kernel, by decide +kernel, by decide +kernel⟩
theorem ok_MX9_stepBack : mOK MX9_stepBack 0 := ⟨gt_at (i := 874) (by decide +kernel) (by decide +kernel), gt_at (i := 90) (by decide +kernel) (by decide +kernel), by decide +kernel, by decide +kernel, by decide +kernel, by decide +kernel⟩
theorem ok_MX9_change : mOK MX9_change 2 := ⟨gt_at (i := 878) (by decide +kernel) (by decide +kernel), gt_at (i := 90) (by decide +kernel) (by decide +kernel), by decide +kernel, by decide +kernel, by decide +kernel, by decide +kernel⟩
theorem ok_MX9_stepOn : mOK MX9_stepOn 1 := ⟨gt_at (i := 882) (by decide +kernel) (by decide +kernel), gt_at (i := 90) (by decide +kernel) (by decide +kernel), by decide +kernel, by decide +kernel, by decide +kernel, by decide +kernel⟩
theorem ok_MX9_writeTo : mOK MX9_writeTo 2 := ⟨gt_at (i := 886) (by decide +kernel) (by decide +kernel), gt_at (i := 90) (by decide +kernel) (by decide +kernel), by decide +kernel, by decide +kernel, by decide +kernel, by decide +kernel⟩
theorem ok_MX11_tries : mOK MX11_tries 0 := ⟨gt_at (i := 894) (by decide +kernel) (by decide +kernel), gt_at (i := 83) (by decide +kernel) (by decide +kernel), by decide +kernel, by decide +kernel, by decide +kernel, by decide +kernel⟩
theorem ok_MX11_coverAt : mOK MX11_coverAt 2 := ⟨gt_at (i := 898) (by decide +kernel) (by decide +kernel), gt_at (i := 83) (by decide +kernel) (by decide +kernel), by decide +kernel, by decide +kernel, by decide +kernel, by decide +kernel⟩
theorem ok_MX11_whyNoCover : mOK MX11_whyNoCover 0 := ⟨gt_at (i := 902) (by decide +kernel) (by decide +kernel), gt_at (i := 83) (by decide +kernel) (by decide +kernel), by decide +kernel, by decide +kernel, by decide +kernel, by decide +kernel⟩
theorem ok_MX0_rowOf : mOK MX0_rowOf 2 := ⟨gt_at (i := 906) (by decide +kernel) (by decide +kernel), gt_at (i := 91) (by decide +kernel) (by decide +kernel), by decide +kernel, by decide +kernel, by decide +kernel, by decide +kernel⟩
theorem ok_MX0_placementAt : mOK MX0_placementAt 2 := ⟨gt_at (i := 910) (by decide +kernel) (by decide +kernel), gt_at (i := 91) (by decide +kernel) (by decide +kernel), by decide +kernel, by decide +kernel, by decide +kernel, by decide +kernel⟩
theorem ok_MX11_used : mOK MX11_used 2 := ⟨gt_at (i := 915) (by decide +kernel) (by decide +kernel), gt_at (i := 83) (by decide +kernel) (by decide +kernel), by decide +kernel, by decide +kernel, by decide +kernel, by decide +kernel⟩
theorem ok_MX0_usesOf : mOK MX0_usesOf 2 := ⟨gt_at (i := 919) (by decide +kernel) (by decide +kernel), gt_at (i := 91) (by decide +kernel) (by decide +kernel), by decide +kernel, by decide +kernel, by decide +kernel, by decide +kernel⟩
theorem ok_MX0_beginsAt : mOK MX0_beginsAt 2 := ⟨gt_at (i := 924) (by decide +kernel) (by decide +kernel), gt_at (i := 91) (by decide +kernel) (by decide +kernel), by decide +kernel, by decide +kernel, by decide +kernel, by decide +kernel⟩
theorem ok_MX11_classes : mOK MX11_classes 0 := ⟨gt_at (i := 931) (by decide +kernel) (by decide +kernel), gt_at (i := 83) (by decide +kernel) (by decide +kernel), by decide +kernel, by decide +kernel, by decide +kernel, by decide +kernel⟩
theorem ok_MX0_classCount : mOK MX0_classCount 0 := ⟨gt_at (i := 935) (by decide +kernel) (by decide +kernel), gt_at (i := 91) (by decide +kernel) (by decide +kernel), by decide +kernel, by decide +kernel, by decide +kernel, by decide +kernel⟩
theorem ok_MX0_isLikeEarlier : mOK MX0_isLikeEarlier 1 := ⟨gt_at (i := 939) (by decide +kernel) (by decide +kernel), gt_at (i := 91) (by decide +kernel) (by decide +kernel), by decide +kernel, by decide +kernel, by decide +kernel, by decide +kernel⟩
theorem ok_MX0_areAlike : mOK MX0_areAlike 2 := ⟨gt_at (i := 943) (by decide +kernel) (by decide +kernel), gt_at (i := 91) (by decide +kernel) (by decide +kernel), by decide +kernel, by decide +kernel, by decide +kernel, by decide +kernel⟩
theorem ok_MX0_isMapped : mOK MX0_isMapped 3 := ⟨gt_at (i := 947) (by decide +kernel) (by decide +kernel), gt_at (i := 91) (by decide +kernel) (by decide +kernel), by decide +kernel, by decide +kernel, by decide +kernel, by decide +kernel⟩
theorem ok_MX8_imageOf : mOK MX8_imageOf 2 := ⟨gt_at (i := 951) (by decide +kernel) (by decide +kernel), gt_at (i := 89) (by decide +kernel) (by decide +kernel), by decide +kernel, by decide +kernel, by decide +kernel, by decide +kernel⟩
theorem ok_MX11_alike : mOK MX11_alike 2 := ⟨gt_at (i := 956) (by decide +kernel) (by decide +kernel), gt_at (i := 83) (by decide +kernel) (by decide +kernel), by decide +kernel, by decide +kernel, by decide +kernel, by decide +kernel⟩
theorem ok_MX11_fewest : mOK MX11_fewest 0 := ⟨gt_at (i := 961) (by decide +kernel) (by decide +kernel), gt_at (i := 83) (by decide +kernel) (by decide +kernel), by decide +kernel, by decide +kernel, by decide +kernel, by decide +kernel⟩
theorem ok_MX11_useful : mOK MX11_useful 1 := ⟨gt_at (i := 965) (by decide +kernel) (by decide +kernel), gt_at (i := 83) (by decide +kernel) (by decide +kernel), by decide +kernel, by decide +kernel, by decide +kernel, by decide +kernel⟩
theorem ok_MX11_siftAll : mOK MX11_siftAll 0 := ⟨gt_at (i := 969) (by decide +kernel) (by decide +kernel), gt_at (i := 83) (by decide +kernel) (by decide +kernel), by decide +kernel, by decide +kernel, by decide +kernel, by decide +kernel⟩
theorem ok_MX7_sift : mOK MX7_sift 1 := ⟨gt_at (i := 973) (by decide +kernel) (by decide +kernel), gt_at (i := 92) (by decide +kernel) (by decide +kernel), by decide +kernel, by decide +kernel, by decide +kernel, by decide +kernel⟩
theorem ok_MX7_strikeSome : mOK MX7_strikeSome 1 := ⟨gt_at (i := 977) (by decide +kernel) (by decide +kernel), gt_at (i := 92) (by decide +kernel) (by decide +kernel), by decide +kernel, by decide +kernel, by decide +kernel, by decide +kernel⟩
theorem ok_MX7_limitOf : mOK MX7_limitOf 1 := ⟨gt_at (i := 981) (by decide +kernel) (by decide +kernel), gt_at (i := 92) (by decide +kernel) (by decide +kernel), by decide +kernel, by decide +kernel, by decide +kernel, by decide +kernel⟩
theorem ok_MX7_leavesAllCoverable : mOK MX7_leavesAllCoverable 2 := ⟨gt_at (i := 986) (by decide +kernel) (by decide +kernel), gt_at (i := 92) (by decide +kernel) (by decide +kernel), by decide +kernel, by decide +kernel, by decide +kernel, by decide +kernel⟩
theorem ok_MX7_leftOfPiece : mOK MX7_leftOfPiece 2 := ⟨gt_at (i := 991) (by decide +kernel) (by decide +kernel), gt_at (i := 92) (by decide +kernel) (by decide +kernel), by decide +kernel, by decide +kernel, by decide +kernel, by decide +kernel⟩
theorem ok_MX11_usefulAt : mOK MX11_usefulAt 1 := ⟨gt_at (i := 996) (by decide +kernel) (by decide +kernel), gt_at (i := 83) (by decide +kernel) (by decide +kernel), by decide +kernel, by decide +kernel, by decide +kernel, by decide +kernel⟩
theorem ok_MX7_leftAtCell : mOK MX7_leftAtCell 2 := ⟨gt_at (i := 1000) (by decide +kernel) (by decide +kernel), gt_at (i := 92) (by decide +kernel) (by decide +kernel), by decide +kernel, by decide +kernel, by decide +kernel, by decide +kernel⟩
theorem ok_MX11_proves : mOK MX11_proves 3 := ⟨gt_at (i := 1005) (by decide +kernel) (by decide +kernel), gt_at (i := 83) (by decide +kernel) (by decide +kernel), by decide +kernel, by decide +kernel, by decide +kernel, by decide +kernel⟩
theorem ok_MX10_excludeCover : mOK MX10_excludeCover 5 := ⟨gt_at (i := 1009) (by decide +kernel) (by decide +kernel), gt_at (i := 93) (by decide +kernel) (by decide +kernel), by decide +kernel, by decide +kernel, by decide +kernel, by decide +kernel⟩
theorem ok_MX10_weighCells : mOK MX10_weighCells 3 := ⟨gt_at (i := 1013) (by decide +kernel) (by decide +kernel), gt_at (i := 93) (by decide +kernel) (by decide +kernel), by decide +kernel, by decide +kernel, by decide +kernel, by decide +kernel⟩
theorem ok_MX10_rest : mOK MX10_rest 1 := ⟨gt_at (i := 1019) (by decide +kernel) (by decide +kernel), gt_at (i := 93) (by decide +kernel) (by decide +kernel), by decide +kernel, by decide +kernel, by decide +kernel, by decide +kernel⟩
theorem ok_MX10_weighPieces : mOK MX10_weighPieces 1 := ⟨gt_at (i := 1023) (by decide +kernel) (by decide +kernel), gt_at (i := 93) (by decide +kernel) (by decide +kernel), by decide +kernel, by decide +kernel, by decide +kernel, by decide +kernel⟩
theorem ok_MX10_weightOf : mOK MX10_weightOf 1 := ⟨gt_at (i := 1029) (by decide +kernel) (by decide +kernel), gt_at (i := 93) (by decide +kernel) (by decide +kernel), by decide +kernel, by decide +kernel, by decide +kernel, by decide +kernel⟩
theorem ok_MX10_addAll : mOK MX10_addAll 2 := ⟨gt_at (i := 1038) (by decide +kernel) (by decide +kernel), gt_at (i := 93) (by decide +kernel) (by decide +kernel), by decide +kernel, by decide +kernel, by decide +kernel, by decide +kernel⟩
theorem ok_MX11_proof : mOK MX11_proof 0 := ⟨gt_at (i := 1042) (by decide +kernel) (by decide +kernel), gt_at (i := 83) (by decide +kernel) (by decide +kernel), by decide +kernel, by decide +kernel, by decide +kernel, by decide +kernel⟩
theorem ok_MX11_undo : mOK MX11_undo 0 := ⟨gt_at (i := 1046) (by decide +kernel) (by decide +kernel), gt_at (i := 83) (by decide +kernel) (by decide +kernel), by decide +kernel, by decide +kernel, by decide +kernel, by decide +kernel⟩
theorem ok_MX2_restore : mOK MX2_restore 1 := ⟨gt_at (i := 1050) (by decide +kernel) (by decide +kernel), gt_at (i := 85) (by decide +kernel) (by decide +kernel), by decide +kernel, by decide +kernel, by decide +kernel, by decide +kernel⟩
theorem ok_MX12_init : mOK MX12_init 0 := ⟨gt_at (i := 1055) (by decide +kernel) (by decide +kernel), gt_at (i := 94) (by decide +kernel) (by decide +kernel), by decide +kernel, by decide +kernel, by decide +kernel, by decide +kernel⟩
theorem ok_MX12_undo : mOK MX12_undo 0 := ⟨gt_at (i := 1176) (by decide +kernel) (by decide +kernel), gt_at (i := 94) (by decide +kernel) (by decide +kernel), by decide +kernel, by decide +kernel, by decide +kernel, by decide +kernel⟩
theorem ok_MX12_setBoard : mOK MX12_setBoard 2 := ⟨gt_at (i := 1180) (by decide +kernel) (by decide +kernel), gt_at (i := 94) (by decide +kernel) (by decide +kernel), by decide +kernel, by decide +kernel, by decide +kernel, by decide +kernel⟩
theorem ok_MX12_in : mOK MX12_in 3 := ⟨gt_at (i := 1183) (by decide +kernel) (by decide +kernel), gt_at (i := 94) (by decide +kernel) (by decide +kernel), by decide +kernel, by decide +kernel, by decide +kernel, by decide +kernel⟩
theorem ok_MX12_note : mOK MX12_note 0 := ⟨gt_at (i := 1187) (by decide +kernel) (by decide +kernel), gt_at (i := 94) (by decide +kernel) (by decide +kernel), by decide +kernel, by decide +kernel, by decide +kernel, by decide +kernel⟩
theorem ok_MX12_setHole : mOK MX12_setHole 2 := ⟨gt_at (i := 1191) (by decide +kernel) (by decide +kernel), gt_at (i := 94) (by decide +kernel) (by decide +kernel), by decide +kernel, by decide +kernel, by decide +kernel, by decide +kernel⟩
theorem ok_MX12_isCell : mOK MX12_isCell 1 := ⟨gt_at (i := 1195) (by decide +kernel) (by decide +kernel), gt_at (i := 94) (by decide +kernel) (by decide +kernel), by decide +kernel, by decide +kernel, by decide +kernel, by decide +kernel⟩
theorem ok_MX12_cells : mOK MX12_cells 0 := ⟨gt_at (i := 1199) (by decide +kernel) (by decide +kernel), gt_at (i := 94) (by decide +kernel) (by decide +kernel), by decide +kernel, by decide +kernel, by decide +kernel, by decide +kernel⟩
theorem ok_MX12_isOpen : mOK MX12_isOpen 1 := ⟨gt_at (i := 1203) (by decide +kernel) (by decide +kernel), gt_at (i := 94) (by decide +kernel) (by decide +kernel), by decide +kernel, by decide +kernel, by decide +kernel, by decide +kernel⟩
theorem ok_MX12_opens : mOK MX12_opens 0 := ⟨gt_at (i := 1207) (by decide +kernel) (by decide +kernel), gt_at (i := 94) (by decide +kernel) (by decide +kernel), by decide +kernel, by decide +kernel, by decide +kernel, by decide +kernel⟩
theorem ok_MX12_setColour : mOK MX12_setColour 2 := ⟨gt_at (i := 1211) (by decide +kernel) (by decide +kernel), gt_at (i := 94) (by decide +kernel) (by decide +kernel), by decide +kernel, by decide +kernel, by decide +kernel, by decide +kernel⟩
theorem ok_MX12_addPiece : mOK MX12_addPiece 3 := ⟨gt_at (i := 1215) (by decide +kernel) (by decide +kernel), gt_at (i := 94) (by decide +kernel) (by decide +kernel), by decide +kernel, by decide +kernel, by decide +kernel, by decide +kernel⟩
theorem ok_MX12_isShape : mOK MX12_isShape 1 := ⟨gt_at (i := 1218) (by decide +kernel) (by decide +kernel), gt_at (i := 94) (by decide +kernel) (by decide +kernel), by decide +kernel, by decide +kernel, by decide +kernel, by decide +kernel⟩
theorem ok_MX12_squares : mOK MX12_squares 1 := ⟨gt_at (i := 1222) (by decide +kernel) (by decide +kernel), gt_at (i := 94) (by decide +kernel) (by decide +kernel), by decide +kernel, by decide +kernel, by decide +kernel, by decide +kernel⟩
theorem ok_MX12_grown : mOK MX12_grown 1 := ⟨gt_at (i := 1225) (by decide +kernel) (by decide +kernel), gt_at (i := 94) (by decide +kernel) (by decide +kernel), by decide +kernel, by decide +kernel, by decide +kernel, by decide +kernel⟩
theorem ok_MX12_adds : mOK MX12_adds 4 := ⟨gt_at (i := 1230) (by decide +kernel) (by decide +kernel), gt_at (i := 94) (by decide +kernel) (by decide +kernel), by decide +kernel, by decide +kernel, by decide +kernel, by decide +kernel⟩
theorem ok_MX12_normal : mOK MX12_normal 1 := ⟨gt_at (i := 1233) (by decide +kernel) (by decide +kernel), gt_at (i := 94) (by decide +kernel) (by decide +kernel), by decide +kernel, by decide +kernel, by decide +kernel, by decide +kernel⟩
theorem ok_MX12_removePiece : mOK MX12_removePiece 1 := ⟨gt_at (i := 1237) (by decide +kernel) (by decide +kernel), gt_at (i := 94) (by decide +kernel) (by decide +kernel), by decide +kernel, by decide +kernel, by decide +kernel, by decide +kernel⟩
theorem ok_MX12_isPiece : mOK MX12_isPiece 1 := ⟨gt_at (i := 1241) (by decide +kernel) (by decide +kernel), gt_at (i := 94) (by decide +kernel) (by decide +kernel), by decide +kernel, by decide +kernel, by decide +kernel, by decide +kernel⟩
theorem ok_MX12_setCopies : mOK MX12_setCopies 2 := ⟨gt_at (i := 1245) (by decide +kernel) (by decide +kernel), gt_at (i := 94) (by decide +kernel) (by decide +kernel), by decide +kernel, by decide +kernel, by decide +kernel, by decide +kernel⟩
theorem ok_MX12_sets : mOK MX12_sets 3 := ⟨gt_at (i := 1249) (by decide +kernel) (by decide +kernel), gt_at (i := 94) (by decide +kernel) (by decide +kernel), by decide +kernel, by decide +kernel, by decide +kernel, by decide +kernel⟩
theorem ok_MX12_setMode : mOK MX12_setMode 1 := ⟨gt_at (i := 1253) (by decide +kernel) (by decide +kernel), gt_at (i := 94) (by decide +kernel) (by decide +kernel), by decide +kernel, by decide +kernel, by decide +kernel, by decide +kernel⟩
theorem ok_MX12_setRule : mOK MX12_setRule 1 := ⟨gt_at (i := 1257) (by decide +kernel) (by decide +kernel), gt_at (i := 94) (by decide +kernel) (by decide +kernel), by decide +kernel, by decide +kernel, by decide +kernel, by decide +kernel⟩
theorem ok_MX12_count : mOK MX12_count 1 := ⟨gt_at (i := 1261) (by decide +kernel) (by decide +kernel), gt_at (i := 94) (by decide +kernel) (by decide +kernel), by decide +kernel, by decide +kernel, by decide +kernel, by decide +kernel⟩
theorem ok_MX12_its : mOK MX12_its 2 := ⟨gt_at (i := 1265) (by decide +kernel) (by decide +kernel), gt_at (i := 94) (by decide +kernel) (by decide +kernel), by decide +kernel, by decide +kernel, by decide +kernel, by decide +kernel⟩
theorem ok_MX12_findsPlacements : mOK MX12_findsPlacements 0 := ⟨gt_at (i := 1269) (by decide +kernel) (by decide +kernel), gt_at (i := 94) (by decide +kernel) (by decide +kernel), by decide +kernel, by decide +kernel, by decide +kernel, by decide +kernel⟩
theorem ok_MX12_findsForms : mOK MX12_findsForms 1 := ⟨gt_at (i := 1273) (by decide +kernel) (by decide +kernel), gt_at (i := 94) (by decide +kernel) (by decide +kernel), by decide +kernel, by decide +kernel, by decide +kernel, by decide +kernel⟩
theorem ok_MX12_addsForm : mOK MX12_addsForm 1 := ⟨gt_at (i := 1277) (by decide +kernel) (by decide +kernel), gt_at (i := 94) (by decide +kernel) (by decide +kernel), by decide +kernel, by decide +kernel, by decide +kernel, by decide +kernel⟩
theorem ok_MX12_changed : mOK MX12_changed 2 := ⟨gt_at (i := 1280) (by decide +kernel) (by decide +kernel), gt_at (i := 94) (by decide +kernel) (by decide +kernel), by decide +kernel, by decide +kernel, by decide +kernel, by decide +kernel⟩
theorem ok_MX12_cellsOf : mOK MX12_cellsOf 4 := ⟨gt_at (i := 1284) (by decide +kernel) (by decide +kernel), gt_at (i := 94) (by decide +kernel) (by decide +kernel), by decide +kernel, by decide +kernel, by decide +kernel, by decide +kernel⟩
theorem ok_MX12_lowest : mOK MX12_lowest 1 := ⟨gt_at (i := 1287) (by decide +kernel) (by decide +kernel), gt_at (i := 94) (by decide +kernel) (by decide +kernel), by decide +kernel, by decide +kernel, by decide +kernel, by decide +kernel⟩
theorem ok_MX12_isSymmetry : mOK MX12_isSymmetry 1 := ⟨gt_at (i := 1291) (by decide +kernel) (by decide +kernel), gt_at (i := 94) (by decide +kernel) (by decide +kernel), by decide +kernel, by decide +kernel, by decide +kernel, by decide +kernel⟩
theorem ok_MX12_image : mOK MX12_image 2 := ⟨gt_at (i := 1295) (by decide +kernel) (by decide +kernel), gt_at (i := 94) (by decide +kernel) (by decide +kernel), by decide +kernel, by decide +kernel, by decide +kernel, by decide +kernel⟩
theorem ok_MX12_colour : mOK MX12_colour 1 := ⟨gt_at (i := 1299) (by decide +kernel) (by decide +kernel), gt_at (i := 94) (by decide +kernel) (by decide +kernel), by decide +kernel, by decide +kernel, by decide +kernel, by decide +kernel⟩
theorem ok_MX12_piece : mOK MX12_piece 2 := ⟨gt_at (i := 1303) (by decide +kernel) (by decide +kernel), gt_at (i := 94) (by decide +kernel) (by decide +kernel), by decide +kernel, by decide +kernel, by decide +kernel, by decide +kernel⟩
theorem ok_MX12_placementsOf : mOK MX12_placementsOf 1 := ⟨gt_at (i := 1307) (by decide +kernel) (by decide +kernel), gt_at (i := 94) (by decide +kernel) (by decide +kernel), by decide +kernel, by decide +kernel, by decide +kernel, by decide +kernel⟩
theorem ok_MX12_form : mOK MX12_form 2 := ⟨gt_at (i := 1311) (by decide +kernel) (by decide +kernel), gt_at (i := 94) (by decide +kernel) (by decide +kernel), by decide +kernel, by decide +kernel, by decide +kernel, by decide +kernel⟩
theorem ok_MX12_placement : mOK MX12_placement 2 := ⟨gt_at (i := 1315) (by decide +kernel) (by decide +kernel), gt_at (i := 94) (by decide +kernel) (by decide +kernel), by decide +kernel, by decide +kernel, by decide +kernel, by decide +kernel⟩
theorem ok_MX12_has : mOK MX12_has 2 := ⟨gt_at (i := 1319) (by decide +kernel) (by decide +kernel), gt_at (i := 94) (by decide +kernel) (by decide +kernel), by decide +kernel, by decide +kernel, by decide +kernel, by decide +kernel⟩
theorem ok_MX12_appendCharacter : mOK MX12_appendCharacter 1 := ⟨gt_at (i := 1323) (by decide +kernel) (by decide +kernel), gt_at (i := 94) (by decide +kernel) (by decide +kernel), by decide +kernel, by decide +kernel, by decide +kernel, by decide +kernel⟩
theorem ok_MX12_clearText : mOK MX12_clearText 0 := ⟨gt_at (i := 1327) (by decide +kernel) (by decide +kernel), gt_at (i := 94) (by decide +kernel) (by decide +kernel), by decide +kernel, by decide +kernel, by decide +kernel, by decide +kernel⟩
theorem ok_MX12_load : mOK MX12_load 0 := ⟨gt_at (i := 1331) (by decide +kernel) (by decide +kernel), gt_at (i := 94) (by decide +kernel) (by decide +kernel), by decide +kernel, by decide +kernel, by decide +kernel, by decide +kernel⟩
theorem ok_MX12_readsRows : mOK MX12_readsRows 1 := ⟨gt_at (i := 1335) (by decide +kernel) (by decide +kernel), gt_at (i := 94) (by decide +kernel) (by decide +kernel), by decide +kernel, by decide +kernel, by decide +kernel, by decide +kernel⟩
theorem ok_MX12_here : mOK MX12_here 0 := ⟨gt_at (i := 1339) (by decide +kernel) (by decide +kernel), gt_at (i := 94) (by decide +kernel) (by decide +kernel), by decide +kernel, by decide +kernel, by decide +kernel, by decide +kernel⟩
theorem ok_MX12_isInRow : mOK MX12_isInRow 2 := ⟨gt_at (i := 1343) (by decide +kernel) (by decide +kernel), gt_at (i := 94) (by decide +kernel) (by decide +kernel), by decide +kernel, by decide +kernel, by decide +kernel, by decide +kernel⟩
theorem ok_MX12_isPart : mOK MX12_isPart 2 := ⟨gt_at (i := 1346) (by decide +kernel) (by decide +kernel), gt_at (i := 94) (by decide +kernel) (by decide +kernel), by decide +kernel, by decide +kernel, by decide +kernel, by decide +kernel⟩
theorem ok_MX12_readsPiece : mOK MX12_readsPiece 0 := ⟨gt_at (i := 1350) (by decide +kernel) (by decide +kernel), gt_at (i := 94) (by decide +kernel) (by decide +kernel), by decide +kernel, by decide +kernel, by decide +kernel, by decide +kernel⟩
theorem ok_MX12_readsOption : mOK MX12_readsOption 0 := ⟨gt_at (i := 1354) (by decide +kernel) (by decide +kernel), gt_at (i := 94) (by decide +kernel) (by decide +kernel), by decide +kernel, by decide +kernel, by decide +kernel, by decide +kernel⟩
theorem ok_MX12_exchanges : mOK MX12_exchanges 0 := ⟨gt_at (i := 1358) (by decide +kernel) (by decide +kernel), gt_at (i := 94) (by decide +kernel) (by decide +kernel), by decide +kernel, by decide +kernel, by decide +kernel, by decide +kernel⟩
theorem ok_MX12_covers : mOK MX12_covers 0 := ⟨gt_at (i := 1362) (by decide +kernel) (by decide +kernel), gt_at (i := 94) (by decide +kernel) (by decide +kernel), by decide +kernel, by decide +kernel, by decide +kernel, by decide +kernel⟩
theorem ok_MX12_searches : mOK MX12_searches 0 := ⟨gt_at (i := 1366) (by decide +kernel) (by decide +kernel), gt_at (i := 94) (by decide +kernel) (by decide +kernel), by decide +kernel, by decide +kernel, by decide +kernel, by decide +kernel⟩
theorem ok_MX12_begins : mOK MX12_begins 0 := ⟨gt_at (i := 1370) (by decide +kernel) (by decide +kernel), gt_at (i := 94) (by decide +kernel) (by decide +kernel), by decide +kernel, by decide +kernel, by decide +kernel, by decide +kernel⟩
theorem ok_MX12_goesOn : mOK MX12_goesOn 0 := ⟨gt_at (i := 1374) (by decide +kernel) (by decide +kernel), gt_at (i := 94) (by decide +kernel) (by decide +kernel), by decide +kernel, by decide +kernel, by decide +kernel, by decide +kernel⟩
theorem ok_MX12_all : mOK MX12_all 0 := ⟨gt_at (i := 1378) (by decide +kernel) (by decide +kernel), gt_at (i := 94) (by decide +kernel) (by decide +kernel), by decide +kernel, by decide +kernel, by decide +kernel, by decide +kernel⟩
theorem ok_MX12_goesBack : mOK MX12_goesBack 0 := ⟨gt_at (i := 1382) (by decide +kernel) (by decide +kernel), gt_at (i := 94) (by decide +kernel) (by decide +kernel), by decide +kernel, by decide +kernel, by decide +kernel, by decide +kernel⟩
theorem ok_MX12_turns : mOK MX12_turns 2 := ⟨gt_at (i := 1386) (by decide +kernel) (by decide +kernel), gt_at (i := 94) (by decide +kernel) (by decide +kernel), by decide +kernel, by decide +kernel, by decide +kernel, by decide +kernel⟩
theorem ok_MX12_isCover : mOK MX12_isCover 0 := ⟨gt_at (i := 1390) (by decide +kernel) (by decide +kernel), gt_at (i := 94) (by decide +kernel) (by decide +kernel), by decide +kernel, by decide +kernel, by decide +kernel, by decide +kernel⟩
theorem ok_MX12_fits : mOK MX12_fits 1 := ⟨gt_at (i := 1395) (by decide +kernel) (by decide +kernel), gt_at (i := 94) (by decide +kernel) (by decide +kernel), by decide +kernel, by decide +kernel, by decide +kernel, by decide +kernel⟩
theorem ok_MX12_beside : mOK MX12_beside 1 := ⟨gt_at (i := 1399) (by decide +kernel) (by decide +kernel), gt_at (i := 94) (by decide +kernel) (by decide +kernel), by decide +kernel, by decide +kernel, by decide +kernel, by decide +kernel⟩
theorem ok_MX12_tries : mOK MX12_tries 0 := ⟨gt_at (i := 1403) (by decide +kernel) (by decide +kernel), gt_at (i := 94) (by decide +kernel) (by decide +kernel), by decide +kernel, by decide +kernel, by decide +kernel, by decide +kernel⟩
theorem ok_MX12_coverAt : mOK MX12_coverAt 2 := ⟨gt_at (i := 1407) (by decide +kernel) (by decide +kernel), gt_at (i := 94) (by decide +kernel) (by decide +kernel), by decide +kernel, by decide +kernel, by decide +kernel, by decide +kernel⟩
theorem ok_MX12_seeks : mOK MX12_seeks 1 := ⟨gt_at (i := 1411) (by decide +kernel) (by decide +kernel), gt_at (i := 94) (by decide +kernel) (by decide +kernel), by decide +kernel, by decide +kernel, by decide +kernel, by decide +kernel⟩
theorem ok_MX12_used : mOK MX12_used 2 := ⟨gt_at (i := 1415) (by decide +kernel) (by decide +kernel), gt_at (i := 94) (by decide +kernel) (by decide +kernel), by decide +kernel, by decide +kernel, by decide +kernel, by decide +kernel⟩
theorem ok_MX12_fewest : mOK MX12_fewest 0 := ⟨gt_at (i := 1419) (by decide +kernel) (by decide +kernel), gt_at (i := 94) (by decide +kernel) (by decide +kernel), by decide +kernel, by decide +kernel, by decide +kernel, by decide +kernel⟩
theorem ok_MX12_classes : mOK MX12_classes 0 := ⟨gt_at (i := 1423) (by decide +kernel) (by decide +kernel), gt_at (i := 94) (by decide +kernel) (by decide +kernel), by decide +kernel, by decide +kernel, by decide +kernel, by decide +kernel⟩
theorem ok_MX12_labelsAll : mOK MX12_labelsAll 1 := ⟨gt_at (i := 1427) (by decide +kernel) (by decide +kernel), gt_at (i := 94) (by decide +kernel) (by decide +kernel), by decide +kernel, by decide +kernel, by decide +kernel, by decide +kernel⟩
theorem ok_MX12_labels : mOK MX12_labels 2 := ⟨gt_at (i := 1431) (by decide +kernel) (by decide +kernel), gt_at (i := 94) (by decide +kernel) (by decide +kernel), by decide +kernel, by decide +kernel, by decide +kernel, by decide +kernel⟩
theorem ok_MX12_areAlike : mOK MX12_areAlike 2 := ⟨gt_at (i := 1435) (by decide +kernel) (by decide +kernel), gt_at (i := 94) (by decide +kernel) (by decide +kernel), by decide +kernel, by decide +kernel, by decide +kernel, by decide +kernel⟩
theorem ok_MX12_alike : mOK MX12_alike 2 := ⟨gt_at (i := 1439) (by decide +kernel) (by decide +kernel), gt_at (i := 94) (by decide +kernel) (by decide +kernel), by decide +kernel, by decide +kernel, by decide +kernel, by decide +kernel⟩
theorem ok_MX12_useful : mOK MX12_useful 1 := ⟨gt_at (i := 1443) (by decide +kernel) (by decide +kernel), gt_at (i := 94) (by decide +kernel) (by decide +kernel), by decide +kernel, by decide +kernel, by decide +kernel, by decide +kernel⟩
theorem ok_MX12_strikes : mOK MX12_strikes 0 := ⟨gt_at (i := 1447) (by decide +kernel) (by decide +kernel), gt_at (i := 94) (by decide +kernel) (by decide +kernel), by decide +kernel, by decide +kernel, by decide +kernel, by decide +kernel⟩
theorem ok_MX12_isUseless : mOK MX12_isUseless 1 := ⟨gt_at (i := 1451) (by decide +kernel) (by decide +kernel), gt_at (i := 94) (by decide +kernel) (by decide +kernel), by decide +kernel, by decide +kernel, by decide +kernel, by decide +kernel⟩
theorem ok_MX12_usefulAt : mOK MX12_usefulAt 1 := ⟨gt_at (i := 1455) (by decide +kernel) (by decide +kernel), gt_at (i := 94) (by decide +kernel) (by decide +kernel), by decide +kernel, by decide +kernel, by decide +kernel, by decide +kernel⟩
theorem ok_MX12_proves : mOK MX12_proves 3 := ⟨gt_at (i := 1459) (by decide +kernel) (by decide +kernel), gt_at (i := 94) (by decide +kernel) (by decide +kernel), by decide +kernel, by decide +kernel, by decide +kernel, by decide +kernel⟩
theorem ok_MX12_isProof : mOK MX12_isProof 3 := ⟨gt_at (i := 1463) (by decide +kernel) (by decide +kernel), gt_at (i := 94) (by decide +kernel) (by decide +kernel), by decide +kernel, by decide +kernel, by decide +kernel, by decide +kernel⟩
theorem ok_MX12_weights : mOK MX12_weights 4 := ⟨gt_at (i := 1467) (by decide +kernel) (by decide +kernel), gt_at (i := 94) (by decide +kernel) (by decide +kernel), by decide +kernel, by decide +kernel, by decide +kernel, by decide +kernel⟩
theorem ok_MX12_weight : mOK MX12_weight 4 := ⟨gt_at (i := 1471) (by decide +kernel) (by decide +kernel), gt_at (i := 94) (by decide +kernel) (by decide +kernel), by decide +kernel, by decide +kernel, by decide +kernel, by decide +kernel⟩
theorem ok_MX12_proof : mOK MX12_proof 0 := ⟨gt_at (i := 1475) (by decide +kernel) (by decide +kernel), gt_at (i := 94) (by decide +kernel) (by decide +kernel), by decide +kernel, by decide +kernel, by decide +kernel, by decide +kernel⟩
theorem lmX11_11 : mIl RX11 11 MX4_init 0 := ⟨Or.inr ⟨RX11, nt_at (i := 109) (by decide +kernel) (by decide +kernel)⟩, ok_MX4_init, gt_at (i := 110) (by decide +kernel) (by decide +kernel), by decide +kernel, rfl⟩
theorem lmX11_18 : mIl RX11 18 MX2_init 0 := ⟨Or.inl (gt_at (i := 169) (by decide +kernel) (by decide +kernel)), ok_MX2_init, gt_at (i := 170) (by decide +kernel) (by decide +kernel), by decide +kernel, rfl⟩
theorem lmX11_25 : mIl RX11 25 MX5_init 0 := ⟨Or.inr ⟨RX11, nt_at (i := 189) (by decide +kernel) (by decide +kernel)⟩, ok_MX5_init, gt_at (i := 190) (by decide +kernel) (by decide +kernel), by decide +kernel, rfl⟩
theorem lmX11_32 : mIl RX11 32 MX1_init 0 := ⟨Or.inr ⟨RX11, nt_at (i := 220) (by decide +kernel) (by decide +kernel)⟩, ok_MX1_init, gt_at (i := 221) (by decide +kernel) (by decide +kernel), by decide +kernel, rfl⟩
theorem lmX11_39 : mIl RX11 39 MX3_init 0 := ⟨Or.inr ⟨RX11, nt_at (i := 233) (by decide +kernel) (by decide +kernel)⟩, ok_MX3_init, gt_at (i := 234) (by decide +kernel) (by decide +kernel), by decide +kernel, rfl⟩
theorem lmX11_46 : mIl RX11 46 MX8_init 0 := ⟨Or.inr ⟨RX11, nt_at (i := 267) (by decide +kernel) (by decide +kernel)⟩, ok_MX8_init, gt_at (i := 268) (by decide +kernel) (by decide +kernel), by decide +kernel, rfl⟩
theorem lmX11_53 : mIl RX11 53 MX9_init 2 := ⟨Or.inl (gt_at (i := 282) (by decide +kernel) (by decide +kernel)), ok_MX9_init, gt_at (i := 283) (by decide +kernel) (by decide +kernel), by decide +kernel, rfl⟩
theorem lmX11_62 : mIl RX11 62 MX0_init 3 := ⟨Or.inl (gt_at (i := 342) (by decide +kernel) (by decide +kernel)), ok_MX0_init, gt_at (i := 343) (by decide +kernel) (by decide +kernel), by decide +kernel, rfl⟩
theorem lmX11_71 : mIl RX11 71 MX7_init 0 := ⟨Or.inr ⟨RX11, nt_at (i := 377) (by decide +kernel) (by decide +kernel)⟩, ok_MX7_init, gt_at (i := 378) (by decide +kernel) (by decide +kernel), by decide +kernel, rfl⟩
theorem lmX11_78 : mIl RX11 78 MX10_init 0 := ⟨Or.inr ⟨RX11, nt_at (i := 388) (by decide +kernel) (by decide +kernel)⟩, ok_MX10_init, gt_at (i := 389) (by decide +kernel) (by decide +kernel), by decide +kernel, rfl⟩
theorem lmX11_93 : mSl RX11 93 MX11_isWithin 3 := ⟨Or.inl (gt_at (i := 446) (by decide +kernel) (by decide +kernel)), ok_MX11_isWithin, gt_at (i := 447) (by decide +kernel) (by decide +kernel)⟩
theorem lmX11_97 : mVl RX11 97 MX11_prepareChange 0 10 := ⟨Or.inl (gt_at (i := 449) (by decide +kernel) (by decide +kernel)), ok_MX11_prepareChange, gt_at (i := 451) (by decide +kernel) (by decide +kernel), gt_at (i := 0) (by decide +kernel) (by decide +kernel), _, _, rfl⟩
theorem lmX11_100 : mVl RX11 100 MX4_makeBoard 2 4 := ⟨Or.inl (gt_at (i := 495) (by decide +kernel) (by decide +kernel)), ok_MX4_makeBoard, gt_at (i := 496) (by decide +kernel) (by decide +kernel), gt_at (i := 497) (by decide +kernel) (by decide +kernel), _, _, rfl⟩
theorem lmX11_104 : mVl RX11 104 MX4_cellCount 0 4 := ⟨Or.inl (gt_at (i := 499) (by decide +kernel) (by decide +kernel)), ok_MX4_cellCount, gt_at (i := 500) (by decide +kernel) (by decide +kernel), gt_at (i := 501) (by decide +kernel) (by decide +kernel), _, _, rfl⟩
theorem lmX11_108 : mVl RX11 108 MX4_hasCell 1 4 := ⟨Or.inl (gt_at (i := 507) (by decide +kernel) (by decide +kernel)), ok_MX4_hasCell, gt_at (i := 508) (by decide +kernel) (by decide +kernel), gt_at (i := 509) (by decide +kernel) (by decide +kernel), _, _, rfl⟩
theorem lmX11_112 : mVl RX11 112 MX4_isHole 1 4 := ⟨Or.inl (gt_at (i := 512) (by decide +kernel) (by decide +kernel)), ok_MX4_isHole, gt_at (i := 513) (by decide +kernel) (by decide +kernel), gt_at (i := 514) (by decide +kernel) (by decide +kernel), _, _, rfl⟩
theorem lmX11_115 : mVl RX11 115 MX4_putCell 2 4 := ⟨Or.inl (gt_at (i := 520) (by decide +kernel) (by decide +kernel)), ok_MX4_putCell, gt_at (i := 521) (by decide +kernel) (by decide +kernel), gt_at (i := 522) (by decide +kernel) (by decide +kernel), _, _, rfl⟩
theorem lmX11_118 : mVl RX11 118 MX4_openCount 0 4 := ⟨Or.inl (gt_at (i := 524) (by decide +kernel) (by decide +kernel)), ok_MX4_openCount, gt_at (i := 525) (by decide +kernel) (by decide +kernel), gt_at (i := 526) (by decide +kernel) (by decide +kernel), _, _, rfl⟩
theorem lmX11_121 : mVl RX11 121 MX4_cellAt 1 4 := ⟨Or.inl (gt_at (i := 543) (by decide +kernel) (by decide +kernel)), ok_MX4_cellAt, gt_at (i := 517) (by decide +kernel) (by decide +kernel), gt_at (i := 518) (by decide +kernel) (by decide +kernel), _, _, rfl⟩
theorem lmX11_125 : mSl RX11 125 MX6_isShape 1 := ⟨Or.inl (gt_at (i := 548) (by decide +kernel) (by decide +kernel)), ok_MX6_isShape, gt_at (i := 549) (by decide +kernel) (by decide +kernel)⟩
theorem lmX11_134 : mSl RX11 134 MX6_normalize 1 := ⟨Or.inl (gt_at (i := 562) (by decide +kernel) (by decide +kernel)), ok_MX6_normalize, gt_at (i := 563) (by decide +kernel) (by decide +kernel)⟩
theorem lmX11_137 : mVl RX11 137 MX4_append 4 4 := ⟨Or.inl (gt_at (i := 565) (by decide +kernel) (by decide +kernel)), ok_MX4_append, gt_at (i := 566) (by decide +kernel) (by decide +kernel), gt_at (i := 567) (by decide +kernel) (by decide +kernel), _, _, rfl⟩
theorem lmX11_141 : mVl RX11 141 MX4_hasPiece 1 4 := ⟨Or.inl (gt_at (i := 573) (by decide +kernel) (by decide +kernel)), ok_MX4_hasPiece, gt_at (i := 574) (by decide +kernel) (by decide +kernel), gt_at (i := 575) (by decide +kernel) (by decide +kernel), _, _, rfl⟩
theorem lmX11_144 : mVl RX11 144 MX4_dropPiece 1 4 := ⟨Or.inl (gt_at (i := 577) (by decide +kernel) (by decide +kernel)), ok_MX4_dropPiece, gt_at (i := 578) (by decide +kernel) (by decide +kernel), gt_at (i := 579) (by decide +kernel) (by decide +kernel), _, _, rfl⟩
theorem lmX11_148 : mVl RX11 148 MX4_copiesOf 1 4 := ⟨Or.inl (gt_at (i := 585) (by decide +kernel) (by decide +kernel)), ok_MX4_copiesOf, gt_at (i := 488) (by decide +kernel) (by decide +kernel), gt_at (i := 489) (by decide +kernel) (by decide +kernel), _, _, rfl⟩
theorem lmX11_155 : mSl RX11 155 MX11_put 3 := ⟨Or.inl (gt_at (i := 586) (by decide +kernel) (by decide +kernel)), ok_MX11_put, gt_at (i := 477) (by decide +kernel) (by decide +kernel)⟩
theorem lmX11_171 : mVl RX11 171 MX4_squareCount 0 4 := ⟨Or.inl (gt_at (i := 599) (by decide +kernel) (by decide +kernel)), ok_MX4_squareCount, gt_at (i := 600) (by decide +kernel) (by decide +kernel), gt_at (i := 601) (by decide +kernel) (by decide +kernel), _, _, rfl⟩
theorem lmX11_174 : mVl RX11 174 MX11_placeAll 0 10 := ⟨Or.inl (gt_at (i := 604) (by decide +kernel) (by decide +kernel)), ok_MX11_placeAll, gt_at (i := 606) (by decide +kernel) (by decide +kernel), gt_at (i := 4) (by decide +kernel) (by decide +kernel), _, _, rfl⟩
theorem lmX11_182 : mVl RX11 182 MX4_shapeOf 1 4 := ⟨Or.inl (gt_at (i := 710) (by decide +kernel) (by decide +kernel)), ok_MX4_shapeOf, gt_at (i := 470) (by decide +kernel) (by decide +kernel), gt_at (i := 471) (by decide +kernel) (by decide +kernel), _, _, rfl⟩
theorem lmX11_185 : mVl RX11 185 MX4_freedomOf 1 4 := ⟨Or.inl (gt_at (i := 711) (by decide +kernel) (by decide +kernel)), ok_MX4_freedomOf, gt_at (i := 480) (by decide +kernel) (by decide +kernel), gt_at (i := 481) (by decide +kernel) (by decide +kernel), _, _, rfl⟩
theorem lmX11_188 : mVl RX11 188 MX4_colourOf 1 4 := ⟨Or.inl (gt_at (i := 712) (by decide +kernel) (by decide +kernel)), ok_MX4_colourOf, gt_at (i := 484) (by decide +kernel) (by decide +kernel), gt_at (i := 485) (by decide +kernel) (by decide +kernel), _, _, rfl⟩
theorem lmX11_191 : mSl RX11 191 MJ6_bitCount_0f7a4 1 := ⟨Or.inl (gt_at (i := 713) (by decide +kernel) (by decide +kernel)), ok_MJ6_bitCount_0f7a4, gt_at (i := 553) (by decide +kernel) (by decide +kernel)⟩
theorem lmX11_196 : mVl RX11 196 MX1_sizeOf 1 1 := ⟨Or.inl (gt_at (i := 714) (by decide +kernel) (by decide +kernel)), ok_MX1_sizeOf, gt_at (i := 625) (by decide +kernel) (by decide +kernel), gt_at (i := 626) (by decide +kernel) (by decide +kernel), _, _, rfl⟩
theorem lmX11_199 : mVl RX11 199 MX3_sizeOf 1 3 := ⟨Or.inl (gt_at (i := 715) (by decide +kernel) (by decide +kernel)), ok_MX3_sizeOf, gt_at (i := 716) (by decide +kernel) (by decide +kernel), gt_at (i := 717) (by decide +kernel) (by decide +kernel), _, _, rfl⟩
theorem lmX11_200 : mVl RX11 200 MX1_shapeOf 2 1 := ⟨Or.inl (gt_at (i := 727) (by decide +kernel) (by decide +kernel)), ok_MX1_shapeOf, gt_at (i := 630) (by decide +kernel) (by decide +kernel), gt_at (i := 631) (by decide +kernel) (by decide +kernel), _, _, rfl⟩
theorem lmX11_203 : mVl RX11 203 MX3_pieceOf 1 3 := ⟨Or.inl (gt_at (i := 732) (by decide +kernel) (by decide +kernel)), ok_MX3_pieceOf, gt_at (i := 720) (by decide +kernel) (by decide +kernel), gt_at (i := 721) (by decide +kernel) (by decide +kernel), _, _, rfl⟩
theorem lmX11_206 : mVl RX11 206 MX3_formOf 1 3 := ⟨Or.inl (gt_at (i := 733) (by decide +kernel) (by decide +kernel)), ok_MX3_formOf, gt_at (i := 734) (by decide +kernel) (by decide +kernel), gt_at (i := 735) (by decide +kernel) (by decide +kernel), _, _, rfl⟩
theorem lmX11_209 : mVl RX11 209 MX3_cornerOf 1 3 := ⟨Or.inl (gt_at (i := 737) (by decide +kernel) (by decide +kernel)), ok_MX3_cornerOf, gt_at (i := 738) (by decide +kernel) (by decide +kernel), gt_at (i := 739) (by decide +kernel) (by decide +kernel), _, _, rfl⟩
theorem lmX11_212 : mVl RX11 212 MX3_maskOf 1 3 := ⟨Or.inl (gt_at (i := 741) (by decide +kernel) (by decide +kernel)), ok_MX3_maskOf, gt_at (i := 677) (by decide +kernel) (by decide +kernel), gt_at (i := 678) (by decide +kernel) (by decide +kernel), _, _, rfl⟩
theorem lmX11_216 : mSl RX11 216 MX11_smallestCell 1 := ⟨Or.inl (gt_at (i := 742) (by decide +kernel) (by decide +kernel)), ok_MX11_smallestCell, gt_at (i := 681) (by decide +kernel) (by decide +kernel)⟩
theorem lmX11_220 : mSl RX11 220 MX11_greatestCell 1 := ⟨Or.inl (gt_at (i := 743) (by decide +kernel) (by decide +kernel)), ok_MX11_greatestCell, gt_at (i := 744) (by decide +kernel) (by decide +kernel)⟩
theorem lmX11_226 : mVl RX11 226 MX5_append 1 5 := ⟨Or.inl (gt_at (i := 753) (by decide +kernel) (by decide +kernel)), ok_MX5_append, gt_at (i := 754) (by decide +kernel) (by decide +kernel), gt_at (i := 755) (by decide +kernel) (by decide +kernel), _, _, rfl⟩
theorem lmX11_228 : mVl RX11 228 MX5_read 0 5 := ⟨Or.inl (gt_at (i := 765) (by decide +kernel) (by decide +kernel)), ok_MX5_read, gt_at (i := 766) (by decide +kernel) (by decide +kernel), gt_at (i := 767) (by decide +kernel) (by decide +kernel), _, _, rfl⟩
theorem lmX11_231 : mVl RX11 231 MX5_handOver 1 5 := ⟨Or.inl (gt_at (i := 813) (by decide +kernel) (by decide +kernel)), ok_MX5_handOver, gt_at (i := 814) (by decide +kernel) (by decide +kernel), gt_at (i := 815) (by decide +kernel) (by decide +kernel), _, _, rfl⟩
theorem lmX11_235 : mVl RX11 235 MX11_searchAll 0 10 := ⟨Or.inl (gt_at (i := 822) (by decide +kernel) (by decide +kernel)), ok_MX11_searchAll, gt_at (i := 824) (by decide +kernel) (by decide +kernel), gt_at (i := 19) (by decide +kernel) (by decide +kernel), _, _, rfl⟩
theorem lmX11_245 : mVl RX11 245 MX11_whyNoCover 0 10 := ⟨Or.inl (gt_at (i := 899) (by decide +kernel) (by decide +kernel)), ok_MX11_whyNoCover, gt_at (i := 901) (by decide +kernel) (by decide +kernel), gt_at (i := 28) (by decide +kernel) (by decide +kernel), _, _, rfl⟩
theorem lmX11_248 : mVl RX11 248 MX0_rowOf 2 0 := ⟨Or.inl (gt_at (i := 903) (by decide +kernel) (by decide +kernel)), ok_MX0_rowOf, gt_at (i := 904) (by decide +kernel) (by decide +kernel), gt_at (i := 905) (by decide +kernel) (by decide +kernel), _, _, rfl⟩
theorem lmX11_251 : mVl RX11 251 MX0_placementAt 2 0 := ⟨Or.inl (gt_at (i := 907) (by decide +kernel) (by decide +kernel)), ok_MX0_placementAt, gt_at (i := 908) (by decide +kernel) (by decide +kernel), gt_at (i := 909) (by decide +kernel) (by decide +kernel), _, _, rfl⟩
theorem lmX11_254 : mVl RX11 254 MX0_usesOf 2 0 := ⟨Or.inl (gt_at (i := 916) (by decide +kernel) (by decide +kernel)), ok_MX0_usesOf, gt_at (i := 917) (by decide +kernel) (by decide +kernel), gt_at (i := 918) (by decide +kernel) (by decide +kernel), _, _, rfl⟩
theorem lmX11_257 : mVl RX11 257 MX0_classCount 0 0 := ⟨Or.inl (gt_at (i := 932) (by decide +kernel) (by decide +kernel)), ok_MX0_classCount, gt_at (i := 933) (by decide +kernel) (by decide +kernel), gt_at (i := 934) (by decide +kernel) (by decide +kernel), _, _, rfl⟩
theorem lmX11_260 : mVl RX11 260 MX0_areAlike 2 0 := ⟨Or.inl (gt_at (i := 957) (by decide +kernel) (by decide +kernel)), ok_MX0_areAlike, gt_at (i := 941) (by decide +kernel) (by decide +kernel), gt_at (i := 942) (by decide +kernel) (by decide +kernel), _, _, rfl⟩
theorem lmX11_267 : mVl RX11 267 MX11_siftAll 0 10 := ⟨Or.inl (gt_at (i := 966) (by decide +kernel) (by decide +kernel)), ok_MX11_siftAll, gt_at (i := 968) (by decide +kernel) (by decide +kernel), gt_at (i := 32) (by decide +kernel) (by decide +kernel), _, _, rfl⟩
theorem lmX11_270 : mVl RX11 270 MX7_leftOfPiece 2 6 := ⟨Or.inl (gt_at (i := 988) (by decide +kernel) (by decide +kernel)), ok_MX7_leftOfPiece, gt_at (i := 989) (by decide +kernel) (by decide +kernel), gt_at (i := 990) (by decide +kernel) (by decide +kernel), _, _, rfl⟩
theorem lmX11_274 : mVl RX11 274 MX7_leftAtCell 2 6 := ⟨Or.inl (gt_at (i := 997) (by decide +kernel) (by decide +kernel)), ok_MX7_leftAtCell, gt_at (i := 998) (by decide +kernel) (by decide +kernel), gt_at (i := 999) (by decide +kernel) (by decide +kernel), _, _, rfl⟩
theorem lmX11_277 : mVl RX11 277 MX10_excludeCover 5 9 := ⟨Or.inl (gt_at (i := 1006) (by decide +kernel) (by decide +kernel)), ok_MX10_excludeCover, gt_at (i := 1007) (by decide +kernel) (by decide +kernel), gt_at (i := 1008) (by decide +kernel) (by decide +kernel), _, _, rfl⟩
theorem lmX11_281 : mVl RX11 281 MX11_forgetDerived 0 10 := ⟨Or.inl (gt_at (i := 491) (by decide +kernel) (by decide +kernel)), ok_MX11_forgetDerived, gt_at (i := 493) (by decide +kernel) (by decide +kernel), gt_at (i := 3) (by decide +kernel) (by decide +kernel), _, _, rfl⟩
theorem lmX11_284 : mVl RX11 284 MX2_restore 1 2 := ⟨Or.inl (gt_at (i := 1047) (by decide +kernel) (by decide +kernel)), ok_MX2_restore, gt_at (i := 1048) (by decide +kernel) (by decide +kernel), gt_at (i := 1049) (by decide +kernel) (by decide +kernel), _, _, rfl⟩
theorem lmX11_287 : mVl RX11 287 MX2_save 1 2 := ⟨Or.inl (gt_at (i := 453) (by decide +kernel) (by decide +kernel)), ok_MX2_save, gt_at (i := 454) (by decide +kernel) (by decide +kernel), gt_at (i := 455) (by decide +kernel) (by decide +kernel), _, _, rfl⟩
theorem lmX11_290 : mVl RX11 290 MX1_fill 1 1 := ⟨Or.inl (gt_at (i := 608) (by decide +kernel) (by decide +kernel)), ok_MX1_fill, gt_at (i := 609) (by decide +kernel) (by decide +kernel), gt_at (i := 610) (by decide +kernel) (by decide +kernel), _, _, rfl⟩
theorem lmX11_293 : mVl RX11 293 MX3_fill 2 3 := ⟨Or.inl (gt_at (i := 643) (by decide +kernel) (by decide +kernel)), ok_MX3_fill, gt_at (i := 644) (by decide +kernel) (by decide +kernel), gt_at (i := 645) (by decide +kernel) (by decide +kernel), _, _, rfl⟩
theorem lmX11_296 : mVl RX11 296 MX8_fill 1 7 := ⟨Or.inl (gt_at (i := 686) (by decide +kernel) (by decide +kernel)), ok_MX8_fill, gt_at (i := 687) (by decide +kernel) (by decide +kernel), gt_at (i := 688) (by decide +kernel) (by decide +kernel), _, _, rfl⟩
theorem lmX11_297 : mVl RX11 297 MX0_collect 0 0 := ⟨Or.inl (gt_at (i := 826) (by decide +kernel) (by decide +kernel)), ok_MX0_collect, gt_at (i := 827) (by decide +kernel) (by decide +kernel), gt_at (i := 828) (by decide +kernel) (by decide +kernel), _, _, rfl⟩
theorem lmX11_300 : mVl RX11 300 MX7_sift 1 6 := ⟨Or.inl (gt_at (i := 970) (by decide +kernel) (by decide +kernel)), ok_MX7_sift, gt_at (i := 971) (by decide +kernel) (by decide +kernel), gt_at (i := 972) (by decide +kernel) (by decide +kernel), _, _, rfl⟩
theorem lmX11_304 : mSl RX11 304 MJ13_bitCount_95d88 1 := ⟨Or.inl (gt_at (i := 683) (by decide +kernel) (by decide +kernel)), ok_MJ13_bitCount_95d88, gt_at (i := 534) (by decide +kernel) (by decide +kernel)⟩
theorem lmX11_308 : mSl RX11 308 MX11_holds 2 := ⟨Or.inl (gt_at (i := 746) (by decide +kernel) (by decide +kernel)), ok_MX11_holds, gt_at (i := 747) (by decide +kernel) (by decide +kernel)⟩
theorem lmX0_41 : mVl RX0 41 MX9_begin 0 8 := ⟨Or.inl (gt_at (i := 830) (by decide +kernel) (by decide +kernel)), ok_MX9_begin, gt_at (i := 831) (by decide +kernel) (by decide +kernel), gt_at (i := 832) (by decide +kernel) (by decide +kernel), _, _, rfl⟩
theorem lmX0_46 : mVl RX0 46 MX9_advance 0 8 := ⟨Or.inl (gt_at (i := 847) (by decide +kernel) (by decide +kernel)), ok_MX9_advance, gt_at (i := 848) (by decide +kernel) (by decide +kernel), gt_at (i := 849) (by decide +kernel) (by decide +kernel), _, _, rfl⟩
theorem lmX0_50 : mVl RX0 50 MX9_writeTo 2 8 := ⟨Or.inl (gt_at (i := 883) (by decide +kernel) (by decide +kernel)), ok_MX9_writeTo, gt_at (i := 884) (by decide +kernel) (by decide +kernel), gt_at (i := 885) (by decide +kernel) (by decide +kernel), _, _, rfl⟩
theorem lmX0_73 : mSl RX0 73 MX11_at 2 := ⟨Or.inr ⟨RX11, nt_at (i := 911) (by decide +kernel) (by decide +kernel)⟩, ok_MX11_at, gt_at (i := 474) (by decide +kernel) (by decide +kernel)⟩
theorem lmX0_77 : mVl RX0 77 MX3_maskOf 1 3 := ⟨Or.inl (gt_at (i := 925) (by decide +kernel) (by decide +kernel)), ok_MX3_maskOf, gt_at (i := 677) (by decide +kernel) (by decide +kernel), gt_at (i := 678) (by decide +kernel) (by decide +kernel), _, _, rfl⟩
theorem lmX0_83 : mSl RX0 83 MX11_smallestCell 1 := ⟨Or.inr ⟨RX11, nt_at (i := 926) (by decide +kernel) (by decide +kernel)⟩, ok_MX11_smallestCell, gt_at (i := 681) (by decide +kernel) (by decide +kernel)⟩
theorem lmX0_87 : mVl RX0 87 MX0_placementAt 2 0 := ⟨Or.inl (gt_at (i := 920) (by decide +kernel) (by decide +kernel)), ok_MX0_placementAt, gt_at (i := 908) (by decide +kernel) (by decide +kernel), gt_at (i := 909) (by decide +kernel) (by decide +kernel), _, _, rfl⟩
theorem lmX0_90 : mVl RX0 90 MX0_beginsAt 2 0 := ⟨Or.inl (gt_at (i := 921) (by decide +kernel) (by decide +kernel)), ok_MX0_beginsAt, gt_at (i := 923) (by decide +kernel) (by decide +kernel), gt_at (i := 29) (by decide +kernel) (by decide +kernel), _, _, rfl⟩
theorem lmX0_94 : mVl RX0 94 MX3_pieceOf 1 3 := ⟨Or.inl (gt_at (i := 927) (by decide +kernel) (by decide +kernel)), ok_MX3_pieceOf, gt_at (i := 720) (by decide +kernel) (by decide +kernel), gt_at (i := 721) (by decide +kernel) (by decide +kernel), _, _, rfl⟩
theorem lmX0_98 : mVl RX0 98 MX0_isLikeEarlier 1 0 := ⟨Or.inl (gt_at (i := 936) (by decide +kernel) (by decide +kernel)), ok_MX0_isLikeEarlier, gt_at (i := 938) (by decide +kernel) (by decide +kernel), gt_at (i := 30) (by decide +kernel) (by decide +kernel), _, _, rfl⟩
theorem lmX0_102 : mVl RX0 102 MX0_areAlike 2 0 := ⟨Or.inl (gt_at (i := 940) (by decide +kernel) (by decide +kernel)), ok_MX0_areAlike, gt_at (i := 941) (by decide +kernel) (by decide +kernel), gt_at (i := 942) (by decide +kernel) (by decide +kernel), _, _, rfl⟩
theorem lmX0_108 : mVl RX0 108 MX0_isMapped 3 0 := ⟨Or.inl (gt_at (i := 944) (by decide +kernel) (by decide +kernel)), ok_MX0_isMapped, gt_at (i := 946) (by decide +kernel) (by decide +kernel), gt_at (i := 31) (by decide +kernel) (by decide +kernel), _, _, rfl⟩
theorem lmX0_112 : mVl RX0 112 MX8_imageOf 2 7 := ⟨Or.inl (gt_at (i := 948) (by decide +kernel) (by decide +kernel)), ok_MX8_imageOf, gt_at (i := 949) (by decide +kernel) (by decide +kernel), gt_at (i := 950) (by decide +kernel) (by decide +kernel), _, _, rfl⟩
theorem lmX1_18 : mSl RX1 18 MX11_put 3 := ⟨Or.inr ⟨RX11, nt_at (i := 612) (by decide +kernel) (by decide +kernel)⟩, ok_MX11_put, gt_at (i := 477) (by decide +kernel) (by decide +kernel)⟩
theorem lmX1_22 : mVl RX1 22 MX4_hasPiece 1 4 := ⟨Or.inl (gt_at (i := 613) (by decide +kernel) (by decide +kernel)), ok_MX4_hasPiece, gt_at (i := 574) (by decide +kernel) (by decide +kernel), gt_at (i := 575) (by decide +kernel) (by decide +kernel), _, _, rfl⟩
theorem lmX1_28 : mVl RX1 28 MX4_shapeOf 1 4 := ⟨Or.inl (gt_at (i := 614) (by decide +kernel) (by decide +kernel)), ok_MX4_shapeOf, gt_at (i := 470) (by decide +kernel) (by decide +kernel), gt_at (i := 471) (by decide +kernel) (by decide +kernel), _, _, rfl⟩
theorem lmX1_32 : mVl RX1 32 MX4_freedomOf 1 4 := ⟨Or.inl (gt_at (i := 615) (by decide +kernel) (by decide +kernel)), ok_MX4_freedomOf, gt_at (i := 480) (by decide +kernel) (by decide +kernel), gt_at (i := 481) (by decide +kernel) (by decide +kernel), _, _, rfl⟩
theorem lmX1_35 : mVl RX1 35 MX1_insertTurns 3 1 := ⟨Or.inl (gt_at (i := 616) (by decide +kernel) (by decide +kernel)), ok_MX1_insertTurns, gt_at (i := 618) (by decide +kernel) (by decide +kernel), gt_at (i := 5) (by decide +kernel) (by decide +kernel), _, _, rfl⟩
theorem lmX1_39 : mSl RX1 39 MX6_mirror 1 := ⟨Or.inl (gt_at (i := 640) (by decide +kernel) (by decide +kernel)), ok_MX6_mirror, gt_at (i := 641) (by decide +kernel) (by decide +kernel)⟩
theorem lmX1_44 : mVl RX1 44 MX1_insert 2 1 := ⟨Or.inl (gt_at (i := 620) (by decide +kernel) (by decide +kernel)), ok_MX1_insert, gt_at (i := 622) (by decide +kernel) (by decide +kernel), gt_at (i := 6) (by decide +kernel) (by decide +kernel), _, _, rfl⟩
theorem lmX1_48 : mSl RX1 48 MX6_turn 1 := ⟨Or.inl (gt_at (i := 633) (by decide +kernel) (by decide +kernel)), ok_MX6_turn, gt_at (i := 634) (by decide +kernel) (by decide +kernel)⟩
theorem lmX1_51 : mVl RX1 51 MX1_sizeOf 1 1 := ⟨Or.inl (gt_at (i := 624) (by decide +kernel) (by decide +kernel)), ok_MX1_sizeOf, gt_at (i := 625) (by decide +kernel) (by decide +kernel), gt_at (i := 626) (by decide +kernel) (by decide +kernel), _, _, rfl⟩
theorem lmX1_54 : mVl RX1 54 MX1_shapeOf 2 1 := ⟨Or.inl (gt_at (i := 629) (by decide +kernel) (by decide +kernel)), ok_MX1_shapeOf, gt_at (i := 630) (by decide +kernel) (by decide +kernel), gt_at (i := 631) (by decide +kernel) (by decide +kernel), _, _, rfl⟩
theorem lmX1_57 : mSl RX1 57 MX11_at 2 := ⟨Or.inr ⟨RX11, nt_at (i := 628) (by decide +kernel) (by decide +kernel)⟩, ok_MX11_at, gt_at (i := 474) (by decide +kernel) (by decide +kernel)⟩
theorem lmX2_24 : mIl RX2 24 MX4_init 0 := ⟨Or.inr ⟨RX11, nt_at (i := 175) (by decide +kernel) (by decide +kernel)⟩, ok_MX4_init, gt_at (i := 110) (by decide +kernel) (by decide +kernel), by decide +kernel, rfl⟩
theorem lmX2_25 : mVl RX2 25 MX2_slotAfterOldest 1 2 := ⟨Or.inl (gt_at (i := 457) (by decide +kernel) (by decide +kernel)), ok_MX2_slotAfterOldest, gt_at (i := 459) (by decide +kernel) (by decide +kernel), gt_at (i := 1) (by decide +kernel) (by decide +kernel), _, _, rfl⟩
theorem lmX2_29 : mVl RX2 29 MX4_copyFrom 1 4 := ⟨Or.inl (gt_at (i := 461) (by decide +kernel) (by decide +kernel)), ok_MX4_copyFrom, gt_at (i := 462) (by decide +kernel) (by decide +kernel), gt_at (i := 463) (by decide +kernel) (by decide +kernel), _, _, rfl⟩
theorem lmX3_33 : mVl RX3 33 MX4_openMask 0 4 := ⟨Or.inl (gt_at (i := 647) (by decide +kernel) (by decide +kernel)), ok_MX4_openMask, gt_at (i := 529) (by decide +kernel) (by decide +kernel), gt_at (i := 530) (by decide +kernel) (by decide +kernel), _, _, rfl⟩
theorem lmX3_42 : mVl RX3 42 MX1_sizeOf 1 1 := ⟨Or.inl (gt_at (i := 648) (by decide +kernel) (by decide +kernel)), ok_MX1_sizeOf, gt_at (i := 625) (by decide +kernel) (by decide +kernel), gt_at (i := 626) (by decide +kernel) (by decide +kernel), _, _, rfl⟩
theorem lmX3_48 : mVl RX3 48 MX1_shapeOf 2 1 := ⟨Or.inl (gt_at (i := 649) (by decide +kernel) (by decide +kernel)), ok_MX1_shapeOf, gt_at (i := 630) (by decide +kernel) (by decide +kernel), gt_at (i := 631) (by decide +kernel) (by decide +kernel), _, _, rfl⟩
theorem lmX3_52 : mVl RX3 52 MX3_fillForm 4 3 := ⟨Or.inl (gt_at (i := 650) (by decide +kernel) (by decide +kernel)), ok_MX3_fillForm, gt_at (i := 652) (by decide +kernel) (by decide +kernel), gt_at (i := 7) (by decide +kernel) (by decide +kernel), _, _, rfl⟩
theorem lmX3_56 : mVl RX3 56 MX3_fillOrder 0 3 := ⟨Or.inl (gt_at (i := 672) (by decide +kernel) (by decide +kernel)), ok_MX3_fillOrder, gt_at (i := 674) (by decide +kernel) (by decide +kernel), gt_at (i := 8) (by decide +kernel) (by decide +kernel), _, _, rfl⟩
theorem lmX3_59 : mVl RX3 59 MX4_colourOf 1 4 := ⟨Or.inl (gt_at (i := 654) (by decide +kernel) (by decide +kernel)), ok_MX4_colourOf, gt_at (i := 484) (by decide +kernel) (by decide +kernel), gt_at (i := 485) (by decide +kernel) (by decide +kernel), _, _, rfl⟩
theorem lmX3_62 : mVl RX3 62 MX4_cellCount 0 4 := ⟨Or.inl (gt_at (i := 655) (by decide +kernel) (by decide +kernel)), ok_MX4_cellCount, gt_at (i := 500) (by decide +kernel) (by decide +kernel), gt_at (i := 501) (by decide +kernel) (by decide +kernel), _, _, rfl⟩
theorem lmX3_66 : mSl RX3 66 MX3_lay 4 := ⟨Or.inl (gt_at (i := 656) (by decide +kernel) (by decide +kernel)), ok_MX3_lay, gt_at (i := 657) (by decide +kernel) (by decide +kernel)⟩
theorem lmX3_70 : mVl RX3 70 MX4_columnOf 1 4 := ⟨Or.inl (gt_at (i := 659) (by decide +kernel) (by decide +kernel)), ok_MX4_columnOf, gt_at (i := 660) (by decide +kernel) (by decide +kernel), gt_at (i := 661) (by decide +kernel) (by decide +kernel), _, _, rfl⟩
theorem lmX3_73 : mVl RX3 73 MX4_rowOf 1 4 := ⟨Or.inl (gt_at (i := 663) (by decide +kernel) (by decide +kernel)), ok_MX4_rowOf, gt_at (i := 664) (by decide +kernel) (by decide +kernel), gt_at (i := 665) (by decide +kernel) (by decide +kernel), _, _, rfl⟩
theorem lmX3_76 : mSl RX3 76 MX6_hasSquare 2 := ⟨Or.inl (gt_at (i := 667) (by decide +kernel) (by decide +kernel)), ok_MX6_hasSquare, gt_at (i := 637) (by decide +kernel) (by decide +kernel)⟩
theorem lmX3_88 : mVl RX3 88 MX4_takesColour 2 4 := ⟨Or.inl (gt_at (i := 668) (by decide +kernel) (by decide +kernel)), ok_MX4_takesColour, gt_at (i := 669) (by decide +kernel) (by decide +kernel), gt_at (i := 670) (by decide +kernel) (by decide +kernel), _, _, rfl⟩
theorem lmX3_91 : mVl RX3 91 MX3_maskOf 1 3 := ⟨Or.inl (gt_at (i := 676) (by decide +kernel) (by decide +kernel)), ok_MX3_maskOf, gt_at (i := 677) (by decide +kernel) (by decide +kernel), gt_at (i := 678) (by decide +kernel) (by decide +kernel), _, _, rfl⟩
theorem lmX3_95 : mSl RX3 95 MX11_smallestCell 1 := ⟨Or.inr ⟨RX11, nt_at (i := 680) (by decide +kernel) (by decide +kernel)⟩, ok_MX11_smallestCell, gt_at (i := 681) (by decide +kernel) (by decide +kernel)⟩
theorem lmX3_99 : mSl RX3 99 MX11_at 2 := ⟨Or.inr ⟨RX11, nt_at (i := 684) (by decide +kernel) (by decide +kernel)⟩, ok_MX11_at, gt_at (i := 474) (by decide +kernel) (by decide +kernel)⟩
theorem lmX3_103 : mSl RX3 103 MX11_put 3 := ⟨Or.inr ⟨RX11, nt_at (i := 685) (by decide +kernel) (by decide +kernel)⟩, ok_MX11_put, gt_at (i := 477) (by decide +kernel) (by decide +kernel)⟩
theorem lmX3_107 : mVl RX3 107 MX3_pieceOf 1 3 := ⟨Or.inl (gt_at (i := 719) (by decide +kernel) (by decide +kernel)), ok_MX3_pieceOf, gt_at (i := 720) (by decide +kernel) (by decide +kernel), gt_at (i := 721) (by decide +kernel) (by decide +kernel), _, _, rfl⟩
theorem lmX4_43 : mVl RX4 43 MX4_copyPiece 3 4 := ⟨Or.inl (gt_at (i := 465) (by decide +kernel) (by decide +kernel)), ok_MX4_copyPiece, gt_at (i := 467) (by decide +kernel) (by decide +kernel), gt_at (i := 2) (by decide +kernel) (by decide +kernel), _, _, rfl⟩
theorem lmX4_47 : mVl RX4 47 MX4_shapeOf 1 4 := ⟨Or.inl (gt_at (i := 469) (by decide +kernel) (by decide +kernel)), ok_MX4_shapeOf, gt_at (i := 470) (by decide +kernel) (by decide +kernel), gt_at (i := 471) (by decide +kernel) (by decide +kernel), _, _, rfl⟩
theorem lmX4_51 : mSl RX4 51 MX11_put 3 := ⟨Or.inr ⟨RX11, nt_at (i := 476) (by decide +kernel) (by decide +kernel)⟩, ok_MX11_put, gt_at (i := 477) (by decide +kernel) (by decide +kernel)⟩
theorem lmX4_55 : mVl RX4 55 MX4_freedomOf 1 4 := ⟨Or.inl (gt_at (i := 479) (by decide +kernel) (by decide +kernel)), ok_MX4_freedomOf, gt_at (i := 480) (by decide +kernel) (by decide +kernel), gt_at (i := 481) (by decide +kernel) (by decide +kernel), _, _, rfl⟩
theorem lmX4_58 : mVl RX4 58 MX4_colourOf 1 4 := ⟨Or.inl (gt_at (i := 483) (by decide +kernel) (by decide +kernel)), ok_MX4_colourOf, gt_at (i := 484) (by decide +kernel) (by decide +kernel), gt_at (i := 485) (by decide +kernel) (by decide +kernel), _, _, rfl⟩
theorem lmX4_61 : mVl RX4 61 MX4_copiesOf 1 4 := ⟨Or.inl (gt_at (i := 487) (by decide +kernel) (by decide +kernel)), ok_MX4_copiesOf, gt_at (i := 488) (by decide +kernel) (by decide +kernel), gt_at (i := 489) (by decide +kernel) (by decide +kernel), _, _, rfl⟩
theorem lmX4_64 : mVl RX4 64 MX4_cellCount 0 4 := ⟨Or.inl (gt_at (i := 511) (by decide +kernel) (by decide +kernel)), ok_MX4_cellCount, gt_at (i := 500) (by decide +kernel) (by decide +kernel), gt_at (i := 501) (by decide +kernel) (by decide +kernel), _, _, rfl⟩
theorem lmX4_68 : mSl RX4 68 MX11_at 2 := ⟨Or.inr ⟨RX11, nt_at (i := 473) (by decide +kernel) (by decide +kernel)⟩, ok_MX11_at, gt_at (i := 474) (by decide +kernel) (by decide +kernel)⟩
theorem lmX4_72 : mVl RX4 72 MX4_cellAt 1 4 := ⟨Or.inl (gt_at (i := 516) (by decide +kernel) (by decide +kernel)), ok_MX4_cellAt, gt_at (i := 517) (by decide +kernel) (by decide +kernel), gt_at (i := 518) (by decide +kernel) (by decide +kernel), _, _, rfl⟩
theorem lmX4_75 : mVl RX4 75 MX4_openMask 0 4 := ⟨Or.inl (gt_at (i := 528) (by decide +kernel) (by decide +kernel)), ok_MX4_openMask, gt_at (i := 529) (by decide +kernel) (by decide +kernel), gt_at (i := 530) (by decide +kernel) (by decide +kernel), _, _, rfl⟩
theorem lmX4_79 : mSl RX4 79 MJ13_bitCount_95d88 1 := ⟨Or.inl (gt_at (i := 533) (by decide +kernel) (by decide +kernel)), ok_MJ13_bitCount_95d88, gt_at (i := 534) (by decide +kernel) (by decide +kernel)⟩
theorem lmX4_85 : mVl RX4 85 MX4_isHole 1 4 := ⟨Or.inl (gt_at (i := 532) (by decide +kernel) (by decide +kernel)), ok_MX4_isHole, gt_at (i := 513) (by decide +kernel) (by decide +kernel), gt_at (i := 514) (by decide +kernel) (by decide +kernel), _, _, rfl⟩
theorem lmX4_89 : mSl RX4 89 MJ6_bitCount_0f7a4 1 := ⟨Or.inl (gt_at (i := 603) (by decide +kernel) (by decide +kernel)), ok_MJ6_bitCount_0f7a4, gt_at (i := 553) (by decide +kernel) (by decide +kernel)⟩
theorem lmX5_21 : mIl RX5 21 MX4_init 0 := ⟨Or.inr ⟨RX11, nt_at (i := 194) (by decide +kernel) (by decide +kernel)⟩, ok_MX4_init, gt_at (i := 110) (by decide +kernel) (by decide +kernel), by decide +kernel, rfl⟩
theorem lmX5_44 : mVl RX5 44 MX4_copyFrom 1 4 := ⟨Or.inl (gt_at (i := 817) (by decide +kernel) (by decide +kernel)), ok_MX4_copyFrom, gt_at (i := 462) (by decide +kernel) (by decide +kernel), gt_at (i := 463) (by decide +kernel) (by decide +kernel), _, _, rfl⟩
theorem lmX5_51 : mVl RX5 51 MX5_readBoard 0 5 := ⟨Or.inl (gt_at (i := 769) (by decide +kernel) (by decide +kernel)), ok_MX5_readBoard, gt_at (i := 771) (by decide +kernel) (by decide +kernel), gt_at (i := 10) (by decide +kernel) (by decide +kernel), _, _, rfl⟩
theorem lmX5_55 : mVl RX5 55 MX5_look 0 5 := ⟨Or.inl (gt_at (i := 785) (by decide +kernel) (by decide +kernel)), ok_MX5_look, gt_at (i := 787) (by decide +kernel) (by decide +kernel), gt_at (i := 14) (by decide +kernel) (by decide +kernel), _, _, rfl⟩
theorem lmX5_59 : mVl RX5 59 MX5_readPiece 0 5 := ⟨Or.inl (gt_at (i := 795) (by decide +kernel) (by decide +kernel)), ok_MX5_readPiece, gt_at (i := 797) (by decide +kernel) (by decide +kernel), gt_at (i := 16) (by decide +kernel) (by decide +kernel), _, _, rfl⟩
theorem lmX5_62 : mVl RX5 62 MX5_readRows 2 5 := ⟨Or.inl (gt_at (i := 773) (by decide +kernel) (by decide +kernel)), ok_MX5_readRows, gt_at (i := 775) (by decide +kernel) (by decide +kernel), gt_at (i := 11) (by decide +kernel) (by decide +kernel), _, _, rfl⟩
theorem lmX5_72 : mVl RX5 72 MX5_readRow 2 5 := ⟨Or.inl (gt_at (i := 777) (by decide +kernel) (by decide +kernel)), ok_MX5_readRow, gt_at (i := 779) (by decide +kernel) (by decide +kernel), gt_at (i := 12) (by decide +kernel) (by decide +kernel), _, _, rfl⟩
theorem lmX5_76 : mVl RX5 76 MX5_readCell 2 5 := ⟨Or.inl (gt_at (i := 781) (by decide +kernel) (by decide +kernel)), ok_MX5_readCell, gt_at (i := 783) (by decide +kernel) (by decide +kernel), gt_at (i := 13) (by decide +kernel) (by decide +kernel), _, _, rfl⟩
theorem lmX5_80 : mVl RX5 80 MX5_readSquare 2 5 := ⟨Or.inl (gt_at (i := 791) (by decide +kernel) (by decide +kernel)), ok_MX5_readSquare, gt_at (i := 793) (by decide +kernel) (by decide +kernel), gt_at (i := 15) (by decide +kernel) (by decide +kernel), _, _, rfl⟩
theorem lmX5_83 : mVl RX5 83 MX4_putCell 2 4 := ⟨Or.inl (gt_at (i := 789) (by decide +kernel) (by decide +kernel)), ok_MX4_putCell, gt_at (i := 521) (by decide +kernel) (by decide +kernel), gt_at (i := 522) (by decide +kernel) (by decide +kernel), _, _, rfl⟩
theorem lmX5_87 : mSl RX5 87 MX11_isWithin 3 := ⟨Or.inr ⟨RX11, nt_at (i := 790) (by decide +kernel) (by decide +kernel)⟩, ok_MX11_isWithin, gt_at (i := 447) (by decide +kernel) (by decide +kernel)⟩
theorem lmX5_91 : mSl RX5 91 MX6_isShape 1 := ⟨Or.inl (gt_at (i := 799) (by decide +kernel) (by decide +kernel)), ok_MX6_isShape, gt_at (i := 549) (by decide +kernel) (by decide +kernel)⟩
theorem lmX5_97 : mVl RX5 97 MX5_readOptions 0 5 := ⟨Or.inl (gt_at (i := 800) (by decide +kernel) (by decide +kernel)), ok_MX5_readOptions, gt_at (i := 802) (by decide +kernel) (by decide +kernel), gt_at (i := 17) (by decide +kernel) (by decide +kernel), _, _, rfl⟩
theorem lmX5_100 : mVl RX5 100 MX5_readDigit 1 5 := ⟨Or.inl (gt_at (i := 804) (by decide +kernel) (by decide +kernel)), ok_MX5_readDigit, gt_at (i := 806) (by decide +kernel) (by decide +kernel), gt_at (i := 18) (by decide +kernel) (by decide +kernel), _, _, rfl⟩
theorem lmX5_104 : mSl RX5 104 MX6_normalize 1 := ⟨Or.inl (gt_at (i := 808) (by decide +kernel) (by decide +kernel)), ok_MX6_normalize, gt_at (i := 563) (by decide +kernel) (by decide +kernel)⟩
theorem lmX5_113 : mVl RX5 113 MX4_append 4 4 := ⟨Or.inl (gt_at (i := 812) (by decide +kernel) (by decide +kernel)), ok_MX4_append, gt_at (i := 566) (by decide +kernel) (by decide +kernel), gt_at (i := 567) (by decide +kernel) (by decide +kernel), _, _, rfl⟩
theorem lmX6_10 : mSl RX6 10 MJ6_bitCount_0f7a4 1 := ⟨Or.inl (gt_at (i := 552) (by decide +kernel) (by decide +kernel)), ok_MJ6_bitCount_0f7a4, gt_at (i := 553) (by decide +kernel) (by decide +kernel)⟩
theorem lmX6_16 : mSl RX6 16 MX6_hangsTogether 1 := ⟨Or.inl (gt_at (i := 558) (by decide +kernel) (by decide +kernel)), ok_MX6_hangsTogether, gt_at (i := 559) (by decide +kernel) (by decide +kernel)⟩
theorem lmX6_23 : mSl RX6 23 MX6_hasSquare 2 := ⟨Or.inl (gt_at (i := 636) (by decide +kernel) (by decide +kernel)), ok_MX6_hasSquare, gt_at (i := 637) (by decide +kernel) (by decide +kernel)⟩
theorem lmX6_27 : mSl RX6 27 MX6_normalize 1 := ⟨Or.inl (gt_at (i := 639) (by decide +kernel) (by decide +kernel)), ok_MX6_normalize, gt_at (i := 563) (by decide +kernel) (by decide +kernel)⟩
theorem lmX7_15 : mVl RX7 15 MX7_strikeSome 1 6 := ⟨Or.inl (gt_at (i := 974) (by decide +kernel) (by decide +kernel)), ok_MX7_strikeSome, gt_at (i := 976) (by decide +kernel) (by decide +kernel), gt_at (i := 33) (by decide +kernel) (by decide +kernel), _, _, rfl⟩
theorem lmX7_19 : mVl RX7 19 MX7_limitOf 1 6 := ⟨Or.inl (gt_at (i := 978) (by decide +kernel) (by decide +kernel)), ok_MX7_limitOf, gt_at (i := 980) (by decide +kernel) (by decide +kernel), gt_at (i := 34) (by decide +kernel) (by decide +kernel), _, _, rfl⟩
theorem lmX7_23 : mVl RX7 23 MX7_leavesAllCoverable 2 6 := ⟨Or.inl (gt_at (i := 983) (by decide +kernel) (by decide +kernel)), ok_MX7_leavesAllCoverable, gt_at (i := 985) (by decide +kernel) (by decide +kernel), gt_at (i := 35) (by decide +kernel) (by decide +kernel), _, _, rfl⟩
theorem lmX7_39 : mVl RX7 39 MX3_maskOf 1 3 := ⟨Or.inl (gt_at (i := 987) (by decide +kernel) (by decide +kernel)), ok_MX3_maskOf, gt_at (i := 677) (by decide +kernel) (by decide +kernel), gt_at (i := 678) (by decide +kernel) (by decide +kernel), _, _, rfl⟩
theorem lmX7_47 : mVl RX7 47 MX3_pieceOf 1 3 := ⟨Or.inl (gt_at (i := 992) (by decide +kernel) (by decide +kernel)), ok_MX3_pieceOf, gt_at (i := 720) (by decide +kernel) (by decide +kernel), gt_at (i := 721) (by decide +kernel) (by decide +kernel), _, _, rfl⟩
theorem lmX7_51 : mSl RX7 51 MX11_holds 2 := ⟨Or.inr ⟨RX11, nt_at (i := 1001) (by decide +kernel) (by decide +kernel)⟩, ok_MX11_holds, gt_at (i := 747) (by decide +kernel) (by decide +kernel)⟩
theorem lmX8_27 : mVl RX8 27 MX8_fillNext 2 7 := ⟨Or.inl (gt_at (i := 690) (by decide +kernel) (by decide +kernel)), ok_MX8_fillNext, gt_at (i := 692) (by decide +kernel) (by decide +kernel), gt_at (i := 9) (by decide +kernel) (by decide +kernel), _, _, rfl⟩
theorem lmX8_31 : mVl RX8 31 MX4_cellCount 0 4 := ⟨Or.inl (gt_at (i := 694) (by decide +kernel) (by decide +kernel)), ok_MX4_cellCount, gt_at (i := 500) (by decide +kernel) (by decide +kernel), gt_at (i := 501) (by decide +kernel) (by decide +kernel), _, _, rfl⟩
theorem lmX8_35 : mSl RX8 35 MX8_mapCell 3 := ⟨Or.inl (gt_at (i := 695) (by decide +kernel) (by decide +kernel)), ok_MX8_mapCell, gt_at (i := 696) (by decide +kernel) (by decide +kernel)⟩
theorem lmX8_39 : mVl RX8 39 MX4_cellAt 1 4 := ⟨Or.inl (gt_at (i := 700) (by decide +kernel) (by decide +kernel)), ok_MX4_cellAt, gt_at (i := 517) (by decide +kernel) (by decide +kernel), gt_at (i := 518) (by decide +kernel) (by decide +kernel), _, _, rfl⟩
theorem lmX8_43 : mSl RX8 43 MX11_put 3 := ⟨Or.inr ⟨RX11, nt_at (i := 701) (by decide +kernel) (by decide +kernel)⟩, ok_MX11_put, gt_at (i := 477) (by decide +kernel) (by decide +kernel)⟩
theorem lmX8_47 : mVl RX8 47 MX4_columnOf 1 4 := ⟨Or.inl (gt_at (i := 698) (by decide +kernel) (by decide +kernel)), ok_MX4_columnOf, gt_at (i := 660) (by decide +kernel) (by decide +kernel), gt_at (i := 661) (by decide +kernel) (by decide +kernel), _, _, rfl⟩
theorem lmX8_50 : mVl RX8 50 MX4_rowOf 1 4 := ⟨Or.inl (gt_at (i := 699) (by decide +kernel) (by decide +kernel)), ok_MX4_rowOf, gt_at (i := 664) (by decide +kernel) (by decide +kernel), gt_at (i := 665) (by decide +kernel) (by decide +kernel), _, _, rfl⟩
theorem lmX8_53 : mSl RX8 53 MX11_at 2 := ⟨Or.inr ⟨RX11, nt_at (i := 952) (by decide +kernel) (by decide +kernel)⟩, ok_MX11_at, gt_at (i := 474) (by decide +kernel) (by decide +kernel)⟩
theorem lmX9_66 : mVl RX9 66 MX4_copiesOf 1 4 := ⟨Or.inl (gt_at (i := 834) (by decide +kernel) (by decide +kernel)), ok_MX4_copiesOf, gt_at (i := 488) (by decide +kernel) (by decide +kernel), gt_at (i := 489) (by decide +kernel) (by decide +kernel), _, _, rfl⟩
theorem lmX9_72 : mSl RX9 72 MX11_put 3 := ⟨Or.inr ⟨RX11, nt_at (i := 835) (by decide +kernel) (by decide +kernel)⟩, ok_MX11_put, gt_at (i := 477) (by decide +kernel) (by decide +kernel)⟩
theorem lmX9_82 : mVl RX9 82 MX4_copyCount 0 4 := ⟨Or.inl (gt_at (i := 836) (by decide +kernel) (by decide +kernel)), ok_MX4_copyCount, gt_at (i := 837) (by decide +kernel) (by decide +kernel), gt_at (i := 838) (by decide +kernel) (by decide +kernel), _, _, rfl⟩
theorem lmX9_85 : mVl RX9 85 MX9_openLevel 0 8 := ⟨Or.inl (gt_at (i := 840) (by decide +kernel) (by decide +kernel)), ok_MX9_openLevel, gt_at (i := 842) (by decide +kernel) (by decide +kernel), gt_at (i := 20) (by decide +kernel) (by decide +kernel), _, _, rfl⟩
theorem lmX9_94 : mVl RX9 94 MX9_isCover 0 8 := ⟨Or.inl (gt_at (i := 852) (by decide +kernel) (by decide +kernel)), ok_MX9_isCover, gt_at (i := 854) (by decide +kernel) (by decide +kernel), gt_at (i := 21) (by decide +kernel) (by decide +kernel), _, _, rfl⟩
theorem lmX9_98 : mVl RX9 98 MX9_nextThatFits 0 8 := ⟨Or.inl (gt_at (i := 856) (by decide +kernel) (by decide +kernel)), ok_MX9_nextThatFits, gt_at (i := 858) (by decide +kernel) (by decide +kernel), gt_at (i := 22) (by decide +kernel) (by decide +kernel), _, _, rfl⟩
theorem lmX9_101 : mVl RX9 101 MX9_stepBack 0 8 := ⟨Or.inl (gt_at (i := 871) (by decide +kernel) (by decide +kernel)), ok_MX9_stepBack, gt_at (i := 873) (by decide +kernel) (by decide +kernel), gt_at (i := 25) (by decide +kernel) (by decide +kernel), _, _, rfl⟩
theorem lmX9_104 : mVl RX9 104 MX9_stepOn 1 8 := ⟨Or.inl (gt_at (i := 879) (by decide +kernel) (by decide +kernel)), ok_MX9_stepOn, gt_at (i := 881) (by decide +kernel) (by decide +kernel), gt_at (i := 27) (by decide +kernel) (by decide +kernel), _, _, rfl⟩
theorem lmX9_111 : mVl RX9 111 MX9_change 2 8 := ⟨Or.inl (gt_at (i := 875) (by decide +kernel) (by decide +kernel)), ok_MX9_change, gt_at (i := 877) (by decide +kernel) (by decide +kernel), gt_at (i := 26) (by decide +kernel) (by decide +kernel), _, _, rfl⟩
theorem lmX9_115 : mSl RX9 115 MX11_at 2 := ⟨Or.inr ⟨RX11, nt_at (i := 846) (by decide +kernel) (by decide +kernel)⟩, ok_MX11_at, gt_at (i := 474) (by decide +kernel) (by decide +kernel)⟩
theorem lmX9_121 : mSl RX9 121 MX11_smallestCell 1 := ⟨Or.inr ⟨RX11, nt_at (i := 845) (by decide +kernel) (by decide +kernel)⟩, ok_MX11_smallestCell, gt_at (i := 681) (by decide +kernel) (by decide +kernel)⟩
theorem lmX9_131 : mVl RX9 131 MX3_maskOf 1 3 := ⟨Or.inl (gt_at (i := 860) (by decide +kernel) (by decide +kernel)), ok_MX3_maskOf, gt_at (i := 677) (by decide +kernel) (by decide +kernel), gt_at (i := 678) (by decide +kernel) (by decide +kernel), _, _, rfl⟩
theorem lmX9_135 : mVl RX9 135 MX3_pieceOf 1 3 := ⟨Or.inl (gt_at (i := 861) (by decide +kernel) (by decide +kernel)), ok_MX3_pieceOf, gt_at (i := 720) (by decide +kernel) (by decide +kernel), gt_at (i := 721) (by decide +kernel) (by decide +kernel), _, _, rfl⟩
theorem lmX9_138 : mVl RX9 138 MX9_isAllowed 2 8 := ⟨Or.inl (gt_at (i := 862) (by decide +kernel) (by decide +kernel)), ok_MX9_isAllowed, gt_at (i := 864) (by decide +kernel) (by decide +kernel), gt_at (i := 23) (by decide +kernel) (by decide +kernel), _, _, rfl⟩
theorem lmX9_142 : mVl RX9 142 MX4_colourOf 1 4 := ⟨Or.inl (gt_at (i := 866) (by decide +kernel) (by decide +kernel)), ok_MX4_colourOf, gt_at (i := 484) (by decide +kernel) (by decide +kernel), gt_at (i := 485) (by decide +kernel) (by decide +kernel), _, _, rfl⟩
theorem lmX9_148 : mVl RX9 148 MX9_around 1 8 := ⟨Or.inl (gt_at (i := 867) (by decide +kernel) (by decide +kernel)), ok_MX9_around, gt_at (i := 869) (by decide +kernel) (by decide +kernel), gt_at (i := 24) (by decide +kernel) (by decide +kernel), _, _, rfl⟩
theorem lmX9_152 : mSl RX9 152 MX11_holds 2 := ⟨Or.inr ⟨RX11, nt_at (i := 887) (by decide +kernel) (by decide +kernel)⟩, ok_MX11_holds, gt_at (i := 747) (by decide +kernel) (by decide +kernel)⟩
theorem lmX10_22 : mVl RX10 22 MX10_weighCells 3 9 := ⟨Or.inl (gt_at (i := 1010) (by decide +kernel) (by decide +kernel)), ok_MX10_weighCells, gt_at (i := 1012) (by decide +kernel) (by decide +kernel), gt_at (i := 36) (by decide +kernel) (by decide +kernel), _, _, rfl⟩
theorem lmX10_26 : mVl RX10 26 MX10_weighPieces 1 9 := ⟨Or.inl (gt_at (i := 1020) (by decide +kernel) (by decide +kernel)), ok_MX10_weighPieces, gt_at (i := 1022) (by decide +kernel) (by decide +kernel), gt_at (i := 38) (by decide +kernel) (by decide +kernel), _, _, rfl⟩
theorem lmX10_35 : mSl RX10 35 MX11_at 2 := ⟨Or.inr ⟨RX11, nt_at (i := 1032) (by decide +kernel) (by decide +kernel)⟩, ok_MX11_at, gt_at (i := 474) (by decide +kernel) (by decide +kernel)⟩
theorem lmX10_42 : mVl RX10 42 MX4_copiesOf 1 4 := ⟨Or.inl (gt_at (i := 1034) (by decide +kernel) (by decide +kernel)), ok_MX4_copiesOf, gt_at (i := 488) (by decide +kernel) (by decide +kernel), gt_at (i := 489) (by decide +kernel) (by decide +kernel), _, _, rfl⟩
theorem lmX10_46 : mVl RX10 46 MX10_addAll 2 9 := ⟨Or.inl (gt_at (i := 1035) (by decide +kernel) (by decide +kernel)), ok_MX10_addAll, gt_at (i := 1037) (by decide +kernel) (by decide +kernel), gt_at (i := 40) (by decide +kernel) (by decide +kernel), _, _, rfl⟩
theorem lmX10_56 : mVl RX10 56 MX10_weightOf 1 9 := ⟨Or.inl (gt_at (i := 1026) (by decide +kernel) (by decide +kernel)), ok_MX10_weightOf, gt_at (i := 1028) (by decide +kernel) (by decide +kernel), gt_at (i := 39) (by decide +kernel) (by decide +kernel), _, _, rfl⟩
theorem lmX10_60 : mVl RX10 60 MX4_columnOf 1 4 := ⟨Or.inl (gt_at (i := 1014) (by decide +kernel) (by decide +kernel)), ok_MX4_columnOf, gt_at (i := 660) (by decide +kernel) (by decide +kernel), gt_at (i := 661) (by decide +kernel) (by decide +kernel), _, _, rfl⟩
theorem lmX10_63 : mVl RX10 63 MX4_rowOf 1 4 := ⟨Or.inl (gt_at (i := 1015) (by decide +kernel) (by decide +kernel)), ok_MX4_rowOf, gt_at (i := 664) (by decide +kernel) (by decide +kernel), gt_at (i := 665) (by decide +kernel) (by decide +kernel), _, _, rfl⟩
theorem lmX10_66 : mVl RX10 66 MX10_rest 1 9 := ⟨Or.inl (gt_at (i := 1016) (by decide +kernel) (by decide +kernel)), ok_MX10_rest, gt_at (i := 1018) (by decide +kernel) (by decide +kernel), gt_at (i := 37) (by decide +kernel) (by decide +kernel), _, _, rfl⟩
theorem lmX10_72 : mVl RX10 72 MX3_pieceOf 1 3 := ⟨Or.inl (gt_at (i := 1024) (by decide +kernel) (by decide +kernel)), ok_MX3_pieceOf, gt_at (i := 720) (by decide +kernel) (by decide +kernel), gt_at (i := 721) (by decide +kernel) (by decide +kernel), _, _, rfl⟩
theorem lmX10_75 : mVl RX10 75 MX3_maskOf 1 3 := ⟨Or.inl (gt_at (i := 1025) (by decide +kernel) (by decide +kernel)), ok_MX3_maskOf, gt_at (i := 677) (by decide +kernel) (by decide +kernel), gt_at (i := 678) (by decide +kernel) (by decide +kernel), _, _, rfl⟩
theorem lmX10_79 : mSl RX10 79 MX11_put 3 := ⟨Or.inr ⟨RX11, nt_at (i := 1033) (by decide +kernel) (by decide +kernel)⟩, ok_MX11_put, gt_at (i := 477) (by decide +kernel) (by decide +kernel)⟩
theorem lmX10_83 : mSl RX10 83 MX11_smallestCell 1 := ⟨Or.inr ⟨RX11, nt_at (i := 1030) (by decide +kernel) (by decide +kernel)⟩, ok_MX11_smallestCell, gt_at (i := 681) (by decide +kernel) (by decide +kernel)⟩
theorem lmX10_86 : mSl RX10 86 MX11_holds 2 := ⟨Or.inr ⟨RX11, nt_at (i := 1031) (by decide +kernel) (by decide +kernel)⟩, ok_MX11_holds, gt_at (i := 747) (by decide +kernel) (by decide +kernel)⟩
theorem lmX12_68 : mVl RX12 68 MX12_cells 0 11 := ⟨Or.inl (gt_at (i := 1196) (by decide +kernel) (by decide +kernel)), ok_MX12_cells, gt_at (i := 1198) (by decide +kernel) (by decide +kernel), gt_at (i := 43) (by decide +kernel) (by decide +kernel), _, _, rfl⟩
theorem lmX12_72 : mSl RX12 72 MX12_in 3 := ⟨Or.inl (gt_at (i := 1181) (by decide +kernel) (by decide +kernel)), ok_MX12_in, gt_at (i := 1182) (by decide +kernel) (by decide +kernel)⟩
theorem lmX12_76 : mVl RX12 76 MX12_isOpen 1 11 := ⟨Or.inl (gt_at (i := 1200) (by decide +kernel) (by decide +kernel)), ok_MX12_isOpen, gt_at (i := 1202) (by decide +kernel) (by decide +kernel), gt_at (i := 44) (by decide +kernel) (by decide +kernel), _, _, rfl⟩
theorem lmX12_82 : mSl RX12 82 MX12_squares 1 := ⟨Or.inl (gt_at (i := 1220) (by decide +kernel) (by decide +kernel)), ok_MX12_squares, gt_at (i := 1221) (by decide +kernel) (by decide +kernel)⟩
theorem lmX12_86 : mSl RX12 86 MX12_grown 1 := ⟨Or.inl (gt_at (i := 1223) (by decide +kernel) (by decide +kernel)), ok_MX12_grown, gt_at (i := 1224) (by decide +kernel) (by decide +kernel)⟩
theorem lmX12_89 : mSl RX12 89 MX12_normal 1 := ⟨Or.inl (gt_at (i := 1231) (by decide +kernel) (by decide +kernel)), ok_MX12_normal, gt_at (i := 1232) (by decide +kernel) (by decide +kernel)⟩
theorem lmX12_95 : mVl RX12 95 MX12_its 2 11 := ⟨Or.inl (gt_at (i := 1262) (by decide +kernel) (by decide +kernel)), ok_MX12_its, gt_at (i := 1264) (by decide +kernel) (by decide +kernel), gt_at (i := 49) (by decide +kernel) (by decide +kernel), _, _, rfl⟩
theorem lmX12_99 : mVl RX12 99 MX12_addsForm 1 11 := ⟨Or.inl (gt_at (i := 1274) (by decide +kernel) (by decide +kernel)), ok_MX12_addsForm, gt_at (i := 1276) (by decide +kernel) (by decide +kernel), gt_at (i := 52) (by decide +kernel) (by decide +kernel), _, _, rfl⟩
theorem lmX12_103 : mSl RX12 103 MX12_changed 2 := ⟨Or.inl (gt_at (i := 1278) (by decide +kernel) (by decide +kernel)), ok_MX12_changed, gt_at (i := 1279) (by decide +kernel) (by decide +kernel)⟩
theorem lmX12_109 : mVl RX12 109 MX12_findsForms 1 11 := ⟨Or.inl (gt_at (i := 1270) (by decide +kernel) (by decide +kernel)), ok_MX12_findsForms, gt_at (i := 1272) (by decide +kernel) (by decide +kernel), gt_at (i := 51) (by decide +kernel) (by decide +kernel), _, _, rfl⟩
theorem lmX12_112 : mVl RX12 112 MX12_cellsOf 4 11 := ⟨Or.inl (gt_at (i := 1281) (by decide +kernel) (by decide +kernel)), ok_MX12_cellsOf, gt_at (i := 1283) (by decide +kernel) (by decide +kernel), gt_at (i := 53) (by decide +kernel) (by decide +kernel), _, _, rfl⟩
theorem lmX12_116 : mSl RX12 116 MX12_lowest 1 := ⟨Or.inl (gt_at (i := 1285) (by decide +kernel) (by decide +kernel)), ok_MX12_lowest, gt_at (i := 1286) (by decide +kernel) (by decide +kernel)⟩
theorem lmX12_120 : mVl RX12 120 MX12_findsPlacements 0 11 := ⟨Or.inl (gt_at (i := 1266) (by decide +kernel) (by decide +kernel)), ok_MX12_findsPlacements, gt_at (i := 1268) (by decide +kernel) (by decide +kernel), gt_at (i := 50) (by decide +kernel) (by decide +kernel), _, _, rfl⟩
theorem lmX12_123 : mVl RX12 123 MX12_note 0 11 := ⟨Or.inl (gt_at (i := 1184) (by decide +kernel) (by decide +kernel)), ok_MX12_note, gt_at (i := 1186) (by decide +kernel) (by decide +kernel), gt_at (i := 41) (by decide +kernel) (by decide +kernel), _, _, rfl⟩
theorem lmX12_126 : mVl RX12 126 MX12_isCell 1 11 := ⟨Or.inl (gt_at (i := 1192) (by decide +kernel) (by decide +kernel)), ok_MX12_isCell, gt_at (i := 1194) (by decide +kernel) (by decide +kernel), gt_at (i := 42) (by decide +kernel) (by decide +kernel), _, _, rfl⟩
theorem lmX12_129 : mVl RX12 129 MX12_opens 0 11 := ⟨Or.inl (gt_at (i := 1204) (by decide +kernel) (by decide +kernel)), ok_MX12_opens, gt_at (i := 1206) (by decide +kernel) (by decide +kernel), gt_at (i := 45) (by decide +kernel) (by decide +kernel), _, _, rfl⟩
theorem lmX12_132 : mSl RX12 132 MX12_isShape 1 := ⟨Or.inl (gt_at (i := 1216) (by decide +kernel) (by decide +kernel)), ok_MX12_isShape, gt_at (i := 1217) (by decide +kernel) (by decide +kernel)⟩
theorem lmX12_135 : mVl RX12 135 MX12_adds 4 11 := ⟨Or.inl (gt_at (i := 1227) (by decide +kernel) (by decide +kernel)), ok_MX12_adds, gt_at (i := 1229) (by decide +kernel) (by decide +kernel), gt_at (i := 46) (by decide +kernel) (by decide +kernel), _, _, rfl⟩
theorem lmX12_139 : mVl RX12 139 MX12_isPiece 1 11 := ⟨Or.inl (gt_at (i := 1238) (by decide +kernel) (by decide +kernel)), ok_MX12_isPiece, gt_at (i := 1240) (by decide +kernel) (by decide +kernel), gt_at (i := 47) (by decide +kernel) (by decide +kernel), _, _, rfl⟩
theorem lmX12_142 : mVl RX12 142 MX12_sets 3 11 := ⟨Or.inl (gt_at (i := 1246) (by decide +kernel) (by decide +kernel)), ok_MX12_sets, gt_at (i := 1248) (by decide +kernel) (by decide +kernel), gt_at (i := 48) (by decide +kernel) (by decide +kernel), _, _, rfl⟩
theorem lmX12_146 : mVl RX12 146 MX12_isSymmetry 1 11 := ⟨Or.inl (gt_at (i := 1288) (by decide +kernel) (by decide +kernel)), ok_MX12_isSymmetry, gt_at (i := 1290) (by decide +kernel) (by decide +kernel), gt_at (i := 54) (by decide +kernel) (by decide +kernel), _, _, rfl⟩
theorem lmX12_149 : mVl RX12 149 MX12_placementsOf 1 11 := ⟨Or.inl (gt_at (i := 1304) (by decide +kernel) (by decide +kernel)), ok_MX12_placementsOf, gt_at (i := 1306) (by decide +kernel) (by decide +kernel), gt_at (i := 56) (by decide +kernel) (by decide +kernel), _, _, rfl⟩
theorem lmX12_152 : mVl RX12 152 MX12_has 2 11 := ⟨Or.inl (gt_at (i := 1316) (by decide +kernel) (by decide +kernel)), ok_MX12_has, gt_at (i := 1318) (by decide +kernel) (by decide +kernel), gt_at (i := 57) (by decide +kernel) (by decide +kernel), _, _, rfl⟩
theorem lmX12_178 : mVl RX12 178 MX12_here 0 11 := ⟨Or.inl (gt_at (i := 1336) (by decide +kernel) (by decide +kernel)), ok_MX12_here, gt_at (i := 1338) (by decide +kernel) (by decide +kernel), gt_at (i := 59) (by decide +kernel) (by decide +kernel), _, _, rfl⟩
theorem lmX12_181 : mVl RX12 181 MX12_isInRow 2 11 := ⟨Or.inl (gt_at (i := 1340) (by decide +kernel) (by decide +kernel)), ok_MX12_isInRow, gt_at (i := 1342) (by decide +kernel) (by decide +kernel), gt_at (i := 60) (by decide +kernel) (by decide +kernel), _, _, rfl⟩
theorem lmX12_185 : mSl RX12 185 MX12_isPart 2 := ⟨Or.inl (gt_at (i := 1344) (by decide +kernel) (by decide +kernel)), ok_MX12_isPart, gt_at (i := 1345) (by decide +kernel) (by decide +kernel)⟩
theorem lmX12_197 : mVl RX12 197 MX12_readsRows 1 11 := ⟨Or.inl (gt_at (i := 1332) (by decide +kernel) (by decide +kernel)), ok_MX12_readsRows, gt_at (i := 1334) (by decide +kernel) (by decide +kernel), gt_at (i := 58) (by decide +kernel) (by decide +kernel), _, _, rfl⟩
theorem lmX12_201 : mVl RX12 201 MX12_readsOption 0 11 := ⟨Or.inl (gt_at (i := 1351) (by decide +kernel) (by decide +kernel)), ok_MX12_readsOption, gt_at (i := 1353) (by decide +kernel) (by decide +kernel), gt_at (i := 62) (by decide +kernel) (by decide +kernel), _, _, rfl⟩
theorem lmX12_204 : mVl RX12 204 MX12_readsPiece 0 11 := ⟨Or.inl (gt_at (i := 1347) (by decide +kernel) (by decide +kernel)), ok_MX12_readsPiece, gt_at (i := 1349) (by decide +kernel) (by decide +kernel), gt_at (i := 61) (by decide +kernel) (by decide +kernel), _, _, rfl⟩
theorem lmX12_207 : mVl RX12 207 MX12_exchanges 0 11 := ⟨Or.inl (gt_at (i := 1355) (by decide +kernel) (by decide +kernel)), ok_MX12_exchanges, gt_at (i := 1357) (by decide +kernel) (by decide +kernel), gt_at (i := 63) (by decide +kernel) (by decide +kernel), _, _, rfl⟩
theorem lmX12_214 : mVl RX12 214 MX12_beside 1 11 := ⟨Or.inl (gt_at (i := 1396) (by decide +kernel) (by decide +kernel)), ok_MX12_beside, gt_at (i := 1398) (by decide +kernel) (by decide +kernel), gt_at (i := 72) (by decide +kernel) (by decide +kernel), _, _, rfl⟩
theorem lmX12_236 : mVl RX12 236 MX12_turns 2 11 := ⟨Or.inl (gt_at (i := 1383) (by decide +kernel) (by decide +kernel)), ok_MX12_turns, gt_at (i := 1385) (by decide +kernel) (by decide +kernel), gt_at (i := 69) (by decide +kernel) (by decide +kernel), _, _, rfl⟩
theorem lmX12_240 : mVl RX12 240 MX12_all 0 11 := ⟨Or.inl (gt_at (i := 1375) (by decide +kernel) (by decide +kernel)), ok_MX12_all, gt_at (i := 1377) (by decide +kernel) (by decide +kernel), gt_at (i := 67) (by decide +kernel) (by decide +kernel), _, _, rfl⟩
theorem lmX12_244 : mVl RX12 244 MX12_goesBack 0 11 := ⟨Or.inl (gt_at (i := 1379) (by decide +kernel) (by decide +kernel)), ok_MX12_goesBack, gt_at (i := 1381) (by decide +kernel) (by decide +kernel), gt_at (i := 68) (by decide +kernel) (by decide +kernel), _, _, rfl⟩
theorem lmX12_247 : mVl RX12 247 MX12_isCover 0 11 := ⟨Or.inl (gt_at (i := 1387) (by decide +kernel) (by decide +kernel)), ok_MX12_isCover, gt_at (i := 1389) (by decide +kernel) (by decide +kernel), gt_at (i := 70) (by decide +kernel) (by decide +kernel), _, _, rfl⟩
theorem lmX12_253 : mVl RX12 253 MX12_fits 1 11 := ⟨Or.inl (gt_at (i := 1392) (by decide +kernel) (by decide +kernel)), ok_MX12_fits, gt_at (i := 1394) (by decide +kernel) (by decide +kernel), gt_at (i := 71) (by decide +kernel) (by decide +kernel), _, _, rfl⟩
theorem lmX12_256 : mVl RX12 256 MX12_begins 0 11 := ⟨Or.inl (gt_at (i := 1367) (by decide +kernel) (by decide +kernel)), ok_MX12_begins, gt_at (i := 1369) (by decide +kernel) (by decide +kernel), gt_at (i := 65) (by decide +kernel) (by decide +kernel), _, _, rfl⟩
theorem lmX12_259 : mVl RX12 259 MX12_goesOn 0 11 := ⟨Or.inl (gt_at (i := 1371) (by decide +kernel) (by decide +kernel)), ok_MX12_goesOn, gt_at (i := 1373) (by decide +kernel) (by decide +kernel), gt_at (i := 66) (by decide +kernel) (by decide +kernel), _, _, rfl⟩
theorem lmX12_265 : mVl RX12 265 MX12_searches 0 11 := ⟨Or.inl (gt_at (i := 1363) (by decide +kernel) (by decide +kernel)), ok_MX12_searches, gt_at (i := 1365) (by decide +kernel) (by decide +kernel), gt_at (i := 64) (by decide +kernel) (by decide +kernel), _, _, rfl⟩
theorem lmX12_268 : mVl RX12 268 MX12_seeks 1 11 := ⟨Or.inl (gt_at (i := 1408) (by decide +kernel) (by decide +kernel)), ok_MX12_seeks, gt_at (i := 1410) (by decide +kernel) (by decide +kernel), gt_at (i := 73) (by decide +kernel) (by decide +kernel), _, _, rfl⟩
theorem lmX12_271 : mVl RX12 271 MX12_image 2 11 := ⟨Or.inl (gt_at (i := 1292) (by decide +kernel) (by decide +kernel)), ok_MX12_image, gt_at (i := 1294) (by decide +kernel) (by decide +kernel), gt_at (i := 55) (by decide +kernel) (by decide +kernel), _, _, rfl⟩
theorem lmX12_274 : mVl RX12 274 MX12_labels 2 11 := ⟨Or.inl (gt_at (i := 1428) (by decide +kernel) (by decide +kernel)), ok_MX12_labels, gt_at (i := 1430) (by decide +kernel) (by decide +kernel), gt_at (i := 75) (by decide +kernel) (by decide +kernel), _, _, rfl⟩
theorem lmX12_277 : mVl RX12 277 MX12_labelsAll 1 11 := ⟨Or.inl (gt_at (i := 1424) (by decide +kernel) (by decide +kernel)), ok_MX12_labelsAll, gt_at (i := 1426) (by decide +kernel) (by decide +kernel), gt_at (i := 74) (by decide +kernel) (by decide +kernel), _, _, rfl⟩
theorem lmX12_280 : mVl RX12 280 MX12_areAlike 2 11 := ⟨Or.inl (gt_at (i := 1432) (by decide +kernel) (by decide +kernel)), ok_MX12_areAlike, gt_at (i := 1434) (by decide +kernel) (by decide +kernel), gt_at (i := 76) (by decide +kernel) (by decide +kernel), _, _, rfl⟩
theorem lmX12_283 : mVl RX12 283 MX12_isUseless 1 11 := ⟨Or.inl (gt_at (i := 1448) (by decide +kernel) (by decide +kernel)), ok_MX12_isUseless, gt_at (i := 1450) (by decide +kernel) (by decide +kernel), gt_at (i := 78) (by decide +kernel) (by decide +kernel), _, _, rfl⟩
theorem lmX12_286 : mVl RX12 286 MX12_strikes 0 11 := ⟨Or.inl (gt_at (i := 1444) (by decide +kernel) (by decide +kernel)), ok_MX12_strikes, gt_at (i := 1446) (by decide +kernel) (by decide +kernel), gt_at (i := 77) (by decide +kernel) (by decide +kernel), _, _, rfl⟩
theorem lmX12_289 : mVl RX12 289 MX12_weight 4 11 := ⟨Or.inl (gt_at (i := 1468) (by decide +kernel) (by decide +kernel)), ok_MX12_weight, gt_at (i := 1470) (by decide +kernel) (by decide +kernel), gt_at (i := 81) (by decide +kernel) (by decide +kernel), _, _, rfl⟩
theorem lmX12_293 : mVl RX12 293 MX12_weights 4 11 := ⟨Or.inl (gt_at (i := 1464) (by decide +kernel) (by decide +kernel)), ok_MX12_weights, gt_at (i := 1466) (by decide +kernel) (by decide +kernel), gt_at (i := 80) (by decide +kernel) (by decide +kernel), _, _, rfl⟩
theorem lmX12_297 : mVl RX12 297 MX12_isProof 3 11 := ⟨Or.inl (gt_at (i := 1460) (by decide +kernel) (by decide +kernel)), ok_MX12_isProof, gt_at (i := 1462) (by decide +kernel) (by decide +kernel), gt_at (i := 79) (by decide +kernel) (by decide +kernel), _, _, rfl⟩
theorem lmX0_57 : Cond.methodLink RX0 57 yJ9_min_7cf53 ∈ gt := gt_at (i := 888) (by decide +kernel) (by decide +kernel)
theorem lmX5_107 : Cond.methodLink RX5 107 yJ9_max_7cf53 ∈ gt := gt_at (i := 809) (by decide +kernel) (by decide +kernel)
theorem lmX7_33 : Cond.methodLink RX7 33 yJ9_min_7cf53 ∈ gt := gt_at (i := 982) (by decide +kernel) (by decide +kernel)
theorem lS_yJ9_max_7cf53 : Cond.static yJ9_max_7cf53 ∈ gt := gt_at (i := 810) (by decide +kernel) (by decide +kernel)
theorem lC_yJ9_max_7cf53 : Cond.code yJ9_max_7cf53 cJ9_max_7cf53 2 (some .int) ∈ gt := gt_at (i := 811) (by decide +kernel) (by decide +kernel)
theorem lS_yJ9_min_7cf53 : Cond.static yJ9_min_7cf53 ∈ gt := gt_at (i := 889) (by decide +kernel) (by decide +kernel)
theorem lC_yJ9_min_7cf53 : Cond.code yJ9_min_7cf53 cJ9_min_7cf53 2 (some .int) ∈ gt := gt_at (i := 890) (by decide +kernel) (by decide +kernel)
theorem lfX11_12 : gfl RX11 12 10 0 := ⟨_, _, _, rfl, by decide, inX11, Or.inl (gt_at (i := 402) (by decide +kernel) (by decide +kernel))⟩
theorem lpX11_12 : pfF RX11 12 10 0 (.object "PolyominoCover$Problem") := ⟨_, _, _, tyX11, rfl, by decide, inX11, tyX11_ok, nmX11, rfl, rfl, by decide +kernel, gt_at (i := 402) (by decide +kernel) (by decide +kernel)⟩
theorem lfX11_19 : gfl RX11 19 10 1 := ⟨_, _, _, rfl, by decide, inX11, Or.inl (gt_at (i := 403) (by decide +kernel) (by decide +kernel))⟩
theorem lpX11_19 : pfF RX11 19 10 1 (.object "PolyominoCover$History") := ⟨_, _, _, tyX11, rfl, by decide, inX11, tyX11_ok, nmX11, rfl, rfl, by decide +kernel, gt_at (i := 403) (by decide +kernel) (by decide +kernel)⟩
theorem lfX11_26 : gfl RX11 26 10 2 := ⟨_, _, _, rfl, by decide, inX11, Or.inl (gt_at (i := 404) (by decide +kernel) (by decide +kernel))⟩
theorem lpX11_26 : pfF RX11 26 10 2 (.object "PolyominoCover$Reader") := ⟨_, _, _, tyX11, rfl, by decide, inX11, tyX11_ok, nmX11, rfl, rfl, by decide +kernel, gt_at (i := 404) (by decide +kernel) (by decide +kernel)⟩
theorem lfX11_33 : gfl RX11 33 10 3 := ⟨_, _, _, rfl, by decide, inX11, Or.inl (gt_at (i := 405) (by decide +kernel) (by decide +kernel))⟩
theorem lpX11_33 : pfF RX11 33 10 3 (.object "PolyominoCover$Forms") := ⟨_, _, _, tyX11, rfl, by decide, inX11, tyX11_ok, nmX11, rfl, rfl, by decide +kernel, gt_at (i := 405) (by decide +kernel) (by decide +kernel)⟩
theorem lfX11_40 : gfl RX11 40 10 4 := ⟨_, _, _, rfl, by decide, inX11, Or.inl (gt_at (i := 406) (by decide +kernel) (by decide +kernel))⟩
theorem lpX11_40 : pfF RX11 40 10 4 (.object "PolyominoCover$Placements") := ⟨_, _, _, tyX11, rfl, by decide, inX11, tyX11_ok, nmX11, rfl, rfl, by decide +kernel, gt_at (i := 406) (by decide +kernel) (by decide +kernel)⟩
theorem lfX11_47 : gfl RX11 47 10 5 := ⟨_, _, _, rfl, by decide, inX11, Or.inl (gt_at (i := 407) (by decide +kernel) (by decide +kernel))⟩
theorem lpX11_47 : pfF RX11 47 10 5 (.object "PolyominoCover$Symmetries") := ⟨_, _, _, tyX11, rfl, by decide, inX11, tyX11_ok, nmX11, rfl, rfl, by decide +kernel, gt_at (i := 407) (by decide +kernel) (by decide +kernel)⟩
theorem lfX11_56 : gfl RX11 56 10 6 := ⟨_, _, _, rfl, by decide, inX11, Or.inl (gt_at (i := 408) (by decide +kernel) (by decide +kernel))⟩
theorem lpX11_56 : pfF RX11 56 10 6 (.object "PolyominoCover$Walk") := ⟨_, _, _, tyX11, rfl, by decide, inX11, tyX11_ok, nmX11, rfl, rfl, by decide +kernel, gt_at (i := 408) (by decide +kernel) (by decide +kernel)⟩
theorem lfX11_65 : gfl RX11 65 10 7 := ⟨_, _, _, rfl, by decide, inX11, Or.inl (gt_at (i := 409) (by decide +kernel) (by decide +kernel))⟩
theorem lpX11_65 : pfF RX11 65 10 7 (.object "PolyominoCover$Covers") := ⟨_, _, _, tyX11, rfl, by decide, inX11, tyX11_ok, nmX11, rfl, rfl, by decide +kernel, gt_at (i := 409) (by decide +kernel) (by decide +kernel)⟩
theorem lfX11_72 : gfl RX11 72 10 8 := ⟨_, _, _, rfl, by decide, inX11, Or.inl (gt_at (i := 410) (by decide +kernel) (by decide +kernel))⟩
theorem lpX11_72 : pfF RX11 72 10 8 (.object "PolyominoCover$Sieve") := ⟨_, _, _, tyX11, rfl, by decide, inX11, tyX11_ok, nmX11, rfl, rfl, by decide +kernel, gt_at (i := 410) (by decide +kernel) (by decide +kernel)⟩
theorem lfX11_79 : gfl RX11 79 10 9 := ⟨_, _, _, rfl, by decide, inX11, Or.inl (gt_at (i := 411) (by decide +kernel) (by decide +kernel))⟩
theorem lpX11_79 : pfF RX11 79 10 9 (.object "PolyominoCover$Weights") := ⟨_, _, _, tyX11, rfl, by decide, inX11, tyX11_ok, nmX11, rfl, rfl, by decide +kernel, gt_at (i := 411) (by decide +kernel) (by decide +kernel)⟩
theorem lfX11_83 : gfl RX11 83 10 10 := ⟨_, _, _, rfl, by decide, inX11, Or.inl (gt_at (i := 412) (by decide +kernel) (by decide +kernel))⟩
theorem lpX11_83 : pfl RX11 83 10 10 (.boolean) := ⟨_, _, _, tyX11, rfl, by decide, inX11, tyX11_ok, nmX11, rfl, by decide +kernel, Or.inl (gt_at (i := 412) (by decide +kernel) (by decide +kernel))⟩
theorem lfX11_87 : gfl RX11 87 10 11 := ⟨_, _, _, rfl, by decide, inX11, Or.inl (gt_at (i := 413) (by decide +kernel) (by decide +kernel))⟩
theorem lpX11_87 : pfl RX11 87 10 11 (.boolean) := ⟨_, _, _, tyX11, rfl, by decide, inX11, tyX11_ok, nmX11, rfl, by decide +kernel, Or.inl (gt_at (i := 413) (by decide +kernel) (by decide +kernel))⟩
theorem lfX11_90 : gfl RX11 90 10 12 := ⟨_, _, _, rfl, by decide, inX11, Or.inl (gt_at (i := 414) (by decide +kernel) (by decide +kernel))⟩
theorem lpX11_90 : pfl RX11 90 10 12 (.boolean) := ⟨_, _, _, tyX11, rfl, by decide, inX11, tyX11_ok, nmX11, rfl, by decide +kernel, Or.inl (gt_at (i := 414) (by decide +kernel) (by decide +kernel))⟩
theorem lfX11_130 : gfl RX11 130 4 4 := ⟨_, _, _, rfl, by decide, inX4, Or.inr ⟨RX11, nt_at (i := 138) (by decide +kernel) (by decide +kernel)⟩⟩
theorem lfX11_151 : gfl RX11 151 4 9 := ⟨_, _, _, rfl, by decide, inX4, Or.inr ⟨RX11, nt_at (i := 144) (by decide +kernel) (by decide +kernel)⟩⟩
theorem lfX11_159 : gfl RX11 159 4 2 := ⟨_, _, _, rfl, by decide, inX4, Or.inr ⟨RX11, nt_at (i := 129) (by decide +kernel) (by decide +kernel)⟩⟩
theorem lpX11_159 : pfl RX11 159 4 2 (.int) := ⟨_, _, _, tyX4, rfl, by decide, inX4, tyX4_ok, nmX4, rfl, by decide +kernel, Or.inr ⟨RX11, nt_at (i := 129) (by decide +kernel) (by decide +kernel)⟩⟩
theorem lfX11_162 : gfl RX11 162 4 3 := ⟨_, _, _, rfl, by decide, inX4, Or.inr ⟨RX11, nt_at (i := 132) (by decide +kernel) (by decide +kernel)⟩⟩
theorem lpX11_162 : pfl RX11 162 4 3 (.int) := ⟨_, _, _, tyX4, rfl, by decide, inX4, tyX4_ok, nmX4, rfl, by decide +kernel, Or.inr ⟨RX11, nt_at (i := 132) (by decide +kernel) (by decide +kernel)⟩⟩
theorem lfX11_165 : gfl RX11 165 4 0 := ⟨_, _, _, rfl, by decide, inX4, Or.inr ⟨RX11, nt_at (i := 118) (by decide +kernel) (by decide +kernel)⟩⟩
theorem lfX11_168 : gfl RX11 168 4 1 := ⟨_, _, _, rfl, by decide, inX4, Or.inr ⟨RX11, nt_at (i := 124) (by decide +kernel) (by decide +kernel)⟩⟩
theorem lfX11_177 : gfl RX11 177 3 4 := ⟨_, _, _, rfl, by decide, inX3, Or.inr ⟨RX11, nt_at (i := 246) (by decide +kernel) (by decide +kernel)⟩⟩
theorem lfX11_180 : gfl RX11 180 7 1 := ⟨_, _, _, rfl, by decide, inX8, Or.inr ⟨RX11, nt_at (i := 274) (by decide +kernel) (by decide +kernel)⟩⟩
theorem lfX11_181 : gfl RX11 181 2 2 := ⟨_, _, _, rfl, by decide, inX2, Or.inr ⟨RX11, nt_at (i := 179) (by decide +kernel) (by decide +kernel)⟩⟩
theorem lfX11_223 : gfl RX11 223 5 1 := ⟨_, _, _, rfl, by decide, inX5, Or.inr ⟨RX11, nt_at (i := 197) (by decide +kernel) (by decide +kernel)⟩⟩
theorem lpX11_223 : pfl RX11 223 5 1 (.int) := ⟨_, _, _, tyX5, rfl, by decide, inX5, tyX5_ok, nmX5, rfl, by decide +kernel, Or.inr ⟨RX11, nt_at (i := 197) (by decide +kernel) (by decide +kernel)⟩⟩
theorem lfX11_238 : gfl RX11 238 0 7 := ⟨_, _, _, rfl, by decide, inX0, Or.inr ⟨RX11, nt_at (i := 357) (by decide +kernel) (by decide +kernel)⟩⟩
theorem lfX11_241 : gfl RX11 241 0 4 := ⟨_, _, _, rfl, by decide, inX0, Or.inr ⟨RX11, nt_at (i := 351) (by decide +kernel) (by decide +kernel)⟩⟩
theorem lfX11_242 : gfl RX11 242 0 5 := ⟨_, _, _, rfl, by decide, inX0, Or.inr ⟨RX11, nt_at (i := 353) (by decide +kernel) (by decide +kernel)⟩⟩
theorem lfX11_264 : gfl RX11 264 0 6 := ⟨_, _, _, rfl, by decide, inX0, Or.inr ⟨RX11, nt_at (i := 355) (by decide +kernel) (by decide +kernel)⟩⟩
theorem lfX0_9 : gfl RX0 9 0 3 := ⟨_, _, _, rfl, by decide, inX0, Or.inl (gt_at (i := 349) (by decide +kernel) (by decide +kernel))⟩
theorem lpX0_9 : pfF RX0 9 0 3 (.array .int) := ⟨_, _, _, tyX0, rfl, by decide, inX0, tyX0_ok, nmX0, rfl, rfl, by decide +kernel, gt_at (i := 349) (by decide +kernel) (by decide +kernel)⟩
theorem lfX0_15 : gfl RX0 15 0 4 := ⟨_, _, _, rfl, by decide, inX0, Or.inl (gt_at (i := 350) (by decide +kernel) (by decide +kernel))⟩
theorem lpX0_15 : pfl RX0 15 0 4 (.int) := ⟨_, _, _, tyX0, rfl, by decide, inX0, tyX0_ok, nmX0, rfl, by decide +kernel, Or.inl (gt_at (i := 350) (by decide +kernel) (by decide +kernel))⟩
theorem lpX0_19 : pfl RX0 19 0 5 (.int) := ⟨_, _, _, tyX0, rfl, by decide, inX0, tyX0_ok, nmX0, rfl, by decide +kernel, Or.inl (gt_at (i := 352) (by decide +kernel) (by decide +kernel))⟩
theorem lfX0_22 : gfl RX0 22 0 6 := ⟨_, _, _, rfl, by decide, inX0, Or.inl (gt_at (i := 354) (by decide +kernel) (by decide +kernel))⟩
theorem lpX0_22 : pfl RX0 22 0 6 (.int) := ⟨_, _, _, tyX0, rfl, by decide, inX0, tyX0_ok, nmX0, rfl, by decide +kernel, Or.inl (gt_at (i := 354) (by decide +kernel) (by decide +kernel))⟩
theorem lpX0_25 : pfl RX0 25 0 7 (.boolean) := ⟨_, _, _, tyX0, rfl, by decide, inX0, tyX0_ok, nmX0, rfl, by decide +kernel, Or.inl (gt_at (i := 356) (by decide +kernel) (by decide +kernel))⟩
theorem lfX0_29 : gfl RX0 29 0 0 := ⟨_, _, _, rfl, by decide, inX0, Or.inl (gt_at (i := 346) (by decide +kernel) (by decide +kernel))⟩
theorem lpX0_29 : pfF RX0 29 0 0 (.object "PolyominoCover$Walk") := ⟨_, _, _, tyX0, rfl, by decide, inX0, tyX0_ok, nmX0, rfl, rfl, by decide +kernel, gt_at (i := 346) (by decide +kernel) (by decide +kernel)⟩
theorem lfX0_33 : gfl RX0 33 0 1 := ⟨_, _, _, rfl, by decide, inX0, Or.inl (gt_at (i := 347) (by decide +kernel) (by decide +kernel))⟩
theorem lpX0_33 : pfF RX0 33 0 1 (.object "PolyominoCover$Placements") := ⟨_, _, _, tyX0, rfl, by decide, inX0, tyX0_ok, nmX0, rfl, rfl, by decide +kernel, gt_at (i := 347) (by decide +kernel) (by decide +kernel)⟩
theorem lfX0_37 : gfl RX0 37 0 2 := ⟨_, _, _, rfl, by decide, inX0, Or.inl (gt_at (i := 348) (by decide +kernel) (by decide +kernel))⟩
theorem lpX0_37 : pfF RX0 37 0 2 (.object "PolyominoCover$Symmetries") := ⟨_, _, _, tyX0, rfl, by decide, inX0, tyX0_ok, nmX0, rfl, rfl, by decide +kernel, gt_at (i := 348) (by decide +kernel) (by decide +kernel)⟩
theorem lfX0_54 : gfl RX0 54 8 9 := ⟨_, _, _, rfl, by decide, inX9, Or.inr ⟨RX11, nt_at (i := 296) (by decide +kernel) (by decide +kernel)⟩⟩
theorem lfX0_63 : gfl RX0 63 8 11 := ⟨_, _, _, rfl, by decide, inX9, Or.inr ⟨RX11, nt_at (i := 299) (by decide +kernel) (by decide +kernel)⟩⟩
theorem lfX0_64 : gfl RX0 64 8 15 := ⟨_, _, _, rfl, by decide, inX9, Or.inr ⟨RX11, nt_at (i := 306) (by decide +kernel) (by decide +kernel)⟩⟩
theorem lfX0_67 : gfl RX0 67 8 14 := ⟨_, _, _, rfl, by decide, inX9, Or.inr ⟨RX11, nt_at (i := 304) (by decide +kernel) (by decide +kernel)⟩⟩
theorem lfX0_70 : gfl RX0 70 8 12 := ⟨_, _, _, rfl, by decide, inX9, Or.inr ⟨RX11, nt_at (i := 301) (by decide +kernel) (by decide +kernel)⟩⟩
theorem lfX0_105 : gfl RX0 105 7 1 := ⟨_, _, _, rfl, by decide, inX8, Or.inr ⟨RX11, nt_at (i := 273) (by decide +kernel) (by decide +kernel)⟩⟩
theorem lfX1_9 : gfl RX1 9 1 0 := ⟨_, _, _, rfl, by decide, inX1, Or.inl (gt_at (i := 224) (by decide +kernel) (by decide +kernel))⟩
theorem lpX1_9 : pfF RX1 9 1 0 (.array .int) := ⟨_, _, _, tyX1, rfl, by decide, inX1, tyX1_ok, nmX1, rfl, rfl, by decide +kernel, gt_at (i := 224) (by decide +kernel) (by decide +kernel)⟩
theorem lfX1_15 : gfl RX1 15 1 1 := ⟨_, _, _, rfl, by decide, inX1, Or.inl (gt_at (i := 225) (by decide +kernel) (by decide +kernel))⟩
theorem lpX1_15 : pfF RX1 15 1 1 (.array .int) := ⟨_, _, _, tyX1, rfl, by decide, inX1, tyX1_ok, nmX1, rfl, rfl, by decide +kernel, gt_at (i := 225) (by decide +kernel) (by decide +kernel)⟩
theorem lfX2_11 : gfl RX2 11 2 0 := ⟨_, _, _, rfl, by decide, inX2, Or.inl (gt_at (i := 176) (by decide +kernel) (by decide +kernel))⟩
theorem lpX2_11 : pfF RX2 11 2 0 (.array (.object "PolyominoCover$Problem")) := ⟨_, _, _, tyX2, rfl, by decide, inX2, tyX2_ok, nmX2, rfl, rfl, by decide +kernel, gt_at (i := 176) (by decide +kernel) (by decide +kernel)⟩
theorem lfX2_17 : gfl RX2 17 2 1 := ⟨_, _, _, rfl, by decide, inX2, Or.inl (gt_at (i := 177) (by decide +kernel) (by decide +kernel))⟩
theorem lpX2_17 : pfl RX2 17 2 1 (.int) := ⟨_, _, _, tyX2, rfl, by decide, inX2, tyX2_ok, nmX2, rfl, by decide +kernel, Or.inl (gt_at (i := 177) (by decide +kernel) (by decide +kernel))⟩
theorem lfX2_21 : gfl RX2 21 2 2 := ⟨_, _, _, rfl, by decide, inX2, Or.inl (gt_at (i := 178) (by decide +kernel) (by decide +kernel))⟩
theorem lpX2_21 : pfl RX2 21 2 2 (.int) := ⟨_, _, _, tyX2, rfl, by decide, inX2, tyX2_ok, nmX2, rfl, by decide +kernel, Or.inl (gt_at (i := 178) (by decide +kernel) (by decide +kernel))⟩
theorem lfX3_9 : gfl RX3 9 3 0 := ⟨_, _, _, rfl, by decide, inX3, Or.inl (gt_at (i := 237) (by decide +kernel) (by decide +kernel))⟩
theorem lpX3_9 : pfF RX3 9 3 0 (.array .long) := ⟨_, _, _, tyX3, rfl, by decide, inX3, tyX3_ok, nmX3, rfl, rfl, by decide +kernel, gt_at (i := 237) (by decide +kernel) (by decide +kernel)⟩
theorem lfX3_15 : gfl RX3 15 3 1 := ⟨_, _, _, rfl, by decide, inX3, Or.inl (gt_at (i := 238) (by decide +kernel) (by decide +kernel))⟩
theorem lpX3_15 : pfF RX3 15 3 1 (.array .int) := ⟨_, _, _, tyX3, rfl, by decide, inX3, tyX3_ok, nmX3, rfl, rfl, by decide +kernel, gt_at (i := 238) (by decide +kernel) (by decide +kernel)⟩
theorem lfX3_19 : gfl RX3 19 3 2 := ⟨_, _, _, rfl, by decide, inX3, Or.inl (gt_at (i := 239) (by decide +kernel) (by decide +kernel))⟩
theorem lpX3_19 : pfF RX3 19 3 2 (.array .int) := ⟨_, _, _, tyX3, rfl, by decide, inX3, tyX3_ok, nmX3, rfl, rfl, by decide +kernel, gt_at (i := 239) (by decide +kernel) (by decide +kernel)⟩
theorem lfX3_22 : gfl RX3 22 3 3 := ⟨_, _, _, rfl, by decide, inX3, Or.inl (gt_at (i := 241) (by decide +kernel) (by decide +kernel))⟩
theorem lpX3_22 : pfF RX3 22 3 3 (.array .int) := ⟨_, _, _, tyX3, rfl, by decide, inX3, tyX3_ok, nmX3, rfl, rfl, by decide +kernel, gt_at (i := 241) (by decide +kernel) (by decide +kernel)⟩
theorem lfX3_25 : gfl RX3 25 3 4 := ⟨_, _, _, rfl, by decide, inX3, Or.inl (gt_at (i := 243) (by decide +kernel) (by decide +kernel))⟩
theorem lpX3_25 : pfl RX3 25 3 4 (.int) := ⟨_, _, _, tyX3, rfl, by decide, inX3, tyX3_ok, nmX3, rfl, by decide +kernel, Or.inl (gt_at (i := 243) (by decide +kernel) (by decide +kernel))⟩
theorem lpX3_29 : pfl RX3 29 3 5 (.long) := ⟨_, _, _, tyX3, rfl, by decide, inX3, tyX3_ok, nmX3, rfl, by decide +kernel, Or.inl (gt_at (i := 247) (by decide +kernel) (by decide +kernel))⟩
theorem lfX3_39 : gfl RX3 39 4 4 := ⟨_, _, _, rfl, by decide, inX4, Or.inr ⟨RX11, nt_at (i := 135) (by decide +kernel) (by decide +kernel)⟩⟩
theorem lfX3_82 : gfl RX3 82 4 0 := ⟨_, _, _, rfl, by decide, inX4, Or.inr ⟨RX11, nt_at (i := 116) (by decide +kernel) (by decide +kernel)⟩⟩
theorem lfX3_85 : gfl RX3 85 4 1 := ⟨_, _, _, rfl, by decide, inX4, Or.inr ⟨RX11, nt_at (i := 122) (by decide +kernel) (by decide +kernel)⟩⟩
theorem lfX4_9 : gfl RX4 9 4 0 := ⟨_, _, _, rfl, by decide, inX4, Or.inl (gt_at (i := 113) (by decide +kernel) (by decide +kernel))⟩
theorem lpX4_9 : pfl RX4 9 4 0 (.int) := ⟨_, _, _, tyX4, rfl, by decide, inX4, tyX4_ok, nmX4, rfl, by decide +kernel, Or.inl (gt_at (i := 113) (by decide +kernel) (by decide +kernel))⟩
theorem lfX4_15 : gfl RX4 15 4 1 := ⟨_, _, _, rfl, by decide, inX4, Or.inl (gt_at (i := 119) (by decide +kernel) (by decide +kernel))⟩
theorem lpX4_15 : pfl RX4 15 4 1 (.int) := ⟨_, _, _, tyX4, rfl, by decide, inX4, tyX4_ok, nmX4, rfl, by decide +kernel, Or.inl (gt_at (i := 119) (by decide +kernel) (by decide +kernel))⟩
theorem lfX4_18 : gfl RX4 18 4 2 := ⟨_, _, _, rfl, by decide, inX4, Or.inl (gt_at (i := 125) (by decide +kernel) (by decide +kernel))⟩
theorem lpX4_18 : pfl RX4 18 4 2 (.int) := ⟨_, _, _, tyX4, rfl, by decide, inX4, tyX4_ok, nmX4, rfl, by decide +kernel, Or.inl (gt_at (i := 125) (by decide +kernel) (by decide +kernel))⟩
theorem lfX4_21 : gfl RX4 21 4 3 := ⟨_, _, _, rfl, by decide, inX4, Or.inl (gt_at (i := 130) (by decide +kernel) (by decide +kernel))⟩
theorem lpX4_21 : pfl RX4 21 4 3 (.int) := ⟨_, _, _, tyX4, rfl, by decide, inX4, tyX4_ok, nmX4, rfl, by decide +kernel, Or.inl (gt_at (i := 130) (by decide +kernel) (by decide +kernel))⟩
theorem lfX4_24 : gfl RX4 24 4 4 := ⟨_, _, _, rfl, by decide, inX4, Or.inl (gt_at (i := 134) (by decide +kernel) (by decide +kernel))⟩
theorem lpX4_24 : pfl RX4 24 4 4 (.int) := ⟨_, _, _, tyX4, rfl, by decide, inX4, tyX4_ok, nmX4, rfl, by decide +kernel, Or.inl (gt_at (i := 134) (by decide +kernel) (by decide +kernel))⟩
theorem lfX4_27 : gfl RX4 27 4 5 := ⟨_, _, _, rfl, by decide, inX4, Or.inl (gt_at (i := 139) (by decide +kernel) (by decide +kernel))⟩
theorem lpX4_27 : pfF RX4 27 4 5 (.array .int) := ⟨_, _, _, tyX4, rfl, by decide, inX4, tyX4_ok, nmX4, rfl, rfl, by decide +kernel, gt_at (i := 139) (by decide +kernel) (by decide +kernel)⟩
theorem lfX4_31 : gfl RX4 31 4 6 := ⟨_, _, _, rfl, by decide, inX4, Or.inl (gt_at (i := 140) (by decide +kernel) (by decide +kernel))⟩
theorem lpX4_31 : pfF RX4 31 4 6 (.array .int) := ⟨_, _, _, tyX4, rfl, by decide, inX4, tyX4_ok, nmX4, rfl, rfl, by decide +kernel, gt_at (i := 140) (by decide +kernel) (by decide +kernel)⟩
theorem lfX4_34 : gfl RX4 34 4 7 := ⟨_, _, _, rfl, by decide, inX4, Or.inl (gt_at (i := 141) (by decide +kernel) (by decide +kernel))⟩
theorem lpX4_34 : pfF RX4 34 4 7 (.array .int) := ⟨_, _, _, tyX4, rfl, by decide, inX4, tyX4_ok, nmX4, rfl, rfl, by decide +kernel, gt_at (i := 141) (by decide +kernel) (by decide +kernel)⟩
theorem lfX4_37 : gfl RX4 37 4 8 := ⟨_, _, _, rfl, by decide, inX4, Or.inl (gt_at (i := 142) (by decide +kernel) (by decide +kernel))⟩
theorem lpX4_37 : pfF RX4 37 4 8 (.array .int) := ⟨_, _, _, tyX4, rfl, by decide, inX4, tyX4_ok, nmX4, rfl, rfl, by decide +kernel, gt_at (i := 142) (by decide +kernel) (by decide +kernel)⟩
theorem lfX4_40 : gfl RX4 40 4 9 := ⟨_, _, _, rfl, by decide, inX4, Or.inl (gt_at (i := 143) (by decide +kernel) (by decide +kernel))⟩
theorem lpX4_40 : pfF RX4 40 4 9 (.array .int) := ⟨_, _, _, tyX4, rfl, by decide, inX4, tyX4_ok, nmX4, rfl, rfl, by decide +kernel, gt_at (i := 143) (by decide +kernel) (by decide +kernel)⟩
theorem lfX5_9 : gfl RX5 9 5 0 := ⟨_, _, _, rfl, by decide, inX5, Or.inl (gt_at (i := 195) (by decide +kernel) (by decide +kernel))⟩
theorem lpX5_9 : pfF RX5 9 5 0 (.array .int) := ⟨_, _, _, tyX5, rfl, by decide, inX5, tyX5_ok, nmX5, rfl, rfl, by decide +kernel, gt_at (i := 195) (by decide +kernel) (by decide +kernel)⟩
theorem lfX5_15 : gfl RX5 15 5 1 := ⟨_, _, _, rfl, by decide, inX5, Or.inl (gt_at (i := 196) (by decide +kernel) (by decide +kernel))⟩
theorem lpX5_15 : pfl RX5 15 5 1 (.int) := ⟨_, _, _, tyX5, rfl, by decide, inX5, tyX5_ok, nmX5, rfl, by decide +kernel, Or.inl (gt_at (i := 196) (by decide +kernel) (by decide +kernel))⟩
theorem lfX5_22 : gfl RX5 22 5 2 := ⟨_, _, _, rfl, by decide, inX5, Or.inl (gt_at (i := 198) (by decide +kernel) (by decide +kernel))⟩
theorem lpX5_22 : pfF RX5 22 5 2 (.object "PolyominoCover$Problem") := ⟨_, _, _, tyX5, rfl, by decide, inX5, tyX5_ok, nmX5, rfl, rfl, by decide +kernel, gt_at (i := 198) (by decide +kernel) (by decide +kernel)⟩
theorem lfX5_26 : gfl RX5 26 5 3 := ⟨_, _, _, rfl, by decide, inX5, Or.inl (gt_at (i := 199) (by decide +kernel) (by decide +kernel))⟩
theorem lpX5_26 : pfl RX5 26 5 3 (.int) := ⟨_, _, _, tyX5, rfl, by decide, inX5, tyX5_ok, nmX5, rfl, by decide +kernel, Or.inl (gt_at (i := 199) (by decide +kernel) (by decide +kernel))⟩
theorem lfX5_29 : gfl RX5 29 5 4 := ⟨_, _, _, rfl, by decide, inX5, Or.inl (gt_at (i := 200) (by decide +kernel) (by decide +kernel))⟩
theorem lpX5_29 : pfl RX5 29 5 4 (.int) := ⟨_, _, _, tyX5, rfl, by decide, inX5, tyX5_ok, nmX5, rfl, by decide +kernel, Or.inl (gt_at (i := 200) (by decide +kernel) (by decide +kernel))⟩
theorem lfX5_32 : gfl RX5 32 5 5 := ⟨_, _, _, rfl, by decide, inX5, Or.inl (gt_at (i := 201) (by decide +kernel) (by decide +kernel))⟩
theorem lpX5_32 : pfl RX5 32 5 5 (.int) := ⟨_, _, _, tyX5, rfl, by decide, inX5, tyX5_ok, nmX5, rfl, by decide +kernel, Or.inl (gt_at (i := 201) (by decide +kernel) (by decide +kernel))⟩
theorem lfX5_35 : gfl RX5 35 5 6 := ⟨_, _, _, rfl, by decide, inX5, Or.inl (gt_at (i := 202) (by decide +kernel) (by decide +kernel))⟩
theorem lpX5_35 : pfl RX5 35 5 6 (.int) := ⟨_, _, _, tyX5, rfl, by decide, inX5, tyX5_ok, nmX5, rfl, by decide +kernel, Or.inl (gt_at (i := 202) (by decide +kernel) (by decide +kernel))⟩
theorem lfX5_38 : gfl RX5 38 4 2 := ⟨_, _, _, rfl, by decide, inX4, Or.inr ⟨RX11, nt_at (i := 127) (by decide +kernel) (by decide +kernel)⟩⟩
theorem lpX5_38 : pfl RX5 38 4 2 (.int) := ⟨_, _, _, tyX4, rfl, by decide, inX4, tyX4_ok, nmX4, rfl, by decide +kernel, Or.inr ⟨RX11, nt_at (i := 127) (by decide +kernel) (by decide +kernel)⟩⟩
theorem lfX5_41 : gfl RX5 41 4 3 := ⟨_, _, _, rfl, by decide, inX4, Or.inr ⟨RX11, nt_at (i := 131) (by decide +kernel) (by decide +kernel)⟩⟩
theorem lpX5_41 : pfl RX5 41 4 3 (.int) := ⟨_, _, _, tyX4, rfl, by decide, inX4, tyX4_ok, nmX4, rfl, by decide +kernel, Or.inr ⟨RX11, nt_at (i := 131) (by decide +kernel) (by decide +kernel)⟩⟩
theorem lpX5_48 : pfl RX5 48 4 4 (.int) := ⟨_, _, _, tyX4, rfl, by decide, inX4, tyX4_ok, nmX4, rfl, by decide +kernel, Or.inr ⟨RX11, nt_at (i := 137) (by decide +kernel) (by decide +kernel)⟩⟩
theorem lpX5_66 : pfl RX5 66 4 0 (.int) := ⟨_, _, _, tyX4, rfl, by decide, inX4, tyX4_ok, nmX4, rfl, by decide +kernel, Or.inr ⟨RX11, nt_at (i := 117) (by decide +kernel) (by decide +kernel)⟩⟩
theorem lpX5_69 : pfl RX5 69 4 1 (.int) := ⟨_, _, _, tyX4, rfl, by decide, inX4, tyX4_ok, nmX4, rfl, by decide +kernel, Or.inr ⟨RX11, nt_at (i := 123) (by decide +kernel) (by decide +kernel)⟩⟩
theorem lfX7_9 : gfl RX7 9 6 0 := ⟨_, _, _, rfl, by decide, inX7, Or.inl (gt_at (i := 381) (by decide +kernel) (by decide +kernel))⟩
theorem lpX7_9 : pfF RX7 9 6 0 (.array .boolean) := ⟨_, _, _, tyX7, rfl, by decide, inX7, tyX7_ok, nmX7, rfl, rfl, by decide +kernel, gt_at (i := 381) (by decide +kernel) (by decide +kernel)⟩
theorem lfX7_27 : gfl RX7 27 3 4 := ⟨_, _, _, rfl, by decide, inX3, Or.inr ⟨RX11, nt_at (i := 244) (by decide +kernel) (by decide +kernel)⟩⟩
theorem lfX7_43 : gfl RX7 43 3 5 := ⟨_, _, _, rfl, by decide, inX3, Or.inr ⟨RX11, nt_at (i := 250) (by decide +kernel) (by decide +kernel)⟩⟩
theorem lfX8_9 : gfl RX8 9 7 0 := ⟨_, _, _, rfl, by decide, inX8, Or.inl (gt_at (i := 271) (by decide +kernel) (by decide +kernel))⟩
theorem lpX8_9 : pfF RX8 9 7 0 (.array .int) := ⟨_, _, _, tyX8, rfl, by decide, inX8, tyX8_ok, nmX8, rfl, rfl, by decide +kernel, gt_at (i := 271) (by decide +kernel) (by decide +kernel)⟩
theorem lfX8_15 : gfl RX8 15 7 1 := ⟨_, _, _, rfl, by decide, inX8, Or.inl (gt_at (i := 272) (by decide +kernel) (by decide +kernel))⟩
theorem lpX8_15 : pfl RX8 15 7 1 (.int) := ⟨_, _, _, tyX8, rfl, by decide, inX8, tyX8_ok, nmX8, rfl, by decide +kernel, Or.inl (gt_at (i := 272) (by decide +kernel) (by decide +kernel))⟩
theorem lfX8_19 : gfl RX8 19 4 0 := ⟨_, _, _, rfl, by decide, inX4, Or.inr ⟨RX11, nt_at (i := 114) (by decide +kernel) (by decide +kernel)⟩⟩
theorem lfX8_24 : gfl RX8 24 4 1 := ⟨_, _, _, rfl, by decide, inX4, Or.inr ⟨RX11, nt_at (i := 120) (by decide +kernel) (by decide +kernel)⟩⟩
theorem lfX9_9 : gfl RX9 9 8 2 := ⟨_, _, _, rfl, by decide, inX9, Or.inl (gt_at (i := 288) (by decide +kernel) (by decide +kernel))⟩
theorem lpX9_9 : pfF RX9 9 8 2 (.array .int) := ⟨_, _, _, tyX9, rfl, by decide, inX9, tyX9_ok, nmX9, rfl, rfl, by decide +kernel, gt_at (i := 288) (by decide +kernel) (by decide +kernel)⟩
theorem lfX9_15 : gfl RX9 15 8 3 := ⟨_, _, _, rfl, by decide, inX9, Or.inl (gt_at (i := 289) (by decide +kernel) (by decide +kernel))⟩
theorem lpX9_15 : pfF RX9 15 8 3 (.array .int) := ⟨_, _, _, tyX9, rfl, by decide, inX9, tyX9_ok, nmX9, rfl, rfl, by decide +kernel, gt_at (i := 289) (by decide +kernel) (by decide +kernel)⟩
theorem lfX9_18 : gfl RX9 18 8 4 := ⟨_, _, _, rfl, by decide, inX9, Or.inl (gt_at (i := 290) (by decide +kernel) (by decide +kernel))⟩
theorem lpX9_18 : pfF RX9 18 8 4 (.array .int) := ⟨_, _, _, tyX9, rfl, by decide, inX9, tyX9_ok, nmX9, rfl, rfl, by decide +kernel, gt_at (i := 290) (by decide +kernel) (by decide +kernel)⟩
theorem lfX9_21 : gfl RX9 21 8 5 := ⟨_, _, _, rfl, by decide, inX9, Or.inl (gt_at (i := 291) (by decide +kernel) (by decide +kernel))⟩
theorem lpX9_21 : pfF RX9 21 8 5 (.array .long) := ⟨_, _, _, tyX9, rfl, by decide, inX9, tyX9_ok, nmX9, rfl, rfl, by decide +kernel, gt_at (i := 291) (by decide +kernel) (by decide +kernel)⟩
theorem lfX9_25 : gfl RX9 25 8 6 := ⟨_, _, _, rfl, by decide, inX9, Or.inl (gt_at (i := 292) (by decide +kernel) (by decide +kernel))⟩
theorem lpX9_25 : pfl RX9 25 8 6 (.long) := ⟨_, _, _, tyX9, rfl, by decide, inX9, tyX9_ok, nmX9, rfl, by decide +kernel, Or.inl (gt_at (i := 292) (by decide +kernel) (by decide +kernel))⟩
theorem lfX9_29 : gfl RX9 29 8 7 := ⟨_, _, _, rfl, by decide, inX9, Or.inl (gt_at (i := 293) (by decide +kernel) (by decide +kernel))⟩
theorem lpX9_29 : pfl RX9 29 8 7 (.long) := ⟨_, _, _, tyX9, rfl, by decide, inX9, tyX9_ok, nmX9, rfl, by decide +kernel, Or.inl (gt_at (i := 293) (by decide +kernel) (by decide +kernel))⟩
theorem lfX9_32 : gfl RX9 32 8 8 := ⟨_, _, _, rfl, by decide, inX9, Or.inl (gt_at (i := 294) (by decide +kernel) (by decide +kernel))⟩
theorem lpX9_32 : pfl RX9 32 8 8 (.long) := ⟨_, _, _, tyX9, rfl, by decide, inX9, tyX9_ok, nmX9, rfl, by decide +kernel, Or.inl (gt_at (i := 294) (by decide +kernel) (by decide +kernel))⟩
theorem lfX9_35 : gfl RX9 35 8 9 := ⟨_, _, _, rfl, by decide, inX9, Or.inl (gt_at (i := 295) (by decide +kernel) (by decide +kernel))⟩
theorem lpX9_35 : pfl RX9 35 8 9 (.int) := ⟨_, _, _, tyX9, rfl, by decide, inX9, tyX9_ok, nmX9, rfl, by decide +kernel, Or.inl (gt_at (i := 295) (by decide +kernel) (by decide +kernel))⟩
theorem lfX9_39 : gfl RX9 39 8 10 := ⟨_, _, _, rfl, by decide, inX9, Or.inl (gt_at (i := 297) (by decide +kernel) (by decide +kernel))⟩
theorem lpX9_39 : pfl RX9 39 8 10 (.int) := ⟨_, _, _, tyX9, rfl, by decide, inX9, tyX9_ok, nmX9, rfl, by decide +kernel, Or.inl (gt_at (i := 297) (by decide +kernel) (by decide +kernel))⟩
theorem lfX9_42 : gfl RX9 42 8 11 := ⟨_, _, _, rfl, by decide, inX9, Or.inl (gt_at (i := 298) (by decide +kernel) (by decide +kernel))⟩
theorem lpX9_42 : pfl RX9 42 8 11 (.int) := ⟨_, _, _, tyX9, rfl, by decide, inX9, tyX9_ok, nmX9, rfl, by decide +kernel, Or.inl (gt_at (i := 298) (by decide +kernel) (by decide +kernel))⟩
theorem lfX9_45 : gfl RX9 45 8 12 := ⟨_, _, _, rfl, by decide, inX9, Or.inl (gt_at (i := 300) (by decide +kernel) (by decide +kernel))⟩
theorem lpX9_45 : pfl RX9 45 8 12 (.int) := ⟨_, _, _, tyX9, rfl, by decide, inX9, tyX9_ok, nmX9, rfl, by decide +kernel, Or.inl (gt_at (i := 300) (by decide +kernel) (by decide +kernel))⟩
theorem lfX9_48 : gfl RX9 48 8 13 := ⟨_, _, _, rfl, by decide, inX9, Or.inl (gt_at (i := 302) (by decide +kernel) (by decide +kernel))⟩
theorem lpX9_48 : pfl RX9 48 8 13 (.boolean) := ⟨_, _, _, tyX9, rfl, by decide, inX9, tyX9_ok, nmX9, rfl, by decide +kernel, Or.inl (gt_at (i := 302) (by decide +kernel) (by decide +kernel))⟩
theorem lfX9_52 : gfl RX9 52 8 14 := ⟨_, _, _, rfl, by decide, inX9, Or.inl (gt_at (i := 303) (by decide +kernel) (by decide +kernel))⟩
theorem lpX9_52 : pfl RX9 52 8 14 (.boolean) := ⟨_, _, _, tyX9, rfl, by decide, inX9, tyX9_ok, nmX9, rfl, by decide +kernel, Or.inl (gt_at (i := 303) (by decide +kernel) (by decide +kernel))⟩
theorem lpX9_55 : pfl RX9 55 8 15 (.boolean) := ⟨_, _, _, tyX9, rfl, by decide, inX9, tyX9_ok, nmX9, rfl, by decide +kernel, Or.inl (gt_at (i := 305) (by decide +kernel) (by decide +kernel))⟩
theorem lfX9_58 : gfl RX9 58 8 0 := ⟨_, _, _, rfl, by decide, inX9, Or.inl (gt_at (i := 286) (by decide +kernel) (by decide +kernel))⟩
theorem lpX9_58 : pfF RX9 58 8 0 (.object "PolyominoCover$Problem") := ⟨_, _, _, tyX9, rfl, by decide, inX9, tyX9_ok, nmX9, rfl, rfl, by decide +kernel, gt_at (i := 286) (by decide +kernel) (by decide +kernel)⟩
theorem lfX9_62 : gfl RX9 62 8 1 := ⟨_, _, _, rfl, by decide, inX9, Or.inl (gt_at (i := 287) (by decide +kernel) (by decide +kernel))⟩
theorem lpX9_62 : pfF RX9 62 8 1 (.object "PolyominoCover$Placements") := ⟨_, _, _, tyX9, rfl, by decide, inX9, tyX9_ok, nmX9, rfl, rfl, by decide +kernel, gt_at (i := 287) (by decide +kernel) (by decide +kernel)⟩
theorem lfX9_76 : gfl RX9 76 4 1 := ⟨_, _, _, rfl, by decide, inX4, Or.inr ⟨RX11, nt_at (i := 121) (by decide +kernel) (by decide +kernel)⟩⟩
theorem lfX9_79 : gfl RX9 79 4 0 := ⟨_, _, _, rfl, by decide, inX4, Or.inr ⟨RX11, nt_at (i := 115) (by decide +kernel) (by decide +kernel)⟩⟩
theorem lfX9_89 : gfl RX9 89 3 5 := ⟨_, _, _, rfl, by decide, inX3, Or.inr ⟨RX11, nt_at (i := 249) (by decide +kernel) (by decide +kernel)⟩⟩
theorem lfX9_108 : gfl RX9 108 4 2 := ⟨_, _, _, rfl, by decide, inX4, Or.inr ⟨RX11, nt_at (i := 128) (by decide +kernel) (by decide +kernel)⟩⟩
theorem lfX9_125 : gfl RX9 125 3 3 := ⟨_, _, _, rfl, by decide, inX3, Or.inr ⟨RX11, nt_at (i := 242) (by decide +kernel) (by decide +kernel)⟩⟩
theorem lfX9_128 : gfl RX9 128 3 2 := ⟨_, _, _, rfl, by decide, inX3, Or.inr ⟨RX11, nt_at (i := 240) (by decide +kernel) (by decide +kernel)⟩⟩
theorem lfX9_145 : gfl RX9 145 4 3 := ⟨_, _, _, rfl, by decide, inX4, Or.inr ⟨RX11, nt_at (i := 133) (by decide +kernel) (by decide +kernel)⟩⟩
theorem lfX10_9 : gfl RX10 9 9 0 := ⟨_, _, _, rfl, by decide, inX10, Or.inl (gt_at (i := 392) (by decide +kernel) (by decide +kernel))⟩
theorem lpX10_9 : pfF RX10 9 9 0 (.array .int) := ⟨_, _, _, tyX10, rfl, by decide, inX10, tyX10_ok, nmX10, rfl, rfl, by decide +kernel, gt_at (i := 392) (by decide +kernel) (by decide +kernel)⟩
theorem lfX10_15 : gfl RX10 15 9 1 := ⟨_, _, _, rfl, by decide, inX10, Or.inl (gt_at (i := 393) (by decide +kernel) (by decide +kernel))⟩
theorem lpX10_15 : pfF RX10 15 9 1 (.array .int) := ⟨_, _, _, tyX10, rfl, by decide, inX10, tyX10_ok, nmX10, rfl, rfl, by decide +kernel, gt_at (i := 393) (by decide +kernel) (by decide +kernel)⟩
theorem lfX10_18 : gfl RX10 18 9 2 := ⟨_, _, _, rfl, by decide, inX10, Or.inl (gt_at (i := 394) (by decide +kernel) (by decide +kernel))⟩
theorem lpX10_18 : pfl RX10 18 9 2 (.int) := ⟨_, _, _, tyX10, rfl, by decide, inX10, tyX10_ok, nmX10, rfl, by decide +kernel, Or.inl (gt_at (i := 394) (by decide +kernel) (by decide +kernel))⟩
theorem lfX10_30 : gfl RX10 30 4 4 := ⟨_, _, _, rfl, by decide, inX4, Or.inr ⟨RX11, nt_at (i := 136) (by decide +kernel) (by decide +kernel)⟩⟩
theorem lfX10_39 : gfl RX10 39 4 2 := ⟨_, _, _, rfl, by decide, inX4, Or.inr ⟨RX11, nt_at (i := 126) (by decide +kernel) (by decide +kernel)⟩⟩
theorem lfX10_50 : gfl RX10 50 3 5 := ⟨_, _, _, rfl, by decide, inX3, Or.inr ⟨RX11, nt_at (i := 248) (by decide +kernel) (by decide +kernel)⟩⟩
theorem lfX10_69 : gfl RX10 69 3 4 := ⟨_, _, _, rfl, by decide, inX3, Or.inr ⟨RX11, nt_at (i := 245) (by decide +kernel) (by decide +kernel)⟩⟩
theorem lfX12_7 : gfl RX12 7 11 0 := ⟨_, _, _, rfl, by decide, inX12, Or.inl (gt_at (i := 1057) (by decide +kernel) (by decide +kernel))⟩
theorem lpX12_7 : pfF RX12 7 11 0 (.array .int) := ⟨_, _, _, tyX12, rfl, by decide, inX12, tyX12_ok, nmX12, rfl, rfl, by decide +kernel, gt_at (i := 1057) (by decide +kernel) (by decide +kernel)⟩
theorem lfX12_13 : gfl RX12 13 11 1 := ⟨_, _, _, rfl, by decide, inX12, Or.inl (gt_at (i := 1058) (by decide +kernel) (by decide +kernel))⟩
theorem lpX12_13 : pfF RX12 13 11 1 (.array .int) := ⟨_, _, _, tyX12, rfl, by decide, inX12, tyX12_ok, nmX12, rfl, rfl, by decide +kernel, gt_at (i := 1058) (by decide +kernel) (by decide +kernel)⟩
theorem lfX12_16 : gfl RX12 16 11 3 := ⟨_, _, _, rfl, by decide, inX12, Or.inl (gt_at (i := 1060) (by decide +kernel) (by decide +kernel))⟩
theorem lpX12_16 : pfF RX12 16 11 3 (.array .byte) := ⟨_, _, _, tyX12, rfl, by decide, inX12, tyX12_ok, nmX12, rfl, rfl, by decide +kernel, gt_at (i := 1060) (by decide +kernel) (by decide +kernel)⟩
theorem lfX12_20 : gfl RX12 20 11 5 := ⟨_, _, _, rfl, by decide, inX12, Or.inl (gt_at (i := 1062) (by decide +kernel) (by decide +kernel))⟩
theorem lpX12_20 : pfF RX12 20 11 5 (.array .int) := ⟨_, _, _, tyX12, rfl, by decide, inX12, tyX12_ok, nmX12, rfl, rfl, by decide +kernel, gt_at (i := 1062) (by decide +kernel) (by decide +kernel)⟩
theorem lfX12_23 : gfl RX12 23 11 7 := ⟨_, _, _, rfl, by decide, inX12, Or.inl (gt_at (i := 1064) (by decide +kernel) (by decide +kernel))⟩
theorem lpX12_23 : pfF RX12 23 11 7 (.array .int) := ⟨_, _, _, tyX12, rfl, by decide, inX12, tyX12_ok, nmX12, rfl, rfl, by decide +kernel, gt_at (i := 1064) (by decide +kernel) (by decide +kernel)⟩
theorem lfX12_26 : gfl RX12 26 11 8 := ⟨_, _, _, rfl, by decide, inX12, Or.inl (gt_at (i := 1065) (by decide +kernel) (by decide +kernel))⟩
theorem lpX12_26 : pfF RX12 26 11 8 (.array .int) := ⟨_, _, _, tyX12, rfl, by decide, inX12, tyX12_ok, nmX12, rfl, rfl, by decide +kernel, gt_at (i := 1065) (by decide +kernel) (by decide +kernel)⟩
theorem lfX12_29 : gfl RX12 29 11 9 := ⟨_, _, _, rfl, by decide, inX12, Or.inl (gt_at (i := 1066) (by decide +kernel) (by decide +kernel))⟩
theorem lpX12_29 : pfF RX12 29 11 9 (.array .int) := ⟨_, _, _, tyX12, rfl, by decide, inX12, tyX12_ok, nmX12, rfl, rfl, by decide +kernel, gt_at (i := 1066) (by decide +kernel) (by decide +kernel)⟩
theorem lfX12_32 : gfl RX12 32 11 10 := ⟨_, _, _, rfl, by decide, inX12, Or.inl (gt_at (i := 1067) (by decide +kernel) (by decide +kernel))⟩
theorem lpX12_32 : pfF RX12 32 11 10 (.array .long) := ⟨_, _, _, tyX12, rfl, by decide, inX12, tyX12_ok, nmX12, rfl, rfl, by decide +kernel, gt_at (i := 1067) (by decide +kernel) (by decide +kernel)⟩
theorem lfX12_36 : gfl RX12 36 11 11 := ⟨_, _, _, rfl, by decide, inX12, Or.inl (gt_at (i := 1068) (by decide +kernel) (by decide +kernel))⟩
theorem lpX12_36 : pfF RX12 36 11 11 (.array .int) := ⟨_, _, _, tyX12, rfl, by decide, inX12, tyX12_ok, nmX12, rfl, rfl, by decide +kernel, gt_at (i := 1068) (by decide +kernel) (by decide +kernel)⟩
theorem lfX12_39 : gfl RX12 39 11 15 := ⟨_, _, _, rfl, by decide, inX12, Or.inl (gt_at (i := 1072) (by decide +kernel) (by decide +kernel))⟩
theorem lpX12_39 : pfF RX12 39 11 15 (.array .int) := ⟨_, _, _, tyX12, rfl, by decide, inX12, tyX12_ok, nmX12, rfl, rfl, by decide +kernel, gt_at (i := 1072) (by decide +kernel) (by decide +kernel)⟩
theorem lfX12_42 : gfl RX12 42 11 20 := ⟨_, _, _, rfl, by decide, inX12, Or.inl (gt_at (i := 1077) (by decide +kernel) (by decide +kernel))⟩
theorem lpX12_42 : pfF RX12 42 11 20 (.array .int) := ⟨_, _, _, tyX12, rfl, by decide, inX12, tyX12_ok, nmX12, rfl, rfl, by decide +kernel, gt_at (i := 1077) (by decide +kernel) (by decide +kernel)⟩
theorem lfX12_45 : gfl RX12 45 11 24 := ⟨_, _, _, rfl, by decide, inX12, Or.inl (gt_at (i := 1081) (by decide +kernel) (by decide +kernel))⟩
theorem lpX12_45 : pfF RX12 45 11 24 (.array .int) := ⟨_, _, _, tyX12, rfl, by decide, inX12, tyX12_ok, nmX12, rfl, rfl, by decide +kernel, gt_at (i := 1081) (by decide +kernel) (by decide +kernel)⟩
theorem lfX12_48 : gfl RX12 48 11 25 := ⟨_, _, _, rfl, by decide, inX12, Or.inl (gt_at (i := 1082) (by decide +kernel) (by decide +kernel))⟩
theorem lpX12_48 : pfF RX12 48 11 25 (.array .int) := ⟨_, _, _, tyX12, rfl, by decide, inX12, tyX12_ok, nmX12, rfl, rfl, by decide +kernel, gt_at (i := 1082) (by decide +kernel) (by decide +kernel)⟩
theorem lfX12_51 : gfl RX12 51 11 28 := ⟨_, _, _, rfl, by decide, inX12, Or.inl (gt_at (i := 1085) (by decide +kernel) (by decide +kernel))⟩
theorem lpX12_51 : pfF RX12 51 11 28 (.array .long) := ⟨_, _, _, tyX12, rfl, by decide, inX12, tyX12_ok, nmX12, rfl, rfl, by decide +kernel, gt_at (i := 1085) (by decide +kernel) (by decide +kernel)⟩
theorem lfX12_54 : gfl RX12 54 11 29 := ⟨_, _, _, rfl, by decide, inX12, Or.inl (gt_at (i := 1086) (by decide +kernel) (by decide +kernel))⟩
theorem lpX12_54 : pfF RX12 54 11 29 (.array .int) := ⟨_, _, _, tyX12, rfl, by decide, inX12, tyX12_ok, nmX12, rfl, rfl, by decide +kernel, gt_at (i := 1086) (by decide +kernel) (by decide +kernel)⟩
theorem lfX12_57 : gfl RX12 57 11 36 := ⟨_, _, _, rfl, by decide, inX12, Or.inl (gt_at (i := 1093) (by decide +kernel) (by decide +kernel))⟩
theorem lpX12_57 : pfF RX12 57 11 36 (.array .int) := ⟨_, _, _, tyX12, rfl, by decide, inX12, tyX12_ok, nmX12, rfl, rfl, by decide +kernel, gt_at (i := 1093) (by decide +kernel) (by decide +kernel)⟩
theorem lfX12_60 : gfl RX12 60 11 37 := ⟨_, _, _, rfl, by decide, inX12, Or.inl (gt_at (i := 1094) (by decide +kernel) (by decide +kernel))⟩
theorem lpX12_60 : pfF RX12 60 11 37 (.array .boolean) := ⟨_, _, _, tyX12, rfl, by decide, inX12, tyX12_ok, nmX12, rfl, rfl, by decide +kernel, gt_at (i := 1094) (by decide +kernel) (by decide +kernel)⟩
theorem lfX12_64 : gfl RX12 64 11 2 := ⟨_, _, _, rfl, by decide, inX12, Or.inl (gt_at (i := 1059) (by decide +kernel) (by decide +kernel))⟩
theorem lpX12_64 : pfl RX12 64 11 2 (.int) := ⟨_, _, _, tyX12, rfl, by decide, inX12, tyX12_ok, nmX12, rfl, by decide +kernel, Or.inl (gt_at (i := 1059) (by decide +kernel) (by decide +kernel))⟩
theorem lfX12_92 : gfl RX12 92 11 6 := ⟨_, _, _, rfl, by decide, inX12, Or.inl (gt_at (i := 1063) (by decide +kernel) (by decide +kernel))⟩
theorem lpX12_92 : pfl RX12 92 11 6 (.int) := ⟨_, _, _, tyX12, rfl, by decide, inX12, tyX12_ok, nmX12, rfl, by decide +kernel, Or.inl (gt_at (i := 1063) (by decide +kernel) (by decide +kernel))⟩
theorem lfX12_106 : gfl RX12 106 11 12 := ⟨_, _, _, rfl, by decide, inX12, Or.inl (gt_at (i := 1069) (by decide +kernel) (by decide +kernel))⟩
theorem lpX12_106 : pfl RX12 106 11 12 (.int) := ⟨_, _, _, tyX12, rfl, by decide, inX12, tyX12_ok, nmX12, rfl, by decide +kernel, Or.inl (gt_at (i := 1069) (by decide +kernel) (by decide +kernel))⟩
theorem lfX12_156 : gfl RX12 156 11 4 := ⟨_, _, _, rfl, by decide, inX12, Or.inl (gt_at (i := 1061) (by decide +kernel) (by decide +kernel))⟩
theorem lpX12_156 : pfl RX12 156 11 4 (.int) := ⟨_, _, _, tyX12, rfl, by decide, inX12, tyX12_ok, nmX12, rfl, by decide +kernel, Or.inl (gt_at (i := 1061) (by decide +kernel) (by decide +kernel))⟩
theorem lfX12_159 : gfl RX12 159 11 13 := ⟨_, _, _, rfl, by decide, inX12, Or.inl (gt_at (i := 1070) (by decide +kernel) (by decide +kernel))⟩
theorem lpX12_159 : pfl RX12 159 11 13 (.int) := ⟨_, _, _, tyX12, rfl, by decide, inX12, tyX12_ok, nmX12, rfl, by decide +kernel, Or.inl (gt_at (i := 1070) (by decide +kernel) (by decide +kernel))⟩
theorem lfX12_162 : gfl RX12 162 11 17 := ⟨_, _, _, rfl, by decide, inX12, Or.inl (gt_at (i := 1074) (by decide +kernel) (by decide +kernel))⟩
theorem lpX12_162 : pfl RX12 162 11 17 (.int) := ⟨_, _, _, tyX12, rfl, by decide, inX12, tyX12_ok, nmX12, rfl, by decide +kernel, Or.inl (gt_at (i := 1074) (by decide +kernel) (by decide +kernel))⟩
theorem lfX12_165 : gfl RX12 165 11 18 := ⟨_, _, _, rfl, by decide, inX12, Or.inl (gt_at (i := 1075) (by decide +kernel) (by decide +kernel))⟩
theorem lpX12_165 : pfl RX12 165 11 18 (.int) := ⟨_, _, _, tyX12, rfl, by decide, inX12, tyX12_ok, nmX12, rfl, by decide +kernel, Or.inl (gt_at (i := 1075) (by decide +kernel) (by decide +kernel))⟩
theorem lfX12_168 : gfl RX12 168 11 19 := ⟨_, _, _, rfl, by decide, inX12, Or.inl (gt_at (i := 1076) (by decide +kernel) (by decide +kernel))⟩
theorem lpX12_168 : pfl RX12 168 11 19 (.int) := ⟨_, _, _, tyX12, rfl, by decide, inX12, tyX12_ok, nmX12, rfl, by decide +kernel, Or.inl (gt_at (i := 1076) (by decide +kernel) (by decide +kernel))⟩
theorem lfX12_171 : gfl RX12 171 11 16 := ⟨_, _, _, rfl, by decide, inX12, Or.inl (gt_at (i := 1073) (by decide +kernel) (by decide +kernel))⟩
theorem lpX12_171 : pfl RX12 171 11 16 (.int) := ⟨_, _, _, tyX12, rfl, by decide, inX12, tyX12_ok, nmX12, rfl, by decide +kernel, Or.inl (gt_at (i := 1073) (by decide +kernel) (by decide +kernel))⟩
theorem lfX12_174 : gfl RX12 174 11 14 := ⟨_, _, _, rfl, by decide, inX12, Or.inl (gt_at (i := 1071) (by decide +kernel) (by decide +kernel))⟩
theorem lpX12_174 : pfl RX12 174 11 14 (.boolean) := ⟨_, _, _, tyX12, rfl, by decide, inX12, tyX12_ok, nmX12, rfl, by decide +kernel, Or.inl (gt_at (i := 1071) (by decide +kernel) (by decide +kernel))⟩
theorem lfX12_188 : gfl RX12 188 11 21 := ⟨_, _, _, rfl, by decide, inX12, Or.inl (gt_at (i := 1078) (by decide +kernel) (by decide +kernel))⟩
theorem lpX12_188 : pfl RX12 188 11 21 (.int) := ⟨_, _, _, tyX12, rfl, by decide, inX12, tyX12_ok, nmX12, rfl, by decide +kernel, Or.inl (gt_at (i := 1078) (by decide +kernel) (by decide +kernel))⟩
theorem lfX12_191 : gfl RX12 191 11 22 := ⟨_, _, _, rfl, by decide, inX12, Or.inl (gt_at (i := 1079) (by decide +kernel) (by decide +kernel))⟩
theorem lpX12_191 : pfl RX12 191 11 22 (.int) := ⟨_, _, _, tyX12, rfl, by decide, inX12, tyX12_ok, nmX12, rfl, by decide +kernel, Or.inl (gt_at (i := 1079) (by decide +kernel) (by decide +kernel))⟩
theorem lfX12_194 : gfl RX12 194 11 23 := ⟨_, _, _, rfl, by decide, inX12, Or.inl (gt_at (i := 1080) (by decide +kernel) (by decide +kernel))⟩
theorem lpX12_194 : pfl RX12 194 11 23 (.int) := ⟨_, _, _, tyX12, rfl, by decide, inX12, tyX12_ok, nmX12, rfl, by decide +kernel, Or.inl (gt_at (i := 1080) (by decide +kernel) (by decide +kernel))⟩
theorem lfX12_210 : gfl RX12 210 11 27 := ⟨_, _, _, rfl, by decide, inX12, Or.inl (gt_at (i := 1084) (by decide +kernel) (by decide +kernel))⟩
theorem lpX12_210 : pfl RX12 210 11 27 (.long) := ⟨_, _, _, tyX12, rfl, by decide, inX12, tyX12_ok, nmX12, rfl, by decide +kernel, Or.inl (gt_at (i := 1084) (by decide +kernel) (by decide +kernel))⟩
theorem lfX12_218 : gfl RX12 218 11 26 := ⟨_, _, _, rfl, by decide, inX12, Or.inl (gt_at (i := 1083) (by decide +kernel) (by decide +kernel))⟩
theorem lpX12_218 : pfl RX12 218 11 26 (.int) := ⟨_, _, _, tyX12, rfl, by decide, inX12, tyX12_ok, nmX12, rfl, by decide +kernel, Or.inl (gt_at (i := 1083) (by decide +kernel) (by decide +kernel))⟩
theorem lfX12_221 : gfl RX12 221 11 30 := ⟨_, _, _, rfl, by decide, inX12, Or.inl (gt_at (i := 1087) (by decide +kernel) (by decide +kernel))⟩
theorem lpX12_221 : pfl RX12 221 11 30 (.int) := ⟨_, _, _, tyX12, rfl, by decide, inX12, tyX12_ok, nmX12, rfl, by decide +kernel, Or.inl (gt_at (i := 1087) (by decide +kernel) (by decide +kernel))⟩
theorem lfX12_224 : gfl RX12 224 11 31 := ⟨_, _, _, rfl, by decide, inX12, Or.inl (gt_at (i := 1088) (by decide +kernel) (by decide +kernel))⟩
theorem lpX12_224 : pfl RX12 224 11 31 (.int) := ⟨_, _, _, tyX12, rfl, by decide, inX12, tyX12_ok, nmX12, rfl, by decide +kernel, Or.inl (gt_at (i := 1088) (by decide +kernel) (by decide +kernel))⟩
theorem lfX12_227 : gfl RX12 227 11 32 := ⟨_, _, _, rfl, by decide, inX12, Or.inl (gt_at (i := 1089) (by decide +kernel) (by decide +kernel))⟩
theorem lpX12_227 : pfl RX12 227 11 32 (.boolean) := ⟨_, _, _, tyX12, rfl, by decide, inX12, tyX12_ok, nmX12, rfl, by decide +kernel, Or.inl (gt_at (i := 1089) (by decide +kernel) (by decide +kernel))⟩
theorem lfX12_230 : gfl RX12 230 11 33 := ⟨_, _, _, rfl, by decide, inX12, Or.inl (gt_at (i := 1090) (by decide +kernel) (by decide +kernel))⟩
theorem lpX12_230 : pfl RX12 230 11 33 (.boolean) := ⟨_, _, _, tyX12, rfl, by decide, inX12, tyX12_ok, nmX12, rfl, by decide +kernel, Or.inl (gt_at (i := 1090) (by decide +kernel) (by decide +kernel))⟩
theorem lfX12_233 : gfl RX12 233 11 34 := ⟨_, _, _, rfl, by decide, inX12, Or.inl (gt_at (i := 1091) (by decide +kernel) (by decide +kernel))⟩
theorem lpX12_233 : pfl RX12 233 11 34 (.boolean) := ⟨_, _, _, tyX12, rfl, by decide, inX12, tyX12_ok, nmX12, rfl, by decide +kernel, Or.inl (gt_at (i := 1091) (by decide +kernel) (by decide +kernel))⟩
theorem lfX12_262 : gfl RX12 262 11 35 := ⟨_, _, _, rfl, by decide, inX12, Or.inl (gt_at (i := 1092) (by decide +kernel) (by decide +kernel))⟩
theorem lpX12_262 : pfl RX12 262 11 35 (.int) := ⟨_, _, _, tyX12, rfl, by decide, inX12, tyX12_ok, nmX12, rfl, by decide +kernel, Or.inl (gt_at (i := 1092) (by decide +kernel) (by decide +kernel))⟩
theorem lkX11_9 : Cond.classLink RX11 9 "PolyominoCover$Problem" ∈ gt := gt_at (i := 107) (by decide +kernel) (by decide +kernel)
theorem lkX11_16 : Cond.classLink RX11 16 "PolyominoCover$History" ∈ gt := gt_at (i := 167) (by decide +kernel) (by decide +kernel)
theorem lkX11_23 : Cond.classLink RX11 23 "PolyominoCover$Reader" ∈ gt := gt_at (i := 187) (by decide +kernel) (by decide +kernel)
theorem lkX11_30 : Cond.classLink RX11 30 "PolyominoCover$Forms" ∈ gt := gt_at (i := 218) (by decide +kernel) (by decide +kernel)
theorem lkX11_37 : Cond.classLink RX11 37 "PolyominoCover$Placements" ∈ gt := gt_at (i := 231) (by decide +kernel) (by decide +kernel)
theorem lkX11_44 : Cond.classLink RX11 44 "PolyominoCover$Symmetries" ∈ gt := gt_at (i := 265) (by decide +kernel) (by decide +kernel)
theorem lkX11_51 : Cond.classLink RX11 51 "PolyominoCover$Walk" ∈ gt := gt_at (i := 280) (by decide +kernel) (by decide +kernel)
theorem lkX11_60 : Cond.classLink RX11 60 "PolyominoCover$Covers" ∈ gt := gt_at (i := 340) (by decide +kernel) (by decide +kernel)
theorem lkX11_69 : Cond.classLink RX11 69 "PolyominoCover$Sieve" ∈ gt := gt_at (i := 375) (by decide +kernel) (by decide +kernel)
theorem lkX11_76 : Cond.classLink RX11 76 "PolyominoCover$Weights" ∈ gt := gt_at (i := 386) (by decide +kernel) (by decide +kernel)
theorem lkX2_9 : Cond.classLink RX2 9 "PolyominoCover$Problem" ∈ gt := gt_at (i := 173) (by decide +kernel) (by decide +kernel)
theorem lkX5_19 : Cond.classLink RX5 19 "PolyominoCover$Problem" ∈ gt := gt_at (i := 193) (by decide +kernel) (by decide +kernel)
theorem lcX6_9 : Cond.constant RX6 9 (-65536) ∈ gt := gt_at (i := 551) (by decide +kernel) (by decide +kernel)
theorem lcX6_22 : Cond.constant RX6 22 (-34953) ∈ gt := gt_at (i := 561) (by decide +kernel) (by decide +kernel)
theorem lcX9_88 : Cond.constant RX9 88 (60010) ∈ gt := gt_at (i := 851) (by decide +kernel) (by decide +kernel)
theorem lcX9_119 : Cond.constantLong RX9 119 (-1) ∈ gt := gt_at (i := 844) (by decide +kernel) (by decide +kernel)
theorem lkL_7 : Cond.classLink RL 7 "PolyominoCover" ∈ gt := gt_at (i := 99) (by decide +kernel) (by decide +kernel)
theorem lkL_10 : Cond.classLink RL 10 "PolyominoCoverModel" ∈ gt := gt_at (i := 1051) (by decide +kernel) (by decide +kernel)
theorem lcX12_80 : Cond.constant RX12 80 (61166) ∈ gt := gt_at (i := 1226) (by decide +kernel) (by decide +kernel)
theorem lcX12_81 : Cond.constant RX12 81 (65535) ∈ gt := gt_at (i := 1219) (by decide +kernel) (by decide +kernel)
theorem lcX12_251 : Cond.constantLong RX12 251 (-1) ∈ gt := gt_at (i := 1391) (by decide +kernel) (by decide +kernel)
theorem lcJ6_265 : Cond.constant RJ6 265 (1431655765) ∈ gt := gt_at (i := 555) (by decide +kernel) (by decide +kernel)
theorem lcJ6_266 : Cond.constant RJ6 266 (858993459) ∈ gt := gt_at (i := 556) (by decide +kernel) (by decide +kernel)
theorem lcJ6_267 : Cond.constant RJ6 267 (252645135) ∈ gt := gt_at (i := 557) (by decide +kernel) (by decide +kernel)
theorem lcJ13_314 : Cond.constantLong RJ13 314 (6148914691236517205) ∈ gt := gt_at (i := 536) (by decide +kernel) (by decide +kernel)
theorem lcJ13_316 : Cond.constantLong RJ13 316 (3689348814741910323) ∈ gt := gt_at (i := 537) (by decide +kernel) (by decide +kernel)
theorem lcJ13_318 : Cond.constantLong RJ13 318 (1085102592571150095) ∈ gt := gt_at (i := 538) (by decide +kernel) (by decide +kernel)
theorem lzL : Cond.initialized RL ∈ gt := gt_at (i := 82) (by decide +kernel) (by decide +kernel)
theorem lzX11 : Cond.initialized RX11 ∈ gt := gt_at (i := 83) (by decide +kernel) (by decide +kernel)
theorem lzX4 : Cond.initialized RX4 ∈ gt := gt_at (i := 84) (by decide +kernel) (by decide +kernel)
theorem lzX2 : Cond.initialized RX2 ∈ gt := gt_at (i := 85) (by decide +kernel) (by decide +kernel)
theorem lzX5 : Cond.initialized RX5 ∈ gt := gt_at (i := 86) (by decide +kernel) (by decide +kernel)
theorem lzX1 : Cond.initialized RX1 ∈ gt := gt_at (i := 87) (by decide +kernel) (by decide +kernel)
theorem lzX3 : Cond.initialized RX3 ∈ gt := gt_at (i := 88) (by decide +kernel) (by decide +kernel)
theorem lzX8 : Cond.initialized RX8 ∈ gt := gt_at (i := 89) (by decide +kernel) (by decide +kernel)
theorem lzX9 : Cond.initialized RX9 ∈ gt := gt_at (i := 90) (by decide +kernel) (by decide +kernel)
theorem lzX0 : Cond.initialized RX0 ∈ gt := gt_at (i := 91) (by decide +kernel) (by decide +kernel)
theorem lzX7 : Cond.initialized RX7 ∈ gt := gt_at (i := 92) (by decide +kernel) (by decide +kernel)
theorem lzX10 : Cond.initialized RX10 ∈ gt := gt_at (i := 93) (by decide +kernel) (by decide +kernel)
theorem lzX12 : Cond.initialized RX12 ∈ gt := gt_at (i := 94) (by decide +kernel) (by decide +kernel)
theorem lzJ13 : Cond.initialized RJ13 ∈ gt := gt_at (i := 95) (by decide +kernel) (by decide +kernel)
theorem lzX6 : Cond.initialized RX6 ∈ gt := gt_at (i := 96) (by decide +kernel) (by decide +kernel)
theorem lzJ6 : Cond.initialized RJ6 ∈ gt := gt_at (i := 97) (by decide +kernel) (by decide +kernel)
theorem lzJ9 : Cond.initialized RJ9 ∈ gt := gt_at (i := 98) (by decide +kernel) (by decide +kernel)
theorem liX11 : Cond.instantiable RX11 13 ∈ gt := gt_at (i := 100) (by decide +kernel) (by decide +kernel)
theorem loX11_3 : Cond.methodLink RX11 3 objectInit ∈ gt := gt_at (i := 104) (by decide +kernel) (by decide +kernel)
theorem liX4 : Cond.instantiable RX4 10 ∈ gt := gt_at (i := 108) (by decide +kernel) (by decide +kernel)
theorem loX4_3 : Cond.methodLink RX4 3 objectInit ∈ gt := gt_at (i := 112) (by decide +kernel) (by decide +kernel)
theorem la_int : Cond.arrayClass .int ∈ gt := gt_at (i := 166) (by decide +kernel) (by decide +kernel)
theorem liX2 : Cond.instantiable RX2 3 ∈ gt := gt_at (i := 168) (by decide +kernel) (by decide +kernel)
theorem loX2_3 : Cond.methodLink RX2 3 objectInit ∈ gt := gt_at (i := 172) (by decide +kernel) (by decide +kernel)
theorem liX5 : Cond.instantiable RX5 7 ∈ gt := gt_at (i := 188) (by decide +kernel) (by decide +kernel)
theorem loX5_3 : Cond.methodLink RX5 3 objectInit ∈ gt := gt_at (i := 192) (by decide +kernel) (by decide +kernel)
theorem liX1 : Cond.instantiable RX1 2 ∈ gt := gt_at (i := 219) (by decide +kernel) (by decide +kernel)
theorem loX1_3 : Cond.methodLink RX1 3 objectInit ∈ gt := gt_at (i := 223) (by decide +kernel) (by decide +kernel)
theorem liX3 : Cond.instantiable RX3 6 ∈ gt := gt_at (i := 232) (by decide +kernel) (by decide +kernel)
theorem loX3_3 : Cond.methodLink RX3 3 objectInit ∈ gt := gt_at (i := 236) (by decide +kernel) (by decide +kernel)
theorem la_long : Cond.arrayClass .long ∈ gt := gt_at (i := 264) (by decide +kernel) (by decide +kernel)
theorem liX8 : Cond.instantiable RX8 2 ∈ gt := gt_at (i := 266) (by decide +kernel) (by decide +kernel)
theorem loX8_3 : Cond.methodLink RX8 3 objectInit ∈ gt := gt_at (i := 270) (by decide +kernel) (by decide +kernel)
theorem liX9 : Cond.instantiable RX9 16 ∈ gt := gt_at (i := 281) (by decide +kernel) (by decide +kernel)
theorem loX9_3 : Cond.methodLink RX9 3 objectInit ∈ gt := gt_at (i := 285) (by decide +kernel) (by decide +kernel)
theorem liX0 : Cond.instantiable RX0 8 ∈ gt := gt_at (i := 341) (by decide +kernel) (by decide +kernel)
theorem loX0_3 : Cond.methodLink RX0 3 objectInit ∈ gt := gt_at (i := 345) (by decide +kernel) (by decide +kernel)
theorem liX7 : Cond.instantiable RX7 1 ∈ gt := gt_at (i := 376) (by decide +kernel) (by decide +kernel)
theorem loX7_3 : Cond.methodLink RX7 3 objectInit ∈ gt := gt_at (i := 380) (by decide +kernel) (by decide +kernel)
theorem la_boolean : Cond.arrayClass .boolean ∈ gt := gt_at (i := 385) (by decide +kernel) (by decide +kernel)
theorem liX10 : Cond.instantiable RX10 3 ∈ gt := gt_at (i := 387) (by decide +kernel) (by decide +kernel)
theorem loX10_3 : Cond.methodLink RX10 3 objectInit ∈ gt := gt_at (i := 391) (by decide +kernel) (by decide +kernel)
theorem liX12 : Cond.instantiable RX12 38 ∈ gt := gt_at (i := 1052) (by decide +kernel) (by decide +kernel)
theorem loX12_1 : Cond.methodLink RX12 1 objectInit ∈ gt := gt_at (i := 1056) (by decide +kernel) (by decide +kernel)
theorem la_byte : Cond.arrayClass .byte ∈ gt := gt_at (i := 1172) (by decide +kernel) (by decide +kernel)
theorem lo_inst : Cond.instanceMethod objectInit ∈ gt := gt_at (i := 105) (by decide +kernel) (by decide +kernel)
theorem lo_code : Cond.code objectInit ⟨#[0xb1]⟩ 1 none ∈ gt := gt_at (i := 106) (by decide +kernel) (by decide +kernel)
theorem lo_over : lw_tbl[174]? = some (Cond.arrayOver (.object RX4)) := by decide +kernel
