/-! ===== BEGIN words of one list among another's, by their places ===== -/
theorem goodIn_r {big : List Cond} (ws : List Cond) (ps : List Nat) (hp : ws = ps.filterMap (fun i => big[i]?)) (h : ws.all goodWord = true) : GoodIn big ws := by
  intro w hw
  have h1 := List.all_eq_true.mp h w hw
  rw [hp] at hw
  obtain ⟨i, -, hi⟩ := List.mem_filterMap.mp hw
  have hm : w ∈ big := by first | exact List.mem_of_getElem? hi | exact List.getElem?_mem hi
  exact ⟨hm, good_of_word h1⟩
theorem goodIn_app {big a b : List Cond} (ha : GoodIn big a) (hb : GoodIn big b) : GoodIn big (a ++ b) := fun w h => (List.mem_append.mp h).elim (ha w) (hb w)
theorem goodIn_ca {big a b : List Cond} {c : Cond} (ha : GoodIn big (c :: a)) (hb : GoodIn big b) : GoodIn big (c :: (a ++ b)) := fun w h => (List.mem_cons.mp h).elim (fun e => ha w (List.mem_cons.mpr (Or.inl e))) (fun h => (List.mem_append.mp h).elim (fun h => ha w (List.mem_cons.mpr (Or.inr h))) (hb w))
theorem goodIn_sub {big ws : List Cond} (hm : ∀ w ∈ ws, w ∈ big) (h : ws.all goodWord = true) : GoodIn big ws := fun w hw => ⟨hm w hw, good_of_word (List.all_eq_true.mp h w hw)⟩
/-! ===== END ===== -/

/-! ===== BEGIN printed: names, fields, word lists, decode rows ===== -/
def RX0 : String := "WallHeat$Book"
def TX0 : u_T := fun k => match k with
  | 0 => ("WallHeat$Book", "there", "Z", false)
  | 1 => ("WallHeat$Book", "keys", "I", false)
  | 2 => ("WallHeat$Book", "letters", "[I", true)
  | 3 => ("WallHeat$Book", "numbers", "[I", true)
  | _ => ("WallHeat$Book", "values", "[I", true)
def tyX0 : Nat → FieldType := fun k => match k with
  | 0 => .boolean
  | 1 => .int
  | 2 => .array .int
  | 3 => .array .int
  | _ => .array .int
abbrev wsX00 : List Cond := u_ws RX0 TX0 5
theorem nmX0 : ∀ a, a < 5 → ∀ b, b < 5 → a ≠ b → (TX0 a).2.1 ≠ (TX0 b).2.1 := by decide +kernel
theorem tyX0_ok : ∀ k, k < 5 → parseFieldDescriptor (TX0 k).2.2.1 = some (tyX0 k) := by decide +kernel
abbrev cX0_init : ByteArray := prog_2_method_1_code
def yX0_init : MethodName := ⟨RX0, "<init>", "()V"⟩
abbrev cX0_placeOf : ByteArray := prog_2_method_2_code
def yX0_placeOf : MethodName := ⟨RX0, "placeOf", "(II)I"⟩
abbrev cX0_enter : ByteArray := prog_2_method_3_code
def yX0_enter : MethodName := ⟨RX0, "enter", "(III)I"⟩
abbrev cX0_remove : ByteArray := prog_2_method_4_code
def yX0_remove : MethodName := ⟨RX0, "remove", "(I)I"⟩
abbrev cX0_alikeWith : ByteArray := prog_2_method_5_code
def yX0_alikeWith : MethodName := ⟨RX0, "alikeWith", "(LWallHeat$Book;)I"⟩
def RX1 : String := "WallHeat$Past"
def TX1 : u_T := fun k => match k with
  | 0 => ("WallHeat$Past", "ring", "[LWallHeat$Warmth;", true)
  | 1 => ("WallHeat$Past", "stored", "[LWallHeat$Warmth;", true)
  | 2 => ("WallHeat$Past", "marks", "[I", true)
  | 3 => ("WallHeat$Past", "top", "I", false)
  | _ => ("WallHeat$Past", "undoable", "I", false)
def tyX1 : Nat → FieldType := fun k => match k with
  | 0 => .array (.object "WallHeat$Warmth")
  | 1 => .array (.object "WallHeat$Warmth")
  | 2 => .array .int
  | 3 => .int
  | _ => .int
abbrev wsX10 : List Cond := u_ws RX1 TX1 5
theorem nmX1 : ∀ a, a < 5 → ∀ b, b < 5 → a ≠ b → (TX1 a).2.1 ≠ (TX1 b).2.1 := by decide +kernel
theorem tyX1_ok : ∀ k, k < 5 → parseFieldDescriptor (TX1 k).2.2.1 = some (tyX1 k) := by decide +kernel
abbrev cX1_init : ByteArray := prog_3_method_1_code
def yX1_init : MethodName := ⟨RX1, "<init>", "()V"⟩
abbrev cX1_forget : ByteArray := prog_3_method_2_code
def yX1_forget : MethodName := ⟨RX1, "forget", "()V"⟩
abbrev cX1_slot : ByteArray := prog_3_method_3_code
def yX1_slot : MethodName := ⟨RX1, "slot", "([LWallHeat$Warmth;I)LWallHeat$Warmth;"⟩
abbrev cX1_remember : ByteArray := prog_3_method_4_code
def yX1_remember : MethodName := ⟨RX1, "remember", "(LWallHeat$Warmth;)V"⟩
abbrev cX1_takeBack : ByteArray := prog_3_method_5_code
def yX1_takeBack : MethodName := ⟨RX1, "takeBack", "(LWallHeat$Warmth;)V"⟩
abbrev cX1_isStored : ByteArray := prog_3_method_6_code
def yX1_isStored : MethodName := ⟨RX1, "isStored", "(I)Z"⟩
abbrev cX1_store : ByteArray := prog_3_method_7_code
def yX1_store : MethodName := ⟨RX1, "store", "(ILWallHeat$Warmth;)V"⟩
abbrev cX1_restore : ByteArray := prog_3_method_8_code
def yX1_restore : MethodName := ⟨RX1, "restore", "(ILWallHeat$Warmth;)V"⟩
def RX2 : String := "WallHeat$Reader"
def TX2 : u_T := fun k => match k with
  | 0 => ("WallHeat$Reader", "text", "LWallHeat$Text;", true)
  | 1 => ("WallHeat$Reader", "drawn", "LWallHeat$Wall;", true)
  | _ => ("WallHeat$Reader", "clauses", "I", false)
def tyX2 : Nat → FieldType := fun k => match k with
  | 0 => .object "WallHeat$Text"
  | 1 => .object "WallHeat$Wall"
  | _ => .int
abbrev wsX20 : List Cond := u_ws RX2 TX2 3
theorem nmX2 : ∀ a, a < 3 → ∀ b, b < 3 → a ≠ b → (TX2 a).2.1 ≠ (TX2 b).2.1 := by decide +kernel
theorem tyX2_ok : ∀ k, k < 3 → parseFieldDescriptor (TX2 k).2.2.1 = some (tyX2 k) := by decide +kernel
abbrev cX2_init : ByteArray := prog_4_method_1_code
def yX2_init : MethodName := ⟨RX2, "<init>", "()V"⟩
abbrev cX2_firstFault : ByteArray := prog_4_method_2_code
def yX2_firstFault : MethodName := ⟨RX2, "firstFault", "(LWallHeat$Wall;)I"⟩
abbrev cX2_readClause : ByteArray := prog_4_method_3_code
def yX2_readClause : MethodName := ⟨RX2, "readClause", "()Z"⟩
abbrev cX2_readWall : ByteArray := prog_4_method_4_code
def yX2_readWall : MethodName := ⟨RX2, "readWall", "()Z"⟩
abbrev cX2_readStuff : ByteArray := prog_4_method_5_code
def yX2_readStuff : MethodName := ⟨RX2, "readStuff", "()Z"⟩
abbrev cX2_readLayer : ByteArray := prog_4_method_6_code
def yX2_readLayer : MethodName := ⟨RX2, "readLayer", "()Z"⟩
abbrev cX2_readAir : ByteArray := prog_4_method_7_code
def yX2_readAir : MethodName := ⟨RX2, "readAir", "()Z"⟩
abbrev cX2_readHeat : ByteArray := prog_4_method_8_code
def yX2_readHeat : MethodName := ⟨RX2, "readHeat", "()Z"⟩
abbrev cX2_takeWord : ByteArray := prog_4_method_9_code
def yX2_takeWord : MethodName := ⟨RX2, "takeWord", "(Ljava/lang/String;)Z"⟩
abbrev cX2_takeNumber : ByteArray := prog_4_method_10_code
def yX2_takeNumber : MethodName := ⟨RX2, "takeNumber", "(II)I"⟩
def RX3 : String := "WallHeat$Text"
def TX3 : u_T := fun k => match k with
  | 0 => ("WallHeat$Text", "letters", "[I", true)
  | 1 => ("WallHeat$Text", "many", "I", false)
  | 2 => ("WallHeat$Text", "from", "I", false)
  | 3 => ("WallHeat$Text", "behind", "I", false)
  | _ => ("WallHeat$Text", "kind", "I", false)
def tyX3 : Nat → FieldType := fun k => match k with
  | 0 => .array .int
  | 1 => .int
  | 2 => .int
  | 3 => .int
  | _ => .int
abbrev wsX30 : List Cond := u_ws RX3 TX3 5
theorem nmX3 : ∀ a, a < 5 → ∀ b, b < 5 → a ≠ b → (TX3 a).2.1 ≠ (TX3 b).2.1 := by decide +kernel
theorem tyX3_ok : ∀ k, k < 5 → parseFieldDescriptor (TX3 k).2.2.1 = some (tyX3 k) := by decide +kernel
abbrev cX3_init : ByteArray := prog_5_method_1_code
def yX3_init : MethodName := ⟨RX3, "<init>", "()V"⟩
abbrev cX3_add : ByteArray := prog_5_method_2_code
def yX3_add : MethodName := ⟨RX3, "add", "(I)V"⟩
abbrev cX3_lookFrom : ByteArray := prog_5_method_3_code
def yX3_lookFrom : MethodName := ⟨RX3, "lookFrom", "(I)V"⟩
abbrev cX3_kindOf : ByteArray := prog_5_method_4_code
def yX3_kindOf : MethodName := ⟨RX3, "kindOf", "(I)I"⟩
abbrev cX3_tokenLength : ByteArray := prog_5_method_5_code
def yX3_tokenLength : MethodName := ⟨RX3, "tokenLength", "()I"⟩
abbrev cX3_isToken : ByteArray := prog_5_method_6_code
def yX3_isToken : MethodName := ⟨RX3, "isToken", "(Ljava/lang/String;)Z"⟩
abbrev cX3_isSemicolon : ByteArray := prog_5_method_7_code
def yX3_isSemicolon : MethodName := ⟨RX3, "isSemicolon", "()Z"⟩
abbrev cX3_number : ByteArray := prog_5_method_8_code
def yX3_number : MethodName := ⟨RX3, "number", "()I"⟩
def RX4 : String := "WallHeat$Wall"
def TX4 : u_T := fun k => match k with
  | 0 => ("WallHeat$Wall", "stuffs", "I", false)
  | 1 => ("WallHeat$Wall", "words", "[I", true)
  | 2 => ("WallHeat$Wall", "lengths", "[I", true)
  | 3 => ("WallHeat$Wall", "passes", "[I", true)
  | 4 => ("WallHeat$Wall", "holds", "[I", true)
  | 5 => ("WallHeat$Wall", "cells", "I", false)
  | 6 => ("WallHeat$Wall", "stuffOf", "[I", true)
  | 7 => ("WallHeat$Wall", "now", "LWallHeat$Warmth;", true)
  | _ => ("WallHeat$Wall", "flows", "[I", true)
def tyX4 : Nat → FieldType := fun k => match k with
  | 0 => .int
  | 1 => .array .int
  | 2 => .array .int
  | 3 => .array .int
  | 4 => .array .int
  | 5 => .int
  | 6 => .array .int
  | 7 => .object "WallHeat$Warmth"
  | _ => .array .int
abbrev wsX40 : List Cond := u_ws RX4 TX4 9
theorem nmX4 : ∀ a, a < 9 → ∀ b, b < 9 → a ≠ b → (TX4 a).2.1 ≠ (TX4 b).2.1 := by decide +kernel
theorem tyX4_ok : ∀ k, k < 9 → parseFieldDescriptor (TX4 k).2.2.1 = some (tyX4 k) := by decide +kernel
abbrev cX4_init : ByteArray := prog_6_method_1_code
def yX4_init : MethodName := ⟨RX4, "<init>", "()V"⟩
abbrev cX4_become : ByteArray := prog_6_method_2_code
def yX4_become : MethodName := ⟨RX4, "become", "(LWallHeat$Wall;)V"⟩
abbrev cX4_clear : ByteArray := prog_6_method_3_code
def yX4_clear : MethodName := ⟨RX4, "clear", "(I)V"⟩
abbrev cX4_isStuff : ByteArray := prog_6_method_4_code
def yX4_isStuff : MethodName := ⟨RX4, "isStuff", "(I)Z"⟩
abbrev cX4_isCell : ByteArray := prog_6_method_5_code
def yX4_isCell : MethodName := ⟨RX4, "isCell", "(I)Z"⟩
abbrev cX4_passesAt : ByteArray := prog_6_method_6_code
def yX4_passesAt : MethodName := ⟨RX4, "passesAt", "(I)I"⟩
abbrev cX4_holdsAt : ByteArray := prog_6_method_7_code
def yX4_holdsAt : MethodName := ⟨RX4, "holdsAt", "(I)I"⟩
abbrev cX4_cellsOf : ByteArray := prog_6_method_8_code
def yX4_cellsOf : MethodName := ⟨RX4, "cellsOf", "(I)I"⟩
abbrev cX4_nameNext : ByteArray := prog_6_method_9_code
def yX4_nameNext : MethodName := ⟨RX4, "nameNext", "(LWallHeat$Text;)V"⟩
abbrev cX4_addStuff : ByteArray := prog_6_method_10_code
def yX4_addStuff : MethodName := ⟨RX4, "addStuff", "(II)V"⟩
abbrev cX4_addCells : ByteArray := prog_6_method_11_code
def yX4_addCells : MethodName := ⟨RX4, "addCells", "(II)V"⟩
abbrev cX4_stuffNamed : ByteArray := prog_6_method_12_code
def yX4_stuffNamed : MethodName := ⟨RX4, "stuffNamed", "(LWallHeat$Text;II)I"⟩
abbrev cX4_isNamed : ByteArray := prog_6_method_13_code
def yX4_isNamed : MethodName := ⟨RX4, "isNamed", "(ILWallHeat$Text;II)Z"⟩
abbrev cX4_advance : ByteArray := prog_6_method_14_code
def yX4_advance : MethodName := ⟨RX4, "advance", "(LWallHeat$Warmth;)Z"⟩
abbrev cX4_heatBehind : ByteArray := prog_6_method_15_code
def yX4_heatBehind : MethodName := ⟨RX4, "heatBehind", "(LWallHeat$Warmth;I)I"⟩
abbrev cX4_flowAt : ByteArray := prog_6_method_16_code
def yX4_flowAt : MethodName := ⟨RX4, "flowAt", "(LWallHeat$Warmth;I)I"⟩
abbrev cX4_degreesAbove : ByteArray := prog_6_method_17_code
def yX4_degreesAbove : MethodName := ⟨RX4, "degreesAbove", "(LWallHeat$Warmth;I)J"⟩
abbrev cX4_degreesBelow : ByteArray := prog_6_method_18_code
def yX4_degreesBelow : MethodName := ⟨RX4, "degreesBelow", "(I)J"⟩
abbrev cX4_betweenAbove : ByteArray := prog_6_method_19_code
def yX4_betweenAbove : MethodName := ⟨RX4, "betweenAbove", "(I)J"⟩
abbrev cX4_betweenBelow : ByteArray := prog_6_method_20_code
def yX4_betweenBelow : MethodName := ⟨RX4, "betweenBelow", "(I)J"⟩
abbrev cX4_safe : ByteArray := prog_6_method_21_code
def yX4_safe : MethodName := ⟨RX4, "safe", "()I"⟩
abbrev cX4_resistsInAll : ByteArray := prog_6_method_22_code
def yX4_resistsInAll : MethodName := ⟨RX4, "resistsInAll", "()J"⟩
abbrev cX4_resistsRightOf : ByteArray := prog_6_method_23_code
def yX4_resistsRightOf : MethodName := ⟨RX4, "resistsRightOf", "(I)J"⟩
abbrev cX4_mostOf : ByteArray := prog_6_method_24_code
def yX4_mostOf : MethodName := ⟨RX4, "mostOf", "(I)I"⟩
abbrev cX4_compareDegrees : ByteArray := prog_6_method_25_code
def yX4_compareDegrees : MethodName := ⟨RX4, "compareDegrees", "(II)I"⟩
abbrev cX4_alikePairs : ByteArray := prog_6_method_26_code
def yX4_alikePairs : MethodName := ⟨RX4, "alikePairs", "()I"⟩
abbrev cX4_isAlike : ByteArray := prog_6_method_27_code
def yX4_isAlike : MethodName := ⟨RX4, "isAlike", "(II)Z"⟩
def RX5 : String := "WallHeat$Warmth"
def TX5 : u_T := fun k => match k with
  | 0 => ("WallHeat$Warmth", "heats", "[I", true)
  | 1 => ("WallHeat$Warmth", "left", "I", false)
  | 2 => ("WallHeat$Warmth", "right", "I", false)
  | 3 => ("WallHeat$Warmth", "pace", "I", false)
  | 4 => ("WallHeat$Warmth", "in", "I", false)
  | 5 => ("WallHeat$Warmth", "out", "I", false)
  | _ => ("WallHeat$Warmth", "steps", "I", false)
def tyX5 : Nat → FieldType := fun k => match k with
  | 0 => .array .int
  | 1 => .int
  | 2 => .int
  | 3 => .int
  | 4 => .int
  | 5 => .int
  | _ => .int
abbrev wsX50 : List Cond := u_ws RX5 TX5 7
theorem nmX5 : ∀ a, a < 7 → ∀ b, b < 7 → a ≠ b → (TX5 a).2.1 ≠ (TX5 b).2.1 := by decide +kernel
theorem tyX5_ok : ∀ k, k < 7 → parseFieldDescriptor (TX5 k).2.2.1 = some (tyX5 k) := by decide +kernel
abbrev cX5_init : ByteArray := prog_7_method_1_code
def yX5_init : MethodName := ⟨RX5, "<init>", "()V"⟩
abbrev cX5_become : ByteArray := prog_7_method_2_code
def yX5_become : MethodName := ⟨RX5, "become", "(LWallHeat$Warmth;)V"⟩
abbrev cX5_forget : ByteArray := prog_7_method_3_code
def yX5_forget : MethodName := ⟨RX5, "forget", "()V"⟩
abbrev cX5_allHeat : ByteArray := prog_7_method_4_code
def yX5_allHeat : MethodName := ⟨RX5, "allHeat", "(I)I"⟩
def RX6 : String := "WallHeat"
def TX6 : u_T := fun k => match k with
  | 0 => ("WallHeat", "reader", "LWallHeat$Reader;", true)
  | 1 => ("WallHeat", "standing", "LWallHeat$Wall;", true)
  | 2 => ("WallHeat", "ahead", "LWallHeat$Warmth;", true)
  | 3 => ("WallHeat", "past", "LWallHeat$Past;", true)
  | _ => ("WallHeat", "pages", "[LWallHeat$Book;", true)
def tyX6 : Nat → FieldType := fun k => match k with
  | 0 => .object "WallHeat$Reader"
  | 1 => .object "WallHeat$Wall"
  | 2 => .object "WallHeat$Warmth"
  | 3 => .object "WallHeat$Past"
  | _ => .array (.object "WallHeat$Book")
abbrev wsX60 : List Cond := u_ws RX6 TX6 5
theorem nmX6 : ∀ a, a < 5 → ∀ b, b < 5 → a ≠ b → (TX6 a).2.1 ≠ (TX6 b).2.1 := by decide +kernel
theorem tyX6_ok : ∀ k, k < 5 → parseFieldDescriptor (TX6 k).2.2.1 = some (tyX6 k) := by decide +kernel
abbrev cX6_init : ByteArray := prog_1_method_1_code
def yX6_init : MethodName := ⟨RX6, "<init>", "()V"⟩
abbrev cX6_write : ByteArray := prog_1_method_2_code
def yX6_write : MethodName := ⟨RX6, "write", "(I)I"⟩
abbrev cX6_erase : ByteArray := prog_1_method_3_code
def yX6_erase : MethodName := ⟨RX6, "erase", "()I"⟩
abbrev cX6_fault : ByteArray := prog_1_method_4_code
def yX6_fault : MethodName := ⟨RX6, "fault", "()I"⟩
abbrev cX6_wall : ByteArray := prog_1_method_5_code
def yX6_wall : MethodName := ⟨RX6, "wall", "()I"⟩
abbrev cX6_find : ByteArray := prog_1_method_6_code
def yX6_find : MethodName := ⟨RX6, "find", "()I"⟩
abbrev cX6_stuff : ByteArray := prog_1_method_7_code
def yX6_stuff : MethodName := ⟨RX6, "stuff", "(II)I"⟩
abbrev cX6_cell : ByteArray := prog_1_method_8_code
def yX6_cell : MethodName := ⟨RX6, "cell", "(II)I"⟩
abbrev cX6_rest : ByteArray := prog_1_method_9_code
def yX6_rest : MethodName := ⟨RX6, "rest", "(II)J"⟩
abbrev cX6_step : ByteArray := prog_1_method_10_code
def yX6_step : MethodName := ⟨RX6, "step", "(I)I"⟩
abbrev cX6_heat : ByteArray := prog_1_method_11_code
def yX6_heat : MethodName := ⟨RX6, "heat", "(II)I"⟩
abbrev cX6_air : ByteArray := prog_1_method_12_code
def yX6_air : MethodName := ⟨RX6, "air", "(II)I"⟩
abbrev cX6_pace : ByteArray := prog_1_method_13_code
def yX6_pace : MethodName := ⟨RX6, "pace", "(I)I"⟩
abbrev cX6_undo : ByteArray := prog_1_method_14_code
def yX6_undo : MethodName := ⟨RX6, "undo", "()I"⟩
abbrev cX6_keep : ByteArray := prog_1_method_15_code
def yX6_keep : MethodName := ⟨RX6, "keep", "(I)I"⟩
abbrev cX6_back : ByteArray := prog_1_method_16_code
def yX6_back : MethodName := ⟨RX6, "back", "(I)I"⟩
abbrev cX6_flow : ByteArray := prog_1_method_17_code
def yX6_flow : MethodName := ⟨RX6, "flow", "(I)I"⟩
abbrev cX6_until : ByteArray := prog_1_method_18_code
def yX6_until : MethodName := ⟨RX6, "until", "(II)I"⟩
abbrev cX6_resists : ByteArray := prog_1_method_19_code
def yX6_resists : MethodName := ⟨RX6, "resists", "(I)I"⟩
abbrev cX6_swapped : ByteArray := prog_1_method_20_code
def yX6_swapped : MethodName := ⟨RX6, "swapped", "(III)I"⟩
abbrev cX6_gain : ByteArray := prog_1_method_21_code
def yX6_gain : MethodName := ⟨RX6, "gain", "(I)I"⟩
abbrev cX6_page : ByteArray := prog_1_method_22_code
def yX6_page : MethodName := ⟨RX6, "page", "(I)I"⟩
abbrev cX6_put : ByteArray := prog_1_method_23_code
def yX6_put : MethodName := ⟨RX6, "put", "(IIII)I"⟩
abbrev cX6_get : ByteArray := prog_1_method_24_code
def yX6_get : MethodName := ⟨RX6, "get", "(III)I"⟩
abbrev cX6_strike : ByteArray := prog_1_method_25_code
def yX6_strike : MethodName := ⟨RX6, "strike", "(III)I"⟩
abbrev cX6_common : ByteArray := prog_1_method_26_code
def yX6_common : MethodName := ⟨RX6, "common", "(II)I"⟩
abbrev cX6_sum : ByteArray := prog_1_method_27_code
def yX6_sum : MethodName := ⟨RX6, "sum", "(II)I"⟩
abbrev cX6_drop : ByteArray := prog_1_method_28_code
def yX6_drop : MethodName := ⟨RX6, "drop", "(I)I"⟩
abbrev cX6_count : ByteArray := prog_1_method_29_code
def yX6_count : MethodName := ⟨RX6, "count", "(I)I"⟩
abbrev cX6_bookAt : ByteArray := prog_1_method_30_code
def yX6_bookAt : MethodName := ⟨RX6, "bookAt", "(I)LWallHeat$Book;"⟩
abbrev cX6_missPage : ByteArray := prog_1_method_31_code
def yX6_missPage : MethodName := ⟨RX6, "missPage", "(I)V"⟩
abbrev cX6_keysOfAllPages : ByteArray := prog_1_method_32_code
def yX6_keysOfAllPages : MethodName := ⟨RX6, "keysOfAllPages", "()I"⟩
abbrev cX6_isPart : ByteArray := prog_1_method_33_code
def yX6_isPart : MethodName := ⟨RX6, "isPart", "(I)Z"⟩
abbrev cX6_isHeat : ByteArray := prog_1_method_34_code
def yX6_isHeat : MethodName := ⟨RX6, "isHeat", "(I)Z"⟩
abbrev cX6_isDegrees : ByteArray := prog_1_method_35_code
def yX6_isDegrees : MethodName := ⟨RX6, "isDegrees", "(I)Z"⟩
abbrev cX6_isKey : ByteArray := prog_1_method_36_code
def yX6_isKey : MethodName := ⟨RX6, "isKey", "(II)Z"⟩
abbrev cX6_at : ByteArray := prog_1_method_37_code
def yX6_at : MethodName := ⟨RX6, "at", "([II)I"⟩
abbrev cX6_set : ByteArray := prog_1_method_38_code
def yX6_set : MethodName := ⟨RX6, "set", "([III)V"⟩
abbrev cX6_copyRow : ByteArray := prog_1_method_39_code
def yX6_copyRow : MethodName := ⟨RX6, "copyRow", "([I[I)V"⟩
abbrev cX6_total : ByteArray := prog_1_method_40_code
def yX6_total : MethodName := ⟨RX6, "total", "([II)I"⟩
abbrev cX6_cut : ByteArray := prog_1_method_41_code
def yX6_cut : MethodName := ⟨RX6, "cut", "(JJ)J"⟩
abbrev cX6_lowest : ByteArray := prog_1_method_42_code
def yX6_lowest : MethodName := ⟨RX6, "lowest", "(JJI)J"⟩
abbrev cX6_commonDivisor : ByteArray := prog_1_method_43_code
def yX6_commonDivisor : MethodName := ⟨RX6, "commonDivisor", "(JJ)J"⟩
abbrev cX6_halfResists : ByteArray := prog_1_method_44_code
def yX6_halfResists : MethodName := ⟨RX6, "halfResists", "(I)J"⟩
def RX7 : String := "WallHeatModel"
def TX7 : u_T := fun k => match k with
  | 0 => ("WallHeatModel", "row", "[I", true)
  | 1 => ("WallHeatModel", "stuffs", "I", false)
  | 2 => ("WallHeatModel", "passes", "[I", true)
  | 3 => ("WallHeatModel", "holds", "[I", true)
  | 4 => ("WallHeatModel", "names", "[I", true)
  | 5 => ("WallHeatModel", "sizes", "[I", true)
  | 6 => ("WallHeatModel", "cells", "I", false)
  | 7 => ("WallHeatModel", "of", "[I", true)
  | 8 => ("WallHeatModel", "undos", "I", false)
  | 9 => ("WallHeatModel", "isKept", "[Z", true)
  | 10 => ("WallHeatModel", "text", "[I", true)
  | 11 => ("WallHeatModel", "length", "I", false)
  | 12 => ("WallHeatModel", "many", "[I", true)
  | 13 => ("WallHeatModel", "letters", "[I", true)
  | 14 => ("WallHeatModel", "numbersOf", "[I", true)
  | 15 => ("WallHeatModel", "values", "[I", true)
  | 16 => ("WallHeatModel", "first", "I", false)
  | 17 => ("WallHeatModel", "behind", "I", false)
  | 18 => ("WallHeatModel", "readStuffs", "I", false)
  | 19 => ("WallHeatModel", "readCells", "I", false)
  | 20 => ("WallHeatModel", "readNames", "[I", true)
  | 21 => ("WallHeatModel", "readSizes", "[I", true)
  | 22 => ("WallHeatModel", "clauses", "I", false)
  | 23 => ("WallHeatModel", "doing", "Z", false)
  | 24 => ("WallHeatModel", "numbers", "[I", true)
  | 25 => ("WallHeatModel", "words", "[I", true)
  | _ => ("WallHeatModel", "flows", "[I", true)
def tyX7 : Nat → FieldType := fun k => match k with
  | 0 => .array .int
  | 1 => .int
  | 2 => .array .int
  | 3 => .array .int
  | 4 => .array .int
  | 5 => .array .int
  | 6 => .int
  | 7 => .array .int
  | 8 => .int
  | 9 => .array .boolean
  | 10 => .array .int
  | 11 => .int
  | 12 => .array .int
  | 13 => .array .int
  | 14 => .array .int
  | 15 => .array .int
  | 16 => .int
  | 17 => .int
  | 18 => .int
  | 19 => .int
  | 20 => .array .int
  | 21 => .array .int
  | 22 => .int
  | 23 => .boolean
  | 24 => .array .int
  | 25 => .array .int
  | _ => .array .int
abbrev wsX70 : List Cond := u_ws RX7 TX7 27
theorem nmX7 : ∀ a, a < 27 → ∀ b, b < 27 → a ≠ b → (TX7 a).2.1 ≠ (TX7 b).2.1 := by decide +kernel
theorem tyX7_ok : ∀ k, k < 27 → parseFieldDescriptor (TX7 k).2.2.1 = some (tyX7 k) := by decide +kernel
abbrev cX7_init : ByteArray := prog_9_method_1_code
def yX7_init : MethodName := ⟨RX7, "<init>", "()V"⟩
abbrev cX7_in : ByteArray := prog_9_method_2_code
def yX7_in : MethodName := ⟨RX7, "in", "(JJJ)Z"⟩
abbrev cX7_copyRow : ByteArray := prog_9_method_3_code
def yX7_copyRow : MethodName := ⟨RX7, "copyRow", "(II)V"⟩
abbrev cX7_write : ByteArray := prog_9_method_4_code
def yX7_write : MethodName := ⟨RX7, "write", "(I)I"⟩
abbrev cX7_erase : ByteArray := prog_9_method_5_code
def yX7_erase : MethodName := ⟨RX7, "erase", "()I"⟩
abbrev cX7_isSmall : ByteArray := prog_9_method_6_code
def yX7_isSmall : MethodName := ⟨RX7, "isSmall", "(I)Z"⟩
abbrev cX7_isDigit : ByteArray := prog_9_method_7_code
def yX7_isDigit : MethodName := ⟨RX7, "isDigit", "(I)Z"⟩
abbrev cX7_nextToken : ByteArray := prog_9_method_8_code
def yX7_nextToken : MethodName := ⟨RX7, "nextToken", "()V"⟩
abbrev cX7_wordHere : ByteArray := prog_9_method_9_code
def yX7_wordHere : MethodName := ⟨RX7, "wordHere", "()I"⟩
abbrev cX7_number : ByteArray := prog_9_method_10_code
def yX7_number : MethodName := ⟨RX7, "number", "(III)Z"⟩
abbrev cX7_stuffHere : ByteArray := prog_9_method_11_code
def yX7_stuffHere : MethodName := ⟨RX7, "stuffHere", "()I"⟩
abbrev cX7_readsNewWord : ByteArray := prog_9_method_12_code
def yX7_readsNewWord : MethodName := ⟨RX7, "readsNewWord", "()Z"⟩
abbrev cX7_readsTold : ByteArray := prog_9_method_13_code
def yX7_readsTold : MethodName := ⟨RX7, "readsTold", "()Z"⟩
abbrev cX7_lesser : ByteArray := prog_9_method_14_code
def yX7_lesser : MethodName := ⟨RX7, "lesser", "(II)I"⟩
abbrev cX7_readsRest : ByteArray := prog_9_method_15_code
def yX7_readsRest : MethodName := ⟨RX7, "readsRest", "(I)Z"⟩
abbrev cX7_does : ByteArray := prog_9_method_16_code
def yX7_does : MethodName := ⟨RX7, "does", "(I)V"⟩
abbrev cX7_readsClause : ByteArray := prog_9_method_17_code
def yX7_readsClause : MethodName := ⟨RX7, "readsClause", "()Z"⟩
abbrev cX7_layTold : ByteArray := prog_9_method_18_code
def yX7_layTold : MethodName := ⟨RX7, "layTold", "()V"⟩
abbrev cX7_reads : ByteArray := prog_9_method_19_code
def yX7_reads : MethodName := ⟨RX7, "reads", "(Z)Z"⟩
abbrev cX7_fault : ByteArray := prog_9_method_20_code
def yX7_fault : MethodName := ⟨RX7, "fault", "()I"⟩
abbrev cX7_wall : ByteArray := prog_9_method_21_code
def yX7_wall : MethodName := ⟨RX7, "wall", "()I"⟩
abbrev cX7_find : ByteArray := prog_9_method_22_code
def yX7_find : MethodName := ⟨RX7, "find", "()I"⟩
abbrev cX7_isStuff : ByteArray := prog_9_method_23_code
def yX7_isStuff : MethodName := ⟨RX7, "isStuff", "(I)Z"⟩
abbrev cX7_isCell : ByteArray := prog_9_method_24_code
def yX7_isCell : MethodName := ⟨RX7, "isCell", "(I)Z"⟩
abbrev cX7_holdsOf : ByteArray := prog_9_method_25_code
def yX7_holdsOf : MethodName := ⟨RX7, "holdsOf", "(I)I"⟩
abbrev cX7_passesOf : ByteArray := prog_9_method_26_code
def yX7_passesOf : MethodName := ⟨RX7, "passesOf", "(I)I"⟩
abbrev cX7_divisor : ByteArray := prog_9_method_27_code
def yX7_divisor : MethodName := ⟨RX7, "divisor", "(JJ)J"⟩
abbrev cX7_told : ByteArray := prog_9_method_28_code
def yX7_told : MethodName := ⟨RX7, "told", "(JJI)J"⟩
abbrev cX7_cellsOf : ByteArray := prog_9_method_29_code
def yX7_cellsOf : MethodName := ⟨RX7, "cellsOf", "(I)I"⟩
abbrev cX7_stuff : ByteArray := prog_9_method_30_code
def yX7_stuff : MethodName := ⟨RX7, "stuff", "(II)I"⟩
abbrev cX7_cell : ByteArray := prog_9_method_31_code
def yX7_cell : MethodName := ⟨RX7, "cell", "(II)I"⟩
abbrev cX7_rest : ByteArray := prog_9_method_32_code
def yX7_rest : MethodName := ⟨RX7, "rest", "(II)J"⟩
abbrev cX7_flowAt : ByteArray := prog_9_method_33_code
def yX7_flowAt : MethodName := ⟨RX7, "flowAt", "(II)I"⟩
abbrev cX7_steps : ByteArray := prog_9_method_34_code
def yX7_steps : MethodName := ⟨RX7, "steps", "(I)Z"⟩
abbrev cX7_allHeat : ByteArray := prog_9_method_35_code
def yX7_allHeat : MethodName := ⟨RX7, "allHeat", "()I"⟩
abbrev cX7_safeFor : ByteArray := prog_9_method_36_code
def yX7_safeFor : MethodName := ⟨RX7, "safeFor", "(I)I"⟩
abbrev cX7_safe : ByteArray := prog_9_method_37_code
def yX7_safe : MethodName := ⟨RX7, "safe", "()I"⟩
abbrev cX7_keepPast : ByteArray := prog_9_method_38_code
def yX7_keepPast : MethodName := ⟨RX7, "keepPast", "()V"⟩
abbrev cX7_step : ByteArray := prog_9_method_39_code
def yX7_step : MethodName := ⟨RX7, "step", "(I)I"⟩
abbrev cX7_heat : ByteArray := prog_9_method_40_code
def yX7_heat : MethodName := ⟨RX7, "heat", "(II)I"⟩
abbrev cX7_air : ByteArray := prog_9_method_41_code
def yX7_air : MethodName := ⟨RX7, "air", "(II)I"⟩
abbrev cX7_pace : ByteArray := prog_9_method_42_code
def yX7_pace : MethodName := ⟨RX7, "pace", "(I)I"⟩
abbrev cX7_undo : ByteArray := prog_9_method_43_code
def yX7_undo : MethodName := ⟨RX7, "undo", "()I"⟩
abbrev cX7_keep : ByteArray := prog_9_method_44_code
def yX7_keep : MethodName := ⟨RX7, "keep", "(I)I"⟩
abbrev cX7_back : ByteArray := prog_9_method_45_code
def yX7_back : MethodName := ⟨RX7, "back", "(I)I"⟩
abbrev cX7_flow : ByteArray := prog_9_method_46_code
def yX7_flow : MethodName := ⟨RX7, "flow", "(I)I"⟩
abbrev cX7_until : ByteArray := prog_9_method_47_code
def yX7_until : MethodName := ⟨RX7, "until", "(II)I"⟩
abbrev cX7_resistance : ByteArray := prog_9_method_48_code
def yX7_resistance : MethodName := ⟨RX7, "resistance", "(II)J"⟩
abbrev cX7_resists : ByteArray := prog_9_method_49_code
def yX7_resists : MethodName := ⟨RX7, "resists", "(I)I"⟩
abbrev cX7_swapped : ByteArray := prog_9_method_50_code
def yX7_swapped : MethodName := ⟨RX7, "swapped", "(III)I"⟩
abbrev cX7_gain : ByteArray := prog_9_method_51_code
def yX7_gain : MethodName := ⟨RX7, "gain", "(I)I"⟩
abbrev cX7_isPage : ByteArray := prog_9_method_52_code
def yX7_isPage : MethodName := ⟨RX7, "isPage", "(I)Z"⟩
abbrev cX7_isKey : ByteArray := prog_9_method_53_code
def yX7_isKey : MethodName := ⟨RX7, "isKey", "(II)Z"⟩
abbrev cX7_placeOf : ByteArray := prog_9_method_54_code
def yX7_placeOf : MethodName := ⟨RX7, "placeOf", "(III)I"⟩
abbrev cX7_page : ByteArray := prog_9_method_55_code
def yX7_page : MethodName := ⟨RX7, "page", "(I)I"⟩
abbrev cX7_put : ByteArray := prog_9_method_56_code
def yX7_put : MethodName := ⟨RX7, "put", "(IIII)I"⟩
abbrev cX7_get : ByteArray := prog_9_method_57_code
def yX7_get : MethodName := ⟨RX7, "get", "(III)I"⟩
abbrev cX7_strike : ByteArray := prog_9_method_58_code
def yX7_strike : MethodName := ⟨RX7, "strike", "(III)I"⟩
abbrev cX7_common : ByteArray := prog_9_method_59_code
def yX7_common : MethodName := ⟨RX7, "common", "(II)I"⟩
abbrev cX7_sum : ByteArray := prog_9_method_60_code
def yX7_sum : MethodName := ⟨RX7, "sum", "(II)I"⟩
abbrev cX7_drop : ByteArray := prog_9_method_61_code
def yX7_drop : MethodName := ⟨RX7, "drop", "(I)I"⟩
abbrev cX7_extreme : ByteArray := prog_9_method_62_code
def yX7_extreme : MethodName := ⟨RX7, "extreme", "(Z)I"⟩
abbrev cX7_alike : ByteArray := prog_9_method_63_code
def yX7_alike : MethodName := ⟨RX7, "alike", "()I"⟩
abbrev cX7_allKeys : ByteArray := prog_9_method_64_code
def yX7_allKeys : MethodName := ⟨RX7, "allKeys", "()I"⟩
abbrev cX7_count : ByteArray := prog_9_method_65_code
def yX7_count : MethodName := ⟨RX7, "count", "(I)I"⟩
def RJ6 : String := "java/lang/Integer"
def TJ6 : u_T := fun k => match k with
  | _ => ("", "", "", false)
def tyJ6 : Nat → FieldType := fun k => match k with
  | _ => .int
abbrev wsJ60 : List Cond := u_ws RJ6 TJ6 0
theorem nmJ6 : ∀ a, a < 0 → ∀ b, b < 0 → a ≠ b → (TJ6 a).2.1 ≠ (TJ6 b).2.1 := by decide +kernel
theorem tyJ6_ok : ∀ k, k < 0 → parseFieldDescriptor (TJ6 k).2.2.1 = some (tyJ6 k) := by decide +kernel
abbrev cJ6_compare_7cf53 : ByteArray := prog_10_method_40_code
def yJ6_compare_7cf53 : MethodName := ⟨RJ6, "compare", "(II)I"⟩
def RJ9 : String := "java/lang/Math"
def TJ9 : u_T := fun k => match k with
  | _ => ("", "", "", false)
def tyJ9 : Nat → FieldType := fun k => match k with
  | _ => .int
abbrev wsJ90 : List Cond := u_ws RJ9 TJ9 0
theorem nmJ9 : ∀ a, a < 0 → ∀ b, b < 0 → a ≠ b → (TJ9 a).2.1 ≠ (TJ9 b).2.1 := by decide +kernel
theorem tyJ9_ok : ∀ k, k < 0 → parseFieldDescriptor (TJ9 k).2.2.1 = some (tyJ9 k) := by decide +kernel
abbrev cJ9_abs_067f4 : ByteArray := prog_11_method_61_code
def yJ9_abs_067f4 : MethodName := ⟨RJ9, "abs", "(J)J"⟩
abbrev cJ9_max_f86c9 : ByteArray := prog_11_method_66_code
def yJ9_max_f86c9 : MethodName := ⟨RJ9, "max", "(JJ)J"⟩
abbrev cJ9_min_7cf53 : ByteArray := prog_11_method_69_code
def yJ9_min_7cf53 : MethodName := ⟨RJ9, "min", "(II)I"⟩
def RJ0 : String := "java/lang/String"
def TJ0 : u_T := fun k => match k with
  | _ => ("", "", "", false)
def tyJ0 : Nat → FieldType := fun k => match k with
  | _ => .int
abbrev wsJ00 : List Cond := u_ws RJ0 TJ0 0
theorem nmJ0 : ∀ a, a < 0 → ∀ b, b < 0 → a ≠ b → (TJ0 a).2.1 ≠ (TJ0 b).2.1 := by decide +kernel
theorem tyJ0_ok : ∀ k, k < 0 → parseFieldDescriptor (TJ0 k).2.2.1 = some (tyJ0 k) := by decide +kernel
abbrev cJ0_length_8abf5 : ByteArray := prog_12_method_54_code
def yJ0_length_8abf5 : MethodName := ⟨RJ0, "length", "()I"⟩
abbrev cJ0_charAt_5068e : ByteArray := prog_12_method_56_code
def yJ0_charAt_5068e : MethodName := ⟨RJ0, "charAt", "(I)C"⟩
abbrev cJ0_coder_7d493 : ByteArray := prog_12_method_152_code
def yJ0_coder_7d493 : MethodName := ⟨RJ0, "coder", "()B"⟩
abbrev cJ0_isLatin1_aae02 : ByteArray := prog_12_method_154_code
def yJ0_isLatin1_aae02 : MethodName := ⟨RJ0, "isLatin1", "()Z"⟩
abbrev cJ0_checkIndex_df160 : ByteArray := prog_12_method_155_code
def yJ0_checkIndex_df160 : MethodName := ⟨RJ0, "checkIndex", "(II)V"⟩
def RJ1 : String := "java/lang/StringLatin1"
def TJ1 : u_T := fun k => match k with
  | _ => ("", "", "", false)
def tyJ1 : Nat → FieldType := fun k => match k with
  | _ => .int
abbrev wsJ10 : List Cond := u_ws RJ1 TJ1 0
theorem nmJ1 : ∀ a, a < 0 → ∀ b, b < 0 → a ≠ b → (TJ1 a).2.1 ≠ (TJ1 b).2.1 := by decide +kernel
theorem tyJ1_ok : ∀ k, k < 0 → parseFieldDescriptor (TJ1 k).2.2.1 = some (tyJ1 k) := by decide +kernel
abbrev cJ1_charAt_3b067 : ByteArray := prog_13_method_2_code
def yJ1_charAt_3b067 : MethodName := ⟨RJ1, "charAt", "([BI)C"⟩
def RJ2 : String := "java/lang/StringUTF16"
def TJ2 : u_T := fun k => match k with
  | _ => ("", "", "", false)
def tyJ2 : Nat → FieldType := fun k => match k with
  | _ => .int
abbrev wsJ20 : List Cond := u_ws RJ2 TJ2 0
theorem nmJ2 : ∀ a, a < 0 → ∀ b, b < 0 → a ≠ b → (TJ2 a).2.1 ≠ (TJ2 b).2.1 := by decide +kernel
theorem tyJ2_ok : ∀ k, k < 0 → parseFieldDescriptor (TJ2 k).2.2.1 = some (tyJ2 k) := by decide +kernel
abbrev cJ2_getChar_3b067 : ByteArray := prog_14_method_5_code
def yJ2_getChar_3b067 : MethodName := ⟨RJ2, "getChar", "([BI)C"⟩
abbrev cJ2_length_9d52b : ByteArray := prog_14_method_6_code
def yJ2_length_9d52b : MethodName := ⟨RJ2, "length", "([B)I"⟩
abbrev cJ2_charAt_3b067 : ByteArray := prog_14_method_83_code
def yJ2_charAt_3b067 : MethodName := ⟨RJ2, "charAt", "([BI)C"⟩
abbrev cJ2_checkIndex_2214a : ByteArray := prog_14_method_91_code
def yJ2_checkIndex_2214a : MethodName := ⟨RJ2, "checkIndex", "(I[B)V"⟩
def RJ3 : String := "jdk/internal/util/Preconditions"
def TJ3 : u_T := fun k => match k with
  | _ => ("", "", "", false)
def tyJ3 : Nat → FieldType := fun k => match k with
  | _ => .int
abbrev wsJ30 : List Cond := u_ws RJ3 TJ3 0
theorem nmJ3 : ∀ a, a < 0 → ∀ b, b < 0 → a ≠ b → (TJ3 a).2.1 ≠ (TJ3 b).2.1 := by decide +kernel
theorem tyJ3_ok : ∀ k, k < 0 → parseFieldDescriptor (TJ3 k).2.2.1 = some (tyJ3 k) := by decide +kernel
abbrev cJ3_checkIndex_8e157 : ByteArray := prog_15_method_11_code
def yJ3_checkIndex_8e157 : MethodName := ⟨RJ3, "checkIndex", "(IILjava/util/function/BiFunction;)I"⟩
def RL : String := "WallHeatLaw"
abbrev cL_law : ByteArray := code
def yL_law : MethodName := ⟨RL, "law", "([I)Z"⟩
def wsL_law_r1 : List Cond := [Cond.classLink RL 7 RX6, Cond.instantiable RX6 5, Cond.initialized RX6, Cond.classLink RL 10 RX7, Cond.instantiable RX7 27, Cond.initialized RX7, Cond.methodLink RL 9 yX6_init, Cond.instanceMethod yX6_init, Cond.code yX6_init cX6_init 2 none, Cond.methodLink RX6 1 objectInit, Cond.instanceMethod objectInit, Cond.code objectInit ⟨#[0xb1]⟩ 1 none, Cond.classLink RX6 7 RX2, Cond.instantiable RX2 3, Cond.initialized RX2, Cond.fieldLink RX6 10 "WallHeat" "reader" "LWallHeat$Reader;", Cond.classLink RX6 16 RX4, Cond.instantiable RX4 9, Cond.initialized RX4, Cond.fieldLink RX6 19 "WallHeat" "standing" "LWallHeat$Wall;", Cond.classLink RX6 23 RX5, Cond.instantiable RX5 7, Cond.initialized RX5, Cond.fieldLink RX6 26 "WallHeat" "ahead" "LWallHeat$Warmth;"]
def wsL_law_r2 : List Cond := [Cond.classLink RX6 30 RX1, Cond.instantiable RX1 5, Cond.initialized RX1, Cond.fieldLink RX6 33 "WallHeat" "past" "LWallHeat$Past;", Cond.classLink RX6 37 RX0, Cond.fieldLink RX6 39 "WallHeat" "pages" "[LWallHeat$Book;", Cond.instantiable RX0 5, Cond.initialized RX0, Cond.instanceMethod yX2_init, Cond.code yX2_init cX2_init 1 none, Cond.methodLink RX2 3 objectInit, Cond.classLink RX2 9 RX3, Cond.instantiable RX3 5, Cond.initialized RX3, Cond.fieldLink RX2 12 "WallHeat$Reader" "text" "LWallHeat$Text;", Cond.classLink RX2 18 RX4, Cond.fieldLink RX2 21 "WallHeat$Reader" "drawn" "LWallHeat$Wall;", Cond.instanceMethod yX3_init, Cond.code yX3_init cX3_init 1 none, Cond.methodLink RX3 3 objectInit, Cond.arrayClass .int, Cond.fieldLink RX3 9 "WallHeat$Text" "letters" "[I", Cond.instanceMethod yX4_init, Cond.code yX4_init cX4_init 1 none]
def wsL_law_r3 : List Cond := [Cond.methodLink RX4 3 objectInit, Cond.fieldLink RX4 9 "WallHeat$Wall" "words" "[I", Cond.fieldLink RX4 15 "WallHeat$Wall" "lengths" "[I", Cond.fieldLink RX4 18 "WallHeat$Wall" "passes" "[I", Cond.fieldLink RX4 21 "WallHeat$Wall" "holds" "[I", Cond.fieldLink RX4 24 "WallHeat$Wall" "stuffOf" "[I", Cond.classLink RX4 27 RX5, Cond.fieldLink RX4 30 "WallHeat$Wall" "now" "LWallHeat$Warmth;", Cond.fieldLink RX4 34 "WallHeat$Wall" "flows" "[I", Cond.instanceMethod yX5_init, Cond.code yX5_init cX5_init 1 none, Cond.methodLink RX5 3 objectInit, Cond.fieldLink RX5 9 "WallHeat$Warmth" "heats" "[I", Cond.fieldLink RX5 15 "WallHeat$Warmth" "pace" "I", Cond.methodLink RX6 32 yX1_init, Cond.instanceMethod yX1_init, Cond.code yX1_init cX1_init 2 none, Cond.methodLink RX1 3 objectInit, Cond.classLink RX1 9 RX5, Cond.fieldLink RX1 11 "WallHeat$Past" "ring" "[LWallHeat$Warmth;", Cond.fieldLink RX1 17 "WallHeat$Past" "stored" "[LWallHeat$Warmth;", Cond.fieldLink RX1 20 "WallHeat$Past" "marks" "[I", Cond.instanceMethod yX0_init, Cond.code yX0_init cX0_init 1 none]
def wsL_law_r4 : List Cond := [Cond.methodLink RX0 3 objectInit, Cond.fieldLink RX0 9 "WallHeat$Book" "letters" "[I", Cond.fieldLink RX0 15 "WallHeat$Book" "numbers" "[I", Cond.fieldLink RX0 18 "WallHeat$Book" "values" "[I", Cond.methodLink RL 12 yX7_init, Cond.instanceMethod yX7_init, Cond.code yX7_init cX7_init 1 none, Cond.methodLink RX7 1 objectInit, Cond.fieldLink RX7 7 "WallHeatModel" "row" "[I", Cond.fieldLink RX7 13 "WallHeatModel" "passes" "[I", Cond.fieldLink RX7 16 "WallHeatModel" "holds" "[I", Cond.fieldLink RX7 19 "WallHeatModel" "names" "[I", Cond.fieldLink RX7 22 "WallHeatModel" "sizes" "[I", Cond.fieldLink RX7 25 "WallHeatModel" "of" "[I", Cond.arrayClass .boolean, Cond.fieldLink RX7 28 "WallHeatModel" "isKept" "[Z", Cond.fieldLink RX7 32 "WallHeatModel" "text" "[I", Cond.fieldLink RX7 35 "WallHeatModel" "many" "[I", Cond.fieldLink RX7 38 "WallHeatModel" "letters" "[I", Cond.fieldLink RX7 41 "WallHeatModel" "numbersOf" "[I", Cond.fieldLink RX7 44 "WallHeatModel" "values" "[I", Cond.fieldLink RX7 47 "WallHeatModel" "readNames" "[I", Cond.fieldLink RX7 50 "WallHeatModel" "readSizes" "[I", Cond.fieldLink RX7 53 "WallHeatModel" "numbers" "[I"]
def wsL_law_r5 : List Cond := [Cond.fieldLink RX7 56 "WallHeatModel" "words" "[I", Cond.fieldLink RX7 59 "WallHeatModel" "flows" "[I", Cond.methodLink RL 13 yX6_write, Cond.instanceMethod yX6_write, Cond.selects RX6 yX6_write yX6_write, Cond.code yX6_write cX6_write 2 (some .int), Cond.constant RX6 44 (-2000000002), Cond.fieldLink RX6 45 "WallHeat$Reader" "text" "LWallHeat$Text;", Cond.fieldLink RX6 49 "WallHeat$Text" "many" "I", Cond.constant RX6 55 (-2000000004), Cond.methodLink RX6 56 yX3_add, Cond.instanceMethod yX3_add, Cond.selects RX3 yX3_add yX3_add, Cond.code yX3_add cX3_add 2 none, Cond.fieldLink RX3 15 "WallHeat$Text" "many" "I", Cond.static yX6_set, Cond.code yX6_set cX6_set 3 none, Cond.methodLink RL 17 yX7_write, Cond.instanceMethod yX7_write, Cond.selects RX7 yX7_write yX7_write, Cond.code yX7_write cX7_write 2 (some .int), Cond.constantLong RX7 62 (255), Cond.constant RX7 68 (-2000000002), Cond.fieldLink RX7 69 "WallHeatModel" "length" "I"]
def wsL_law_r6 : List Cond := [Cond.constant RX7 73 (-2000000004), Cond.methodLink RX7 64 yX7_in, Cond.static yX7_in, Cond.code yX7_in cX7_in 6 (some .boolean), Cond.methodLink RL 18 yX6_erase, Cond.instanceMethod yX6_erase, Cond.selects RX6 yX6_erase yX6_erase, Cond.code yX6_erase cX6_erase 2 (some .int), Cond.methodLink RL 22 yX7_erase, Cond.instanceMethod yX7_erase, Cond.selects RX7 yX7_erase yX7_erase, Cond.code yX7_erase cX7_erase 2 (some .int), Cond.methodLink RL 23 yX6_fault, Cond.instanceMethod yX6_fault, Cond.selects RX6 yX6_fault yX6_fault, Cond.code yX6_fault cX6_fault 1 (some .int), Cond.methodLink RX6 60 yX2_firstFault, Cond.instanceMethod yX2_firstFault, Cond.selects RX2 yX2_firstFault yX2_firstFault, Cond.code yX2_firstFault cX2_firstFault 2 (some .int), Cond.fieldLink RX2 33 "WallHeat$Reader" "clauses" "I", Cond.fieldLink RX2 41 "WallHeat$Text" "from" "I", Cond.fieldLink RX2 44 "WallHeat$Text" "kind" "I", Cond.fieldLink RX2 50 "WallHeat$Text" "behind" "I"]
def wsL_law_r7 : List Cond := [Cond.methodLink RX2 25 yX4_become, Cond.instanceMethod yX4_become, Cond.selects RX4 yX4_become yX4_become, Cond.code yX4_become cX4_become 2 none, Cond.fieldLink RX4 37 "WallHeat$Wall" "stuffs" "I", Cond.fieldLink RX4 45 "WallHeat$Wall" "cells" "I", Cond.static yX6_copyRow, Cond.code yX6_copyRow cX6_copyRow 3 none, Cond.methodLink RX6 98 yX6_at, Cond.static yX6_at, Cond.code yX6_at cX6_at 2 (some .int), Cond.methodLink RX4 48 yX5_become, Cond.instanceMethod yX5_become, Cond.selects RX5 yX5_become yX5_become, Cond.code yX5_become cX5_become 2 none, Cond.fieldLink RX5 23 "WallHeat$Warmth" "left" "I", Cond.fieldLink RX5 26 "WallHeat$Warmth" "right" "I", Cond.fieldLink RX5 29 "WallHeat$Warmth" "in" "I", Cond.fieldLink RX5 32 "WallHeat$Warmth" "out" "I", Cond.fieldLink RX5 35 "WallHeat$Warmth" "steps" "I", Cond.methodLink RX2 29 yX3_lookFrom, Cond.instanceMethod yX3_lookFrom, Cond.selects RX3 yX3_lookFrom yX3_lookFrom, Cond.code yX3_lookFrom cX3_lookFrom 2 none]
def wsL_law_r8 : List Cond := [Cond.fieldLink RX3 23 "WallHeat$Text" "from" "I", Cond.fieldLink RX3 30 "WallHeat$Text" "behind" "I", Cond.fieldLink RX3 33 "WallHeat$Text" "kind" "I", Cond.methodLink RX3 36 yX3_kindOf, Cond.static yX3_kindOf, Cond.code yX3_kindOf cX3_kindOf 1 (some .int), Cond.methodLink RX2 37 yX2_readClause, Cond.instanceMethod yX2_readClause, Cond.selects RX2 yX2_readClause yX2_readClause, Cond.code yX2_readClause cX2_readClause 1 (some .boolean), Cond.fieldLink RX2 62 "WallHeat$Wall" "stuffs" "I", Cond.methodLink RX2 55 yX2_takeWord, Cond.instanceMethod yX2_takeWord, Cond.selects RX2 yX2_takeWord yX2_takeWord, Cond.code yX2_takeWord cX2_takeWord 2 (some .boolean), Cond.methodLink RX2 139 yX3_isToken, Cond.instanceMethod yX3_isToken, Cond.selects RX3 yX3_isToken yX3_isToken, Cond.code yX3_isToken cX3_isToken 3 (some .boolean), Cond.methodLink RX3 40 yX3_tokenLength, Cond.instanceMethod yX3_tokenLength, Cond.selects RX3 yX3_tokenLength yX3_tokenLength, Cond.code yX3_tokenLength cX3_tokenLength 1 (some .int), Cond.methodLink RX3 44 yJ0_length_8abf5]
def wsL_law_r9 : List Cond := [Cond.instanceMethod yJ0_length_8abf5, Cond.selects RJ0 yJ0_length_8abf5 yJ0_length_8abf5, Cond.initialized RJ0, Cond.code yJ0_length_8abf5 cJ0_length_8abf5 1 (some .int), Cond.fieldLink RJ0 9 "java/lang/String" "value" "[B", Cond.methodLink RJ0 335 yJ0_coder_7d493, Cond.instanceMethod yJ0_coder_7d493, Cond.selects RJ0 yJ0_coder_7d493 yJ0_coder_7d493, Cond.code yJ0_coder_7d493 cJ0_coder_7d493 1 (some .byte), Cond.fieldLink RJ0 38 "java/lang/String" "COMPACT_STRINGS" "Z", Cond.fieldLink RJ0 15 "java/lang/String" "coder" "B", Cond.methodLink RX3 49 yJ0_charAt_5068e, Cond.instanceMethod yJ0_charAt_5068e, Cond.selects RJ0 yJ0_charAt_5068e yJ0_charAt_5068e, Cond.code yJ0_charAt_5068e cJ0_charAt_5068e 2 (some .char), Cond.methodLink RJ0 492 yJ0_isLatin1_aae02, Cond.instanceMethod yJ0_isLatin1_aae02, Cond.selects RJ0 yJ0_isLatin1_aae02 yJ0_isLatin1_aae02, Cond.code yJ0_isLatin1_aae02 cJ0_isLatin1_aae02 1 (some .boolean), Cond.methodLink RJ0 495 yJ1_charAt_3b067, Cond.static yJ1_charAt_3b067, Cond.initialized RJ1, Cond.code yJ1_charAt_3b067 cJ1_charAt_3b067 2 (some .char), Cond.methodLink RJ1 9 yJ0_checkIndex_df160]
def wsL_law_r10 : List Cond := [Cond.static yJ0_checkIndex_df160, Cond.code yJ0_checkIndex_df160 cJ0_checkIndex_df160 2 none, Cond.fieldLink RJ0 1053 "jdk/internal/util/Preconditions" "SIOOBE_FORMATTER" "Ljava/util/function/BiFunction;", Cond.methodLink RJ0 1059 yJ3_checkIndex_8e157, Cond.static yJ3_checkIndex_8e157, Cond.initialized RJ3, Cond.code yJ3_checkIndex_8e157 cJ3_checkIndex_8e157 3 (some .int), Cond.methodLink RJ0 498 yJ2_charAt_3b067, Cond.static yJ2_charAt_3b067, Cond.initialized RJ2, Cond.code yJ2_charAt_3b067 cJ2_charAt_3b067 2 (some .char), Cond.methodLink RJ2 67 yJ2_checkIndex_2214a, Cond.static yJ2_checkIndex_2214a, Cond.code yJ2_checkIndex_2214a cJ2_checkIndex_2214a 2 none, Cond.methodLink RJ2 48 yJ2_length_9d52b, Cond.static yJ2_length_9d52b, Cond.code yJ2_length_9d52b cJ2_length_9d52b 1 (some .int), Cond.methodLink RJ2 414 yJ0_checkIndex_df160, Cond.methodLink RJ2 71 yJ2_getChar_3b067, Cond.static yJ2_getChar_3b067, Cond.code yJ2_getChar_3b067 cJ2_getChar_3b067 2 (some .char), Cond.fieldLink RJ2 44 "java/lang/StringUTF16" "$assertionsDisabled" "Z", Cond.fieldLink RJ2 59 "java/lang/StringUTF16" "HI_BYTE_SHIFT" "I", Cond.fieldLink RJ2 63 "java/lang/StringUTF16" "LO_BYTE_SHIFT" "I"]
def wsL_law_r11 : List Cond := [Cond.methodLink RX2 59 yX2_readWall, Cond.instanceMethod yX2_readWall, Cond.selects RX2 yX2_readWall yX2_readWall, Cond.code yX2_readWall cX2_readWall 2 (some .boolean), Cond.methodLink RX2 85 yX2_takeNumber, Cond.instanceMethod yX2_takeNumber, Cond.selects RX2 yX2_takeNumber yX2_takeNumber, Cond.code yX2_takeNumber cX2_takeNumber 4 (some .int), Cond.methodLink RX2 142 yX3_number, Cond.instanceMethod yX3_number, Cond.selects RX3 yX3_number yX3_number, Cond.code yX3_number cX3_number 3 (some .int), Cond.methodLink RX2 89 yX4_clear, Cond.instanceMethod yX4_clear, Cond.selects RX4 yX4_clear yX4_clear, Cond.code yX4_clear cX4_clear 2 none, Cond.fieldLink RX4 52 "WallHeat$Warmth" "left" "I", Cond.fieldLink RX4 55 "WallHeat$Warmth" "right" "I", Cond.fieldLink RX4 58 "WallHeat$Warmth" "pace" "I", Cond.methodLink RX2 67 yX2_readStuff, Cond.instanceMethod yX2_readStuff, Cond.selects RX2 yX2_readStuff yX2_readStuff, Cond.code yX2_readStuff cX2_readStuff 3 (some .boolean), Cond.methodLink RX2 92 yX3_tokenLength]
def wsL_law_r12 : List Cond := [Cond.methodLink RX2 96 yX4_stuffNamed, Cond.instanceMethod yX4_stuffNamed, Cond.selects RX4 yX4_stuffNamed yX4_stuffNamed, Cond.code yX4_stuffNamed cX4_stuffNamed 5 (some .int), Cond.methodLink RX4 84 yX4_isNamed, Cond.instanceMethod yX4_isNamed, Cond.selects RX4 yX4_isNamed yX4_isNamed, Cond.code yX4_isNamed cX4_isNamed 9 (some .boolean), Cond.fieldLink RX4 75 "WallHeat$Text" "letters" "[I", Cond.methodLink RX2 100 yX4_nameNext, Cond.instanceMethod yX4_nameNext, Cond.selects RX4 yX4_nameNext yX4_nameNext, Cond.code yX4_nameNext cX4_nameNext 3 none, Cond.fieldLink RX4 78 "WallHeat$Text" "from" "I", Cond.methodLink RX4 65 yX3_tokenLength, Cond.methodLink RX2 104 yX4_addStuff, Cond.instanceMethod yX4_addStuff, Cond.selects RX4 yX4_addStuff yX4_addStuff, Cond.code yX4_addStuff cX4_addStuff 3 none, Cond.methodLink RX2 72 yX2_readLayer, Cond.instanceMethod yX2_readLayer, Cond.selects RX2 yX2_readLayer yX2_readLayer, Cond.code yX2_readLayer cX2_readLayer 3 (some .boolean), Cond.fieldLink RX2 108 "WallHeat$Wall" "cells" "I"]
def wsL_law_r13 : List Cond := [Cond.methodLink RX2 111 Lib.Math.min.name, Cond.static Lib.Math.min.name, Cond.initialized "java/lang/Math", Cond.code Lib.Math.min.name Lib.Math.min.code 2 (some .int), Cond.methodLink RX2 116 yX4_addCells, Cond.instanceMethod yX4_addCells, Cond.selects RX4 yX4_addCells yX4_addCells, Cond.code yX4_addCells cX4_addCells 4 none, Cond.fieldLink RX4 81 "WallHeat$Warmth" "heats" "[I", Cond.methodLink RX2 77 yX2_readAir, Cond.instanceMethod yX2_readAir, Cond.selects RX2 yX2_readAir yX2_readAir, Cond.code yX2_readAir cX2_readAir 3 (some .boolean), Cond.fieldLink RX2 119 "WallHeat$Wall" "now" "LWallHeat$Warmth;", Cond.fieldLink RX2 123 "WallHeat$Warmth" "left" "I", Cond.fieldLink RX2 128 "WallHeat$Warmth" "right" "I", Cond.methodLink RX2 82 yX2_readHeat, Cond.instanceMethod yX2_readHeat, Cond.selects RX2 yX2_readHeat yX2_readHeat, Cond.code yX2_readHeat cX2_readHeat 3 (some .boolean), Cond.fieldLink RX2 131 "WallHeat$Warmth" "heats" "[I", Cond.methodLink RX2 47 yX3_isSemicolon, Cond.instanceMethod yX3_isSemicolon, Cond.selects RX3 yX3_isSemicolon yX3_isSemicolon]
def wsL_law_r14 : List Cond := [Cond.code yX3_isSemicolon cX3_isSemicolon 1 (some .boolean), Cond.methodLink RL 26 yX7_fault, Cond.instanceMethod yX7_fault, Cond.selects RX7 yX7_fault yX7_fault, Cond.code yX7_fault cX7_fault 1 (some .int), Cond.fieldLink RX7 85 "WallHeatModel" "first" "I", Cond.methodLink RX7 152 yX7_reads, Cond.instanceMethod yX7_reads, Cond.selects RX7 yX7_reads yX7_reads, Cond.code yX7_reads cX7_reads 3 (some .boolean), Cond.fieldLink RX7 135 "WallHeatModel" "doing" "Z", Cond.fieldLink RX7 82 "WallHeatModel" "behind" "I", Cond.fieldLink RX7 143 "WallHeatModel" "clauses" "I", Cond.methodLink RX7 146 yX7_layTold, Cond.instanceMethod yX7_layTold, Cond.selects RX7 yX7_layTold yX7_layTold, Cond.code yX7_layTold cX7_layTold 2 none, Cond.fieldLink RX7 123 "WallHeatModel" "stuffs" "I", Cond.fieldLink RX7 98 "WallHeatModel" "readStuffs" "I", Cond.fieldLink RX7 126 "WallHeatModel" "cells" "I", Cond.fieldLink RX7 116 "WallHeatModel" "readCells" "I", Cond.methodLink RX7 95 yX7_nextToken, Cond.instanceMethod yX7_nextToken, Cond.selects RX7 yX7_nextToken yX7_nextToken]
def wsL_law_r15 : List Cond := [Cond.code yX7_nextToken cX7_nextToken 1 none, Cond.methodLink RX7 88 yX7_isSmall, Cond.static yX7_isSmall, Cond.code yX7_isSmall cX7_isSmall 1 (some .boolean), Cond.constantLong RX7 74 (97), Cond.constantLong RX7 76 (122), Cond.methodLink RX7 92 yX7_isDigit, Cond.static yX7_isDigit, Cond.code yX7_isDigit cX7_isDigit 1 (some .boolean), Cond.constantLong RX7 78 (48), Cond.constantLong RX7 80 (57), Cond.methodLink RX7 149 yX7_readsClause, Cond.instanceMethod yX7_readsClause, Cond.selects RX7 yX7_readsClause yX7_readsClause, Cond.code yX7_readsClause cX7_readsClause 2 (some .boolean), Cond.methodLink RX7 129 yX7_wordHere, Cond.instanceMethod yX7_wordHere, Cond.selects RX7 yX7_wordHere yX7_wordHere, Cond.code yX7_wordHere cX7_wordHere 4 (some .int), Cond.methodLink RX7 132 yX7_readsRest, Cond.instanceMethod yX7_readsRest, Cond.selects RX7 yX7_readsRest yX7_readsRest, Cond.code yX7_readsRest cX7_readsRest 2 (some .boolean), Cond.methodLink RX7 105 yX7_number]
def wsL_law_r16 : List Cond := [Cond.instanceMethod yX7_number, Cond.selects RX7 yX7_number yX7_number, Cond.code yX7_number cX7_number 6 (some .boolean), Cond.methodLink RX7 109 yX7_readsNewWord, Cond.instanceMethod yX7_readsNewWord, Cond.selects RX7 yX7_readsNewWord yX7_readsNewWord, Cond.code yX7_readsNewWord cX7_readsNewWord 2 (some .boolean), Cond.methodLink RX7 101 yX7_stuffHere, Cond.instanceMethod yX7_stuffHere, Cond.selects RX7 yX7_stuffHere yX7_stuffHere, Cond.code yX7_stuffHere cX7_stuffHere 4 (some .int), Cond.methodLink RX7 113 yX7_readsTold, Cond.instanceMethod yX7_readsTold, Cond.selects RX7 yX7_readsTold yX7_readsTold, Cond.code yX7_readsTold cX7_readsTold 2 (some .boolean), Cond.methodLink RX7 119 yX7_lesser, Cond.static yX7_lesser, Cond.code yX7_lesser cX7_lesser 2 (some .int), Cond.methodLink RX7 139 yX7_does, Cond.instanceMethod yX7_does, Cond.selects RX7 yX7_does yX7_does, Cond.code yX7_does cX7_does 3 none, Cond.methodLink RL 27 yX6_wall, Cond.instanceMethod yX6_wall]
def wsL_law_r17 : List Cond := [Cond.selects RX6 yX6_wall yX6_wall, Cond.code yX6_wall cX6_wall 2 (some .int), Cond.constant RX6 64 (-2000000003), Cond.fieldLink RX6 65 "WallHeat$Reader" "drawn" "LWallHeat$Wall;", Cond.fieldLink RX6 72 "WallHeat$Wall" "now" "LWallHeat$Warmth;", Cond.fieldLink RX6 82 "WallHeat$Reader" "clauses" "I", Cond.methodLink RX6 68 yX4_become, Cond.methodLink RX6 75 yX5_forget, Cond.instanceMethod yX5_forget, Cond.selects RX5 yX5_forget yX5_forget, Cond.code yX5_forget cX5_forget 1 none, Cond.methodLink RX6 78 yX1_forget, Cond.instanceMethod yX1_forget, Cond.selects RX1 yX1_forget yX1_forget, Cond.code yX1_forget cX1_forget 2 none, Cond.fieldLink RX1 25 "WallHeat$Past" "undoable" "I", Cond.methodLink RX6 79 yX6_missPage, Cond.instanceMethod yX6_missPage, Cond.selects RX6 yX6_missPage yX6_missPage, Cond.code yX6_missPage cX6_missPage 3 none, Cond.fieldLink RX6 216 "WallHeat$Book" "there" "Z", Cond.fieldLink RX6 220 "WallHeat$Book" "keys" "I", Cond.methodLink RX6 212 yX6_bookAt, Cond.instanceMethod yX6_bookAt]
def wsL_law_r18 : List Cond := [Cond.selects RX6 yX6_bookAt yX6_bookAt, Cond.code yX6_bookAt cX6_bookAt 2 (some (.object "WallHeat$Book")), Cond.methodLink RL 30 yX7_wall, Cond.instanceMethod yX7_wall, Cond.selects RX7 yX7_wall yX7_wall, Cond.code yX7_wall cX7_wall 2 (some .int), Cond.constant RX7 156 (-2000000003), Cond.fieldLink RX7 157 "WallHeatModel" "undos" "I", Cond.methodLink RL 31 yX6_find, Cond.instanceMethod yX6_find, Cond.selects RX6 yX6_find yX6_find, Cond.code yX6_find cX6_find 1 (some .int), Cond.methodLink RX6 85 yX4_stuffNamed, Cond.methodLink RL 34 yX7_find, Cond.instanceMethod yX7_find, Cond.selects RX7 yX7_find yX7_find, Cond.code yX7_find cX7_find 5 (some .int), Cond.methodLink RL 35 yX6_stuff, Cond.instanceMethod yX6_stuff, Cond.selects RX6 yX6_stuff yX6_stuff, Cond.code yX6_stuff cX6_stuff 3 (some .int), Cond.constant RX6 93 (-2000000001), Cond.fieldLink RX6 94 "WallHeat$Wall" "passes" "[I", Cond.fieldLink RX6 102 "WallHeat$Wall" "holds" "[I"]
def wsL_law_r19 : List Cond := [Cond.fieldLink RX6 105 "WallHeat$Wall" "lengths" "[I", Cond.methodLink RX6 89 yX4_isStuff, Cond.instanceMethod yX4_isStuff, Cond.selects RX4 yX4_isStuff yX4_isStuff, Cond.code yX4_isStuff cX4_isStuff 2 (some .boolean), Cond.methodLink RX6 108 yX4_cellsOf, Cond.instanceMethod yX4_cellsOf, Cond.selects RX4 yX4_cellsOf yX4_cellsOf, Cond.code yX4_cellsOf cX4_cellsOf 4 (some .int), Cond.methodLink RL 39 yX7_stuff, Cond.instanceMethod yX7_stuff, Cond.selects RX7 yX7_stuff yX7_stuff, Cond.code yX7_stuff cX7_stuff 3 (some .int), Cond.constant RX7 167 (-2000000001), Cond.methodLink RX7 164 yX7_isStuff, Cond.instanceMethod yX7_isStuff, Cond.selects RX7 yX7_isStuff yX7_isStuff, Cond.code yX7_isStuff cX7_isStuff 2 (some .boolean), Cond.methodLink RX7 168 yX7_cellsOf, Cond.instanceMethod yX7_cellsOf, Cond.selects RX7 yX7_cellsOf yX7_cellsOf, Cond.code yX7_cellsOf cX7_cellsOf 4 (some .int), Cond.methodLink RL 40 yX6_cell, Cond.instanceMethod yX6_cell]
def wsL_law_r20 : List Cond := [Cond.selects RX6 yX6_cell yX6_cell, Cond.code yX6_cell cX6_cell 4 (some .int), Cond.fieldLink RX6 115 "WallHeat$Warmth" "heats" "[I", Cond.fieldLink RX6 118 "WallHeat$Wall" "stuffOf" "[I", Cond.methodLink RX6 112 yX4_isCell, Cond.instanceMethod yX4_isCell, Cond.selects RX4 yX4_isCell yX4_isCell, Cond.code yX4_isCell cX4_isCell 2 (some .boolean), Cond.methodLink RX6 121 yX4_holdsAt, Cond.instanceMethod yX4_holdsAt, Cond.selects RX4 yX4_holdsAt yX4_holdsAt, Cond.code yX4_holdsAt cX4_holdsAt 2 (some .int), Cond.methodLink RX6 124 yX6_lowest, Cond.static yX6_lowest, Cond.code yX6_lowest cX6_lowest 5 (some .long), Cond.methodLink RX6 275 Lib.MathLoose.abs_long.x, Cond.static Lib.MathLoose.abs_long.x, Cond.code Lib.MathLoose.abs_long.x Lib.MathLoose.abs_long.code 2 (some .long), Cond.methodLink RX6 281 yX6_commonDivisor, Cond.static yX6_commonDivisor, Cond.code yX6_commonDivisor cX6_commonDivisor 11 (some .long), Cond.methodLink RX6 285 yX6_cut, Cond.static yX6_cut, Cond.code yX6_cut cX6_cut 4 (some .long)]
def wsL_law_r21 : List Cond := [Cond.methodLink RL 43 yX7_cell, Cond.instanceMethod yX7_cell, Cond.selects RX7 yX7_cell yX7_cell, Cond.code yX7_cell cX7_cell 3 (some .int), Cond.methodLink RX7 172 yX7_isCell, Cond.instanceMethod yX7_isCell, Cond.selects RX7 yX7_isCell yX7_isCell, Cond.code yX7_isCell cX7_isCell 2 (some .boolean), Cond.methodLink RX7 175 yX7_holdsOf, Cond.instanceMethod yX7_holdsOf, Cond.selects RX7 yX7_holdsOf yX7_holdsOf, Cond.code yX7_holdsOf cX7_holdsOf 2 (some .int), Cond.methodLink RX7 178 yX7_told, Cond.static yX7_told, Cond.code yX7_told cX7_told 7 (some .long), Cond.methodLink RX7 160 yX7_divisor, Cond.static yX7_divisor, Cond.code yX7_divisor cX7_divisor 10 (some .long), Cond.methodLink RL 44 yX6_rest, Cond.instanceMethod yX6_rest, Cond.selects RX6 yX6_rest yX6_rest, Cond.code yX6_rest cX6_rest 9 (some .long), Cond.constantLong RX6 128 (-2000000001), Cond.constantLong RX6 133 (-2000000002)]
def wsL_law_r22 : List Cond := [Cond.fieldLink RX6 143 "WallHeat$Warmth" "right" "I", Cond.fieldLink RX6 146 "WallHeat$Warmth" "left" "I", Cond.methodLink RX6 130 yX6_isPart, Cond.static yX6_isPart, Cond.code yX6_isPart cX6_isPart 1 (some .boolean), Cond.methodLink RX6 135 yX4_resistsRightOf, Cond.instanceMethod yX4_resistsRightOf, Cond.selects RX4 yX4_resistsRightOf yX4_resistsRightOf, Cond.code yX4_resistsRightOf cX4_resistsRightOf 5 (some .long), Cond.constantLong RX4 133 (2), Cond.methodLink RX4 135 yX4_passesAt, Cond.instanceMethod yX4_passesAt, Cond.selects RX4 yX4_passesAt yX4_passesAt, Cond.code yX4_passesAt cX4_passesAt 2 (some .int), Cond.static yX6_halfResists, Cond.code yX6_halfResists cX6_halfResists 1 (some .long), Cond.constantLong RX6 288 (232792560), Cond.methodLink RX6 139 yX4_resistsInAll, Cond.instanceMethod yX4_resistsInAll, Cond.selects RX4 yX4_resistsInAll yX4_resistsInAll, Cond.code yX4_resistsInAll cX4_resistsInAll 4 (some .long), Cond.methodLink RL 48 yX7_rest, Cond.instanceMethod yX7_rest, Cond.selects RX7 yX7_rest yX7_rest]
def wsL_law_r23 : List Cond := [Cond.code yX7_rest cX7_rest 10 (some .long), Cond.constantLong RX7 182 (-2000000001), Cond.constantLong RX7 184 (-2000000002), Cond.constantLong RX7 186 (465585120), Cond.constantLong RX7 191 (2), Cond.methodLink RX7 188 yX7_passesOf, Cond.instanceMethod yX7_passesOf, Cond.selects RX7 yX7_passesOf yX7_passesOf, Cond.code yX7_passesOf cX7_passesOf 2 (some .int), Cond.methodLink RL 49 yX6_step, Cond.instanceMethod yX6_step, Cond.selects RX6 yX6_step yX6_step, Cond.code yX6_step cX6_step 3 (some .int), Cond.fieldLink RX6 149 "WallHeat$Wall" "cells" "I", Cond.methodLink RX6 152 yX1_remember, Cond.instanceMethod yX1_remember, Cond.selects RX1 yX1_remember yX1_remember, Cond.code yX1_remember cX1_remember 3 none, Cond.fieldLink RX1 33 "WallHeat$Past" "top" "I", Cond.methodLink RX1 44 Lib.Math.min.name, Cond.methodLink RX1 36 yX1_slot, Cond.static yX1_slot, Cond.code yX1_slot cX1_slot 2 (some (.object "WallHeat$Warmth")), Cond.methodLink RX1 40 yX5_become]
def wsL_law_r24 : List Cond := [Cond.methodLink RX6 156 yX4_advance, Cond.instanceMethod yX4_advance, Cond.selects RX4 yX4_advance yX4_advance, Cond.code yX4_advance cX4_advance 3 (some .boolean), Cond.fieldLink RX4 99 "WallHeat$Warmth" "in" "I", Cond.fieldLink RX4 102 "WallHeat$Warmth" "out" "I", Cond.fieldLink RX4 105 "WallHeat$Warmth" "steps" "I", Cond.methodLink RX4 88 yX4_flowAt, Cond.instanceMethod yX4_flowAt, Cond.selects RX4 yX4_flowAt yX4_flowAt, Cond.code yX4_flowAt cX4_flowAt 9 (some .int), Cond.methodLink RX4 108 yX4_degreesBelow, Cond.instanceMethod yX4_degreesBelow, Cond.selects RX4 yX4_degreesBelow yX4_degreesBelow, Cond.code yX4_degreesBelow cX4_degreesBelow 2 (some .long), Cond.methodLink RX4 126 yX4_isCell, Cond.methodLink RX4 129 yX4_holdsAt, Cond.methodLink RX4 112 yX4_degreesAbove, Cond.instanceMethod yX4_degreesAbove, Cond.selects RX4 yX4_degreesAbove yX4_degreesAbove, Cond.code yX4_degreesAbove cX4_degreesAbove 3 (some .long), Cond.methodLink RX4 116 yX4_betweenAbove, Cond.instanceMethod yX4_betweenAbove, Cond.selects RX4 yX4_betweenAbove yX4_betweenAbove]
def wsL_law_r25 : List Cond := [Cond.code yX4_betweenAbove cX4_betweenAbove 2 (some .long), Cond.methodLink RX4 119 yX4_betweenBelow, Cond.instanceMethod yX4_betweenBelow, Cond.selects RX4 yX4_betweenBelow yX4_betweenBelow, Cond.code yX4_betweenBelow cX4_betweenBelow 2 (some .long), Cond.methodLink RX4 92 yX4_heatBehind, Cond.instanceMethod yX4_heatBehind, Cond.selects RX4 yX4_heatBehind yX4_heatBehind, Cond.code yX4_heatBehind cX4_heatBehind 3 (some .int), Cond.static yX6_isHeat, Cond.code yX6_isHeat cX6_isHeat 1 (some .boolean), Cond.methodLink RL 52 yX7_step, Cond.instanceMethod yX7_step, Cond.selects RX7 yX7_step yX7_step, Cond.code yX7_step cX7_step 3 (some .int), Cond.constantLong RX7 205 (50), Cond.methodLink RX7 207 yX7_keepPast, Cond.instanceMethod yX7_keepPast, Cond.selects RX7 yX7_keepPast yX7_keepPast, Cond.code yX7_keepPast cX7_keepPast 2 none, Cond.methodLink RX7 201 yX7_copyRow, Cond.instanceMethod yX7_copyRow, Cond.selects RX7 yX7_copyRow yX7_copyRow, Cond.code yX7_copyRow cX7_copyRow 4 none]
def wsL_law_r26 : List Cond := [Cond.methodLink RX7 210 yX7_steps, Cond.instanceMethod yX7_steps, Cond.selects RX7 yX7_steps yX7_steps, Cond.code yX7_steps cX7_steps 4 (some .boolean), Cond.constantLong RX7 196 (20000), Cond.methodLink RX7 193 yX7_flowAt, Cond.instanceMethod yX7_flowAt, Cond.selects RX7 yX7_flowAt yX7_flowAt, Cond.code yX7_flowAt cX7_flowAt 8 (some .int), Cond.methodLink RL 53 yX6_heat, Cond.instanceMethod yX6_heat, Cond.selects RX6 yX6_heat yX6_heat, Cond.code yX6_heat cX6_heat 4 (some .int), Cond.methodLink RX6 160 yX6_isHeat, Cond.methodLink RX6 163 yX6_set, Cond.methodLink RL 56 yX7_heat, Cond.instanceMethod yX7_heat, Cond.selects RX7 yX7_heat yX7_heat, Cond.code yX7_heat cX7_heat 4 (some .int), Cond.constantLong RX7 213 (-9999), Cond.constantLong RX7 215 (9999), Cond.methodLink RL 57 yX6_air, Cond.instanceMethod yX6_air, Cond.selects RX6 yX6_air yX6_air]
def wsL_law_r27 : List Cond := [Cond.code yX6_air cX6_air 4 (some .int), Cond.methodLink RX6 167 yX6_isDegrees, Cond.static yX6_isDegrees, Cond.code yX6_isDegrees cX6_isDegrees 1 (some .boolean), Cond.methodLink RL 60 yX7_air, Cond.instanceMethod yX7_air, Cond.selects RX7 yX7_air yX7_air, Cond.code yX7_air cX7_air 4 (some .int), Cond.constantLong RX7 217 (999), Cond.methodLink RL 61 yX6_pace, Cond.instanceMethod yX6_pace, Cond.selects RX6 yX6_pace yX6_pace, Cond.code yX6_pace cX6_pace 2 (some .int), Cond.fieldLink RX6 170 "WallHeat$Warmth" "pace" "I", Cond.methodLink RX6 173 yX4_safe, Cond.instanceMethod yX4_safe, Cond.selects RX4 yX4_safe yX4_safe, Cond.code yX4_safe cX4_safe 8 (some .int), Cond.methodLink RX4 138 Lib.MathLoose.max_long.x, Cond.static Lib.MathLoose.max_long.x, Cond.code Lib.MathLoose.max_long.x Lib.MathLoose.max_long.code 4 (some .long), Cond.methodLink RL 64 yX7_pace, Cond.instanceMethod yX7_pace, Cond.selects RX7 yX7_pace yX7_pace]
def wsL_law_r28 : List Cond := [Cond.code yX7_pace cX7_pace 2 (some .int), Cond.methodLink RX7 219 yX7_safe, Cond.instanceMethod yX7_safe, Cond.selects RX7 yX7_safe yX7_safe, Cond.code yX7_safe cX7_safe 3 (some .int), Cond.methodLink RX7 198 yX7_safeFor, Cond.instanceMethod yX7_safeFor, Cond.selects RX7 yX7_safeFor yX7_safeFor, Cond.code yX7_safeFor cX7_safeFor 7 (some .int), Cond.methodLink RL 65 yX6_undo, Cond.instanceMethod yX6_undo, Cond.selects RX6 yX6_undo yX6_undo, Cond.code yX6_undo cX6_undo 1 (some .int), Cond.fieldLink RX6 177 "WallHeat$Past" "undoable" "I", Cond.methodLink RX6 180 yX1_takeBack, Cond.instanceMethod yX1_takeBack, Cond.selects RX1 yX1_takeBack yX1_takeBack, Cond.code yX1_takeBack cX1_takeBack 4 none, Cond.methodLink RL 68 yX7_undo, Cond.instanceMethod yX7_undo, Cond.selects RX7 yX7_undo yX7_undo, Cond.code yX7_undo cX7_undo 1 (some .int), Cond.methodLink RL 69 yX6_keep, Cond.instanceMethod yX6_keep]
def wsL_law_r29 : List Cond := [Cond.selects RX6 yX6_keep yX6_keep, Cond.code yX6_keep cX6_keep 2 (some .int), Cond.methodLink RX6 183 yX1_store, Cond.instanceMethod yX1_store, Cond.selects RX1 yX1_store yX1_store, Cond.code yX1_store cX1_store 4 none, Cond.methodLink RX6 187 yX5_allHeat, Cond.instanceMethod yX5_allHeat, Cond.selects RX5 yX5_allHeat yX5_allHeat, Cond.code yX5_allHeat cX5_allHeat 2 (some .int), Cond.static yX6_total, Cond.code yX6_total cX6_total 4 (some .int), Cond.methodLink RL 72 yX7_keep, Cond.instanceMethod yX7_keep, Cond.selects RX7 yX7_keep yX7_keep, Cond.code yX7_keep cX7_keep 2 (some .int), Cond.methodLink RX7 222 yX7_allHeat, Cond.instanceMethod yX7_allHeat, Cond.selects RX7 yX7_allHeat yX7_allHeat, Cond.code yX7_allHeat cX7_allHeat 3 (some .int), Cond.methodLink RL 73 yX6_back, Cond.instanceMethod yX6_back, Cond.selects RX6 yX6_back yX6_back, Cond.code yX6_back cX6_back 2 (some .int)]
def wsL_law_r30 : List Cond := [Cond.methodLink RX6 190 yX1_isStored, Cond.instanceMethod yX1_isStored, Cond.selects RX1 yX1_isStored yX1_isStored, Cond.code yX1_isStored cX1_isStored 2 (some .boolean), Cond.methodLink RX6 193 yX1_restore, Cond.instanceMethod yX1_restore, Cond.selects RX1 yX1_restore yX1_restore, Cond.code yX1_restore cX1_restore 4 none, Cond.methodLink RL 76 yX7_back, Cond.instanceMethod yX7_back, Cond.selects RX7 yX7_back yX7_back, Cond.code yX7_back cX7_back 2 (some .int), Cond.methodLink RL 77 yX6_flow, Cond.instanceMethod yX6_flow, Cond.selects RX6 yX6_flow yX6_flow, Cond.code yX6_flow cX6_flow 2 (some .int), Cond.methodLink RX6 196 yX4_flowAt, Cond.methodLink RL 80 yX7_flow, Cond.instanceMethod yX7_flow, Cond.selects RX7 yX7_flow yX7_flow, Cond.code yX7_flow cX7_flow 2 (some .int), Cond.methodLink RL 81 yX6_until, Cond.instanceMethod yX6_until, Cond.selects RX6 yX6_until yX6_until]
def wsL_law_r31 : List Cond := [Cond.code yX6_until cX6_until 5 (some .int), Cond.methodLink RX6 200 yX5_become, Cond.methodLink RL 84 yX7_until, Cond.instanceMethod yX7_until, Cond.selects RX7 yX7_until yX7_until, Cond.code yX7_until cX7_until 5 (some .int), Cond.methodLink RL 85 yX6_resists, Cond.instanceMethod yX6_resists, Cond.selects RX6 yX6_resists yX6_resists, Cond.code yX6_resists cX6_resists 2 (some .int), Cond.constantLong RX6 202 (465585120), Cond.methodLink RL 88 yX7_resists, Cond.instanceMethod yX7_resists, Cond.selects RX7 yX7_resists yX7_resists, Cond.code yX7_resists cX7_resists 2 (some .int), Cond.constantLong RX7 225 (232792560), Cond.methodLink RX7 227 yX7_resistance, Cond.instanceMethod yX7_resistance, Cond.selects RX7 yX7_resistance yX7_resistance, Cond.code yX7_resistance cX7_resistance 6 (some .long), Cond.methodLink RL 89 yX6_swapped, Cond.instanceMethod yX6_swapped, Cond.selects RX6 yX6_swapped yX6_swapped, Cond.code yX6_swapped cX6_swapped 8 (some .int)]
def wsL_law_r32 : List Cond := [Cond.constantLong RX6 204 (2), Cond.methodLink RX6 206 yX4_passesAt, Cond.methodLink RX6 209 yX6_halfResists, Cond.methodLink RL 93 yX7_swapped, Cond.instanceMethod yX7_swapped, Cond.selects RX7 yX7_swapped yX7_swapped, Cond.code yX7_swapped cX7_swapped 4 (some .int), Cond.methodLink RL 94 yX6_gain, Cond.instanceMethod yX6_gain, Cond.selects RX6 yX6_gain yX6_gain, Cond.code yX6_gain cX6_gain 2 (some .int), Cond.methodLink RL 97 yX7_gain, Cond.instanceMethod yX7_gain, Cond.selects RX7 yX7_gain yX7_gain, Cond.code yX7_gain cX7_gain 2 (some .int), Cond.methodLink RL 98 yX6_page, Cond.instanceMethod yX6_page, Cond.selects RX6 yX6_page yX6_page, Cond.code yX6_page cX6_page 3 (some .int), Cond.methodLink RL 101 yX7_page, Cond.instanceMethod yX7_page, Cond.selects RX7 yX7_page yX7_page, Cond.code yX7_page cX7_page 2 (some .int), Cond.methodLink RX7 237 yX7_isPage]
def wsL_law_r33 : List Cond := [Cond.static yX7_isPage, Cond.code yX7_isPage cX7_isPage 1 (some .boolean), Cond.methodLink RL 102 yX6_put, Cond.instanceMethod yX6_put, Cond.selects RX6 yX6_put yX6_put, Cond.code yX6_put cX6_put 8 (some .int), Cond.constant RX6 227 (-2000000011), Cond.constant RX6 232 (-2000000013), Cond.fieldLink RX6 237 "WallHeat$Book" "values" "[I", Cond.methodLink RX6 223 yX6_isKey, Cond.static yX6_isKey, Cond.code yX6_isKey cX6_isKey 2 (some .boolean), Cond.methodLink RX6 228 yX0_placeOf, Cond.instanceMethod yX0_placeOf, Cond.selects RX0 yX0_placeOf yX0_placeOf, Cond.code yX0_placeOf cX0_placeOf 4 (some .int), Cond.fieldLink RX0 21 "WallHeat$Book" "keys" "I", Cond.methodLink RX6 233 yX0_enter, Cond.instanceMethod yX0_enter, Cond.selects RX0 yX0_enter yX0_enter, Cond.code yX0_enter cX0_enter 4 (some .int), Cond.methodLink RL 106 yX7_put, Cond.instanceMethod yX7_put, Cond.selects RX7 yX7_put yX7_put]
def wsL_law_r34 : List Cond := [Cond.code yX7_put cX7_put 7 (some .int), Cond.constantLong RX7 244 (-999), Cond.constant RX7 246 (-2000000011), Cond.constant RX7 251 (-2000000013), Cond.methodLink RX7 240 yX7_isKey, Cond.static yX7_isKey, Cond.code yX7_isKey cX7_isKey 2 (some .boolean), Cond.constantLong RX7 231 (25), Cond.constantLong RX7 233 (-99), Cond.constantLong RX7 235 (99), Cond.methodLink RX7 247 yX7_placeOf, Cond.instanceMethod yX7_placeOf, Cond.selects RX7 yX7_placeOf yX7_placeOf, Cond.code yX7_placeOf cX7_placeOf 5 (some .int), Cond.methodLink RL 107 yX6_get, Cond.instanceMethod yX6_get, Cond.selects RX6 yX6_get yX6_get, Cond.code yX6_get cX6_get 6 (some .int), Cond.constant RX6 240 (-2000000012), Cond.methodLink RL 110 yX7_get, Cond.instanceMethod yX7_get, Cond.selects RX7 yX7_get yX7_get, Cond.code yX7_get cX7_get 5 (some .int), Cond.constant RX7 252 (-2000000012)]
def wsL_law_r35 : List Cond := [Cond.methodLink RL 111 yX6_strike, Cond.instanceMethod yX6_strike, Cond.selects RX6 yX6_strike yX6_strike, Cond.code yX6_strike cX6_strike 6 (some .int), Cond.methodLink RX6 241 yX0_remove, Cond.instanceMethod yX0_remove, Cond.selects RX0 yX0_remove yX0_remove, Cond.code yX0_remove cX0_remove 3 (some .int), Cond.methodLink RL 114 yX7_strike, Cond.instanceMethod yX7_strike, Cond.selects RX7 yX7_strike yX7_strike, Cond.code yX7_strike cX7_strike 7 (some .int), Cond.methodLink RX7 253 yX7_get, Cond.methodLink RL 115 yX6_common, Cond.instanceMethod yX6_common, Cond.selects RX6 yX6_common yX6_common, Cond.code yX6_common cX6_common 5 (some .int), Cond.methodLink RX6 244 yX0_alikeWith, Cond.instanceMethod yX0_alikeWith, Cond.selects RX0 yX0_alikeWith yX0_alikeWith, Cond.code yX0_alikeWith cX0_alikeWith 5 (some .int), Cond.methodLink RX0 33 yX0_placeOf, Cond.methodLink RL 118 yX7_common, Cond.instanceMethod yX7_common]
def wsL_law_r36 : List Cond := [Cond.selects RX7 yX7_common yX7_common, Cond.code yX7_common cX7_common 6 (some .int), Cond.methodLink RL 119 yX6_sum, Cond.instanceMethod yX6_sum, Cond.selects RX6 yX6_sum yX6_sum, Cond.code yX6_sum cX6_sum 4 (some .int), Cond.fieldLink RX6 248 "WallHeat$Book" "numbers" "[I", Cond.methodLink RX6 251 yX6_total, Cond.methodLink RL 122 yX7_sum, Cond.instanceMethod yX7_sum, Cond.selects RX7 yX7_sum yX7_sum, Cond.code yX7_sum cX7_sum 5 (some .int), Cond.methodLink RL 123 yX6_drop, Cond.instanceMethod yX6_drop, Cond.selects RX6 yX6_drop yX6_drop, Cond.code yX6_drop cX6_drop 4 (some .int), Cond.methodLink RL 126 yX7_drop, Cond.instanceMethod yX7_drop, Cond.selects RX7 yX7_drop yX7_drop, Cond.code yX7_drop cX7_drop 3 (some .int), Cond.methodLink RL 127 yX6_count, Cond.instanceMethod yX6_count, Cond.selects RX6 yX6_count yX6_count, Cond.code yX6_count cX6_count 2 (some .int)]
def wsL_law_r37 : List Cond := [Cond.fieldLink RX6 254 "WallHeat$Wall" "stuffs" "I", Cond.fieldLink RX6 257 "WallHeat$Warmth" "in" "I", Cond.fieldLink RX6 260 "WallHeat$Warmth" "out" "I", Cond.fieldLink RX6 269 "WallHeat$Warmth" "steps" "I", Cond.methodLink RX6 263 yX4_mostOf, Cond.instanceMethod yX4_mostOf, Cond.selects RX4 yX4_mostOf yX4_mostOf, Cond.code yX4_mostOf cX4_mostOf 4 (some .int), Cond.methodLink RX4 146 yX4_compareDegrees, Cond.instanceMethod yX4_compareDegrees, Cond.selects RX4 yX4_compareDegrees yX4_compareDegrees, Cond.code yX4_compareDegrees cX4_compareDegrees 3 (some .int), Cond.methodLink RX4 150 yJ6_compare_7cf53, Cond.static yJ6_compare_7cf53, Cond.initialized RJ6, Cond.code yJ6_compare_7cf53 cJ6_compare_7cf53 2 (some .int), Cond.methodLink RX6 266 yX4_alikePairs, Cond.instanceMethod yX4_alikePairs, Cond.selects RX4 yX4_alikePairs yX4_alikePairs, Cond.code yX4_alikePairs cX4_alikePairs 4 (some .int), Cond.methodLink RX4 155 yX4_isAlike, Cond.instanceMethod yX4_isAlike, Cond.selects RX4 yX4_isAlike yX4_isAlike, Cond.code yX4_isAlike cX4_isAlike 3 (some .boolean)]
def wsL_law_r38 : List Cond := [Cond.methodLink RX6 272 yX6_keysOfAllPages, Cond.instanceMethod yX6_keysOfAllPages, Cond.selects RX6 yX6_keysOfAllPages yX6_keysOfAllPages, Cond.code yX6_keysOfAllPages cX6_keysOfAllPages 4 (some .int), Cond.methodLink RL 130 yX7_count, Cond.instanceMethod yX7_count, Cond.selects RX7 yX7_count yX7_count, Cond.code yX7_count cX7_count 2 (some .int), Cond.methodLink RX7 256 yX7_extreme, Cond.instanceMethod yX7_extreme, Cond.selects RX7 yX7_extreme yX7_extreme, Cond.code yX7_extreme cX7_extreme 6 (some .int), Cond.methodLink RX7 260 yX7_alike, Cond.instanceMethod yX7_alike, Cond.selects RX7 yX7_alike yX7_alike, Cond.code yX7_alike cX7_alike 4 (some .int), Cond.methodLink RX7 263 yX7_allKeys, Cond.instanceMethod yX7_allKeys, Cond.selects RX7 yX7_allKeys yX7_allKeys, Cond.code yX7_allKeys cX7_allKeys 3 (some .int)]
def wsL_law : List Cond := (wsL_law_r1 ++ (wsL_law_r2 ++ (wsL_law_r3 ++ (wsL_law_r4 ++ (wsL_law_r5 ++ (wsL_law_r6 ++ (wsL_law_r7 ++ (wsL_law_r8 ++ (wsL_law_r9 ++ (wsL_law_r10 ++ (wsL_law_r11 ++ (wsL_law_r12 ++ (wsL_law_r13 ++ (wsL_law_r14 ++ (wsL_law_r15 ++ (wsL_law_r16 ++ (wsL_law_r17 ++ (wsL_law_r18 ++ (wsL_law_r19 ++ (wsL_law_r20 ++ (wsL_law_r21 ++ (wsL_law_r22 ++ (wsL_law_r23 ++ (wsL_law_r24 ++ (wsL_law_r25 ++ (wsL_law_r26 ++ (wsL_law_r27 ++ (wsL_law_r28 ++ (wsL_law_r29 ++ (wsL_law_r30 ++ (wsL_law_r31 ++ (wsL_law_r32 ++ (wsL_law_r33 ++ (wsL_law_r34 ++ (wsL_law_r35 ++ (wsL_law_r36 ++ (wsL_law_r37 ++ wsL_law_r38))))))))))))))))))))))))))))))))))))) ++ wsX60 ++ wsX70 ++ wsX20 ++ wsX40 ++ wsX50 ++ wsX10 ++ wsX00 ++ wsX30 ++ ([] : List Cond)
theorem lwm_0 {w : Cond} (h : w ∈ k2_sels lw_privs) : w ∈ lw_tbl := List.mem_append_left _ h
theorem lwm_1 {w : Cond} (h : w ∈ tables_1_1) : w ∈ lw_tbl := List.mem_append_right _ (List.mem_append_left _ h)
theorem lwm_2 {w : Cond} (h : w ∈ tables_1_2) : w ∈ lw_tbl := List.mem_append_right _ (List.mem_append_right _ (List.mem_append_left _ h))
theorem lwm_3 {w : Cond} (h : w ∈ tables_1_3) : w ∈ lw_tbl := List.mem_append_right _ (List.mem_append_right _ (List.mem_append_right _ (List.mem_append_left _ h)))
theorem lwm_4 {w : Cond} (h : w ∈ tables_1_4) : w ∈ lw_tbl := List.mem_append_right _ (List.mem_append_right _ (List.mem_append_right _ (List.mem_append_right _ (List.mem_append_left _ h))))
theorem lwm_5 {w : Cond} (h : w ∈ tables_1_5) : w ∈ lw_tbl := List.mem_append_right _ (List.mem_append_right _ (List.mem_append_right _ (List.mem_append_right _ (List.mem_append_right _ h))))
set_option maxRecDepth 100000 in
theorem wsin_1 : ∀ w ∈ wsL_law_r1, w ∈ lw_tbl := List.forall_mem_cons.mpr ⟨lwm_1 (List.mem_of_getElem? (i := 15) rfl), List.forall_mem_cons.mpr ⟨lwm_1 (List.mem_of_getElem? (i := 16) rfl), List.forall_mem_cons.mpr ⟨lwm_1 (List.mem_of_getElem? (i := 1) rfl), List.forall_mem_cons.mpr ⟨lwm_3 (List.mem_of_getElem? (i := 239) rfl), List.forall_mem_cons.mpr ⟨lwm_4 (List.mem_of_getElem? (i := 0) rfl), List.forall_mem_cons.mpr ⟨lwm_1 (List.mem_of_getElem? (i := 8) rfl), List.forall_mem_cons.mpr ⟨lwm_1 (List.mem_of_getElem? (i := 17) rfl), List.forall_mem_cons.mpr ⟨lwm_1 (List.mem_of_getElem? (i := 18) rfl), List.forall_mem_cons.mpr ⟨lwm_1 (List.mem_of_getElem? (i := 19) rfl), List.forall_mem_cons.mpr ⟨lwm_1 (List.mem_of_getElem? (i := 20) rfl), List.forall_mem_cons.mpr ⟨lwm_1 (List.mem_of_getElem? (i := 21) rfl), List.forall_mem_cons.mpr ⟨lwm_1 (List.mem_of_getElem? (i := 22) rfl), List.forall_mem_cons.mpr ⟨lwm_1 (List.mem_of_getElem? (i := 23) rfl), List.forall_mem_cons.mpr ⟨lwm_1 (List.mem_of_getElem? (i := 24) rfl), List.forall_mem_cons.mpr ⟨lwm_1 (List.mem_of_getElem? (i := 2) rfl), List.forall_mem_cons.mpr ⟨lwm_1 (List.mem_of_getElem? (i := 216) rfl), List.forall_mem_cons.mpr ⟨lwm_1 (List.mem_of_getElem? (i := 160) rfl), List.forall_mem_cons.mpr ⟨lwm_1 (List.mem_of_getElem? (i := 59) rfl), List.forall_mem_cons.mpr ⟨lwm_1 (List.mem_of_getElem? (i := 4) rfl), List.forall_mem_cons.mpr ⟨lwm_1 (List.mem_of_getElem? (i := 217) rfl), List.forall_mem_cons.mpr ⟨lwm_1 (List.mem_of_getElem? (i := 162) rfl), List.forall_mem_cons.mpr ⟨lwm_1 (List.mem_of_getElem? (i := 65) rfl), List.forall_mem_cons.mpr ⟨lwm_1 (List.mem_of_getElem? (i := 5) rfl), List.forall_mem_cons.mpr ⟨lwm_1 (List.mem_of_getElem? (i := 218) rfl), fun _ h => absurd h List.not_mem_nil⟩⟩⟩⟩⟩⟩⟩⟩⟩⟩⟩⟩⟩⟩⟩⟩⟩⟩⟩⟩⟩⟩⟩⟩
set_option maxRecDepth 100000 in
theorem wsin_2 : ∀ w ∈ wsL_law_r2, w ∈ lw_tbl := List.forall_mem_cons.mpr ⟨lwm_1 (List.mem_of_getElem? (i := 164) rfl), List.forall_mem_cons.mpr ⟨lwm_1 (List.mem_of_getElem? (i := 165) rfl), List.forall_mem_cons.mpr ⟨lwm_1 (List.mem_of_getElem? (i := 6) rfl), List.forall_mem_cons.mpr ⟨lwm_1 (List.mem_of_getElem? (i := 219) rfl), List.forall_mem_cons.mpr ⟨lwm_1 (List.mem_of_getElem? (i := 190) rfl), List.forall_mem_cons.mpr ⟨lwm_1 (List.mem_of_getElem? (i := 220) rfl), List.forall_mem_cons.mpr ⟨lwm_1 (List.mem_of_getElem? (i := 192) rfl), List.forall_mem_cons.mpr ⟨lwm_1 (List.mem_of_getElem? (i := 7) rfl), List.forall_mem_cons.mpr ⟨lwm_1 (List.mem_of_getElem? (i := 26) rfl), List.forall_mem_cons.mpr ⟨lwm_1 (List.mem_of_getElem? (i := 27) rfl), List.forall_mem_cons.mpr ⟨lwm_1 (List.mem_of_getElem? (i := 28) rfl), List.forall_mem_cons.mpr ⟨lwm_1 (List.mem_of_getElem? (i := 29) rfl), List.forall_mem_cons.mpr ⟨lwm_1 (List.mem_of_getElem? (i := 30) rfl), List.forall_mem_cons.mpr ⟨lwm_1 (List.mem_of_getElem? (i := 3) rfl), List.forall_mem_cons.mpr ⟨lwm_1 (List.mem_of_getElem? (i := 147) rfl), List.forall_mem_cons.mpr ⟨lwm_1 (List.mem_of_getElem? (i := 58) rfl), List.forall_mem_cons.mpr ⟨lwm_1 (List.mem_of_getElem? (i := 149) rfl), List.forall_mem_cons.mpr ⟨lwm_1 (List.mem_of_getElem? (i := 32) rfl), List.forall_mem_cons.mpr ⟨lwm_1 (List.mem_of_getElem? (i := 33) rfl), List.forall_mem_cons.mpr ⟨lwm_1 (List.mem_of_getElem? (i := 34) rfl), List.forall_mem_cons.mpr ⟨lwm_1 (List.mem_of_getElem? (i := 57) rfl), List.forall_mem_cons.mpr ⟨lwm_1 (List.mem_of_getElem? (i := 35) rfl), List.forall_mem_cons.mpr ⟨lwm_1 (List.mem_of_getElem? (i := 61) rfl), List.forall_mem_cons.mpr ⟨lwm_1 (List.mem_of_getElem? (i := 62) rfl), fun _ h => absurd h List.not_mem_nil⟩⟩⟩⟩⟩⟩⟩⟩⟩⟩⟩⟩⟩⟩⟩⟩⟩⟩⟩⟩⟩⟩⟩⟩
set_option maxRecDepth 100000 in
theorem wsin_3 : ∀ w ∈ wsL_law_r3, w ∈ lw_tbl := List.forall_mem_cons.mpr ⟨lwm_1 (List.mem_of_getElem? (i := 63) rfl), List.forall_mem_cons.mpr ⟨lwm_1 (List.mem_of_getElem? (i := 112) rfl), List.forall_mem_cons.mpr ⟨lwm_1 (List.mem_of_getElem? (i := 113) rfl), List.forall_mem_cons.mpr ⟨lwm_1 (List.mem_of_getElem? (i := 115) rfl), List.forall_mem_cons.mpr ⟨lwm_1 (List.mem_of_getElem? (i := 117) rfl), List.forall_mem_cons.mpr ⟨lwm_1 (List.mem_of_getElem? (i := 122) rfl), List.forall_mem_cons.mpr ⟨lwm_1 (List.mem_of_getElem? (i := 64) rfl), List.forall_mem_cons.mpr ⟨lwm_1 (List.mem_of_getElem? (i := 124) rfl), List.forall_mem_cons.mpr ⟨lwm_1 (List.mem_of_getElem? (i := 127) rfl), List.forall_mem_cons.mpr ⟨lwm_1 (List.mem_of_getElem? (i := 67) rfl), List.forall_mem_cons.mpr ⟨lwm_1 (List.mem_of_getElem? (i := 68) rfl), List.forall_mem_cons.mpr ⟨lwm_1 (List.mem_of_getElem? (i := 69) rfl), List.forall_mem_cons.mpr ⟨lwm_1 (List.mem_of_getElem? (i := 70) rfl), List.forall_mem_cons.mpr ⟨lwm_1 (List.mem_of_getElem? (i := 82) rfl), List.forall_mem_cons.mpr ⟨lwm_1 (List.mem_of_getElem? (i := 166) rfl), List.forall_mem_cons.mpr ⟨lwm_1 (List.mem_of_getElem? (i := 167) rfl), List.forall_mem_cons.mpr ⟨lwm_1 (List.mem_of_getElem? (i := 168) rfl), List.forall_mem_cons.mpr ⟨lwm_1 (List.mem_of_getElem? (i := 169) rfl), List.forall_mem_cons.mpr ⟨lwm_1 (List.mem_of_getElem? (i := 170) rfl), List.forall_mem_cons.mpr ⟨lwm_1 (List.mem_of_getElem? (i := 173) rfl), List.forall_mem_cons.mpr ⟨lwm_1 (List.mem_of_getElem? (i := 174) rfl), List.forall_mem_cons.mpr ⟨lwm_1 (List.mem_of_getElem? (i := 175) rfl), List.forall_mem_cons.mpr ⟨lwm_1 (List.mem_of_getElem? (i := 194) rfl), List.forall_mem_cons.mpr ⟨lwm_1 (List.mem_of_getElem? (i := 195) rfl), fun _ h => absurd h List.not_mem_nil⟩⟩⟩⟩⟩⟩⟩⟩⟩⟩⟩⟩⟩⟩⟩⟩⟩⟩⟩⟩⟩⟩⟩⟩
set_option maxRecDepth 100000 in
theorem wsin_4 : ∀ w ∈ wsL_law_r4, w ∈ lw_tbl := List.forall_mem_cons.mpr ⟨lwm_1 (List.mem_of_getElem? (i := 196) rfl), List.forall_mem_cons.mpr ⟨lwm_1 (List.mem_of_getElem? (i := 200) rfl), List.forall_mem_cons.mpr ⟨lwm_1 (List.mem_of_getElem? (i := 201) rfl), List.forall_mem_cons.mpr ⟨lwm_1 (List.mem_of_getElem? (i := 203) rfl), List.forall_mem_cons.mpr ⟨lwm_4 (List.mem_of_getElem? (i := 1) rfl), List.forall_mem_cons.mpr ⟨lwm_4 (List.mem_of_getElem? (i := 2) rfl), List.forall_mem_cons.mpr ⟨lwm_4 (List.mem_of_getElem? (i := 3) rfl), List.forall_mem_cons.mpr ⟨lwm_4 (List.mem_of_getElem? (i := 4) rfl), List.forall_mem_cons.mpr ⟨lwm_4 (List.mem_of_getElem? (i := 5) rfl), List.forall_mem_cons.mpr ⟨lwm_4 (List.mem_of_getElem? (i := 7) rfl), List.forall_mem_cons.mpr ⟨lwm_4 (List.mem_of_getElem? (i := 8) rfl), List.forall_mem_cons.mpr ⟨lwm_4 (List.mem_of_getElem? (i := 9) rfl), List.forall_mem_cons.mpr ⟨lwm_4 (List.mem_of_getElem? (i := 10) rfl), List.forall_mem_cons.mpr ⟨lwm_4 (List.mem_of_getElem? (i := 12) rfl), List.forall_mem_cons.mpr ⟨lwm_4 (List.mem_of_getElem? (i := 87) rfl), List.forall_mem_cons.mpr ⟨lwm_4 (List.mem_of_getElem? (i := 14) rfl), List.forall_mem_cons.mpr ⟨lwm_4 (List.mem_of_getElem? (i := 15) rfl), List.forall_mem_cons.mpr ⟨lwm_4 (List.mem_of_getElem? (i := 17) rfl), List.forall_mem_cons.mpr ⟨lwm_4 (List.mem_of_getElem? (i := 18) rfl), List.forall_mem_cons.mpr ⟨lwm_4 (List.mem_of_getElem? (i := 19) rfl), List.forall_mem_cons.mpr ⟨lwm_4 (List.mem_of_getElem? (i := 20) rfl), List.forall_mem_cons.mpr ⟨lwm_4 (List.mem_of_getElem? (i := 25) rfl), List.forall_mem_cons.mpr ⟨lwm_4 (List.mem_of_getElem? (i := 26) rfl), List.forall_mem_cons.mpr ⟨lwm_4 (List.mem_of_getElem? (i := 29) rfl), fun _ h => absurd h List.not_mem_nil⟩⟩⟩⟩⟩⟩⟩⟩⟩⟩⟩⟩⟩⟩⟩⟩⟩⟩⟩⟩⟩⟩⟩⟩
set_option maxRecDepth 100000 in
theorem wsin_5 : ∀ w ∈ wsL_law_r5, w ∈ lw_tbl := List.forall_mem_cons.mpr ⟨lwm_4 (List.mem_of_getElem? (i := 30) rfl), List.forall_mem_cons.mpr ⟨lwm_4 (List.mem_of_getElem? (i := 31) rfl), List.forall_mem_cons.mpr ⟨lwm_1 (List.mem_of_getElem? (i := 232) rfl), List.forall_mem_cons.mpr ⟨lwm_1 (List.mem_of_getElem? (i := 233) rfl), List.forall_mem_cons.mpr ⟨lwm_1 (List.mem_of_getElem? (i := 234) rfl), List.forall_mem_cons.mpr ⟨lwm_1 (List.mem_of_getElem? (i := 235) rfl), List.forall_mem_cons.mpr ⟨lwm_1 (List.mem_of_getElem? (i := 236) rfl), List.forall_mem_cons.mpr ⟨lwm_1 (List.mem_of_getElem? (i := 148) rfl), List.forall_mem_cons.mpr ⟨lwm_1 (List.mem_of_getElem? (i := 38) rfl), List.forall_mem_cons.mpr ⟨lwm_1 (List.mem_of_getElem? (i := 237) rfl), List.forall_mem_cons.mpr ⟨lwm_1 (List.mem_of_getElem? (i := 238) rfl), List.forall_mem_cons.mpr ⟨lwm_1 (List.mem_of_getElem? (i := 239) rfl), List.forall_mem_cons.mpr ⟨lwm_2 (List.mem_of_getElem? (i := 0) rfl), List.forall_mem_cons.mpr ⟨lwm_2 (List.mem_of_getElem? (i := 1) rfl), List.forall_mem_cons.mpr ⟨lwm_1 (List.mem_of_getElem? (i := 37) rfl), List.forall_mem_cons.mpr ⟨lwm_2 (List.mem_of_getElem? (i := 3) rfl), List.forall_mem_cons.mpr ⟨lwm_2 (List.mem_of_getElem? (i := 4) rfl), List.forall_mem_cons.mpr ⟨lwm_4 (List.mem_of_getElem? (i := 88) rfl), List.forall_mem_cons.mpr ⟨lwm_4 (List.mem_of_getElem? (i := 89) rfl), List.forall_mem_cons.mpr ⟨lwm_4 (List.mem_of_getElem? (i := 90) rfl), List.forall_mem_cons.mpr ⟨lwm_4 (List.mem_of_getElem? (i := 91) rfl), List.forall_mem_cons.mpr ⟨lwm_4 (List.mem_of_getElem? (i := 92) rfl), List.forall_mem_cons.mpr ⟨lwm_4 (List.mem_of_getElem? (i := 96) rfl), List.forall_mem_cons.mpr ⟨lwm_4 (List.mem_of_getElem? (i := 16) rfl), fun _ h => absurd h List.not_mem_nil⟩⟩⟩⟩⟩⟩⟩⟩⟩⟩⟩⟩⟩⟩⟩⟩⟩⟩⟩⟩⟩⟩⟩⟩
set_option maxRecDepth 100000 in
theorem wsin_6 : ∀ w ∈ wsL_law_r6, w ∈ lw_tbl := List.forall_mem_cons.mpr ⟨lwm_4 (List.mem_of_getElem? (i := 97) rfl), List.forall_mem_cons.mpr ⟨lwm_4 (List.mem_of_getElem? (i := 93) rfl), List.forall_mem_cons.mpr ⟨lwm_4 (List.mem_of_getElem? (i := 94) rfl), List.forall_mem_cons.mpr ⟨lwm_4 (List.mem_of_getElem? (i := 95) rfl), List.forall_mem_cons.mpr ⟨lwm_2 (List.mem_of_getElem? (i := 5) rfl), List.forall_mem_cons.mpr ⟨lwm_2 (List.mem_of_getElem? (i := 6) rfl), List.forall_mem_cons.mpr ⟨lwm_2 (List.mem_of_getElem? (i := 7) rfl), List.forall_mem_cons.mpr ⟨lwm_2 (List.mem_of_getElem? (i := 8) rfl), List.forall_mem_cons.mpr ⟨lwm_4 (List.mem_of_getElem? (i := 98) rfl), List.forall_mem_cons.mpr ⟨lwm_4 (List.mem_of_getElem? (i := 99) rfl), List.forall_mem_cons.mpr ⟨lwm_4 (List.mem_of_getElem? (i := 100) rfl), List.forall_mem_cons.mpr ⟨lwm_4 (List.mem_of_getElem? (i := 101) rfl), List.forall_mem_cons.mpr ⟨lwm_2 (List.mem_of_getElem? (i := 9) rfl), List.forall_mem_cons.mpr ⟨lwm_2 (List.mem_of_getElem? (i := 10) rfl), List.forall_mem_cons.mpr ⟨lwm_2 (List.mem_of_getElem? (i := 11) rfl), List.forall_mem_cons.mpr ⟨lwm_2 (List.mem_of_getElem? (i := 12) rfl), List.forall_mem_cons.mpr ⟨lwm_2 (List.mem_of_getElem? (i := 13) rfl), List.forall_mem_cons.mpr ⟨lwm_2 (List.mem_of_getElem? (i := 14) rfl), List.forall_mem_cons.mpr ⟨lwm_2 (List.mem_of_getElem? (i := 15) rfl), List.forall_mem_cons.mpr ⟨lwm_2 (List.mem_of_getElem? (i := 16) rfl), List.forall_mem_cons.mpr ⟨lwm_1 (List.mem_of_getElem? (i := 151) rfl), List.forall_mem_cons.mpr ⟨lwm_1 (List.mem_of_getElem? (i := 39) rfl), List.forall_mem_cons.mpr ⟨lwm_1 (List.mem_of_getElem? (i := 44) rfl), List.forall_mem_cons.mpr ⟨lwm_1 (List.mem_of_getElem? (i := 42) rfl), fun _ h => absurd h List.not_mem_nil⟩⟩⟩⟩⟩⟩⟩⟩⟩⟩⟩⟩⟩⟩⟩⟩⟩⟩⟩⟩⟩⟩⟩⟩
set_option maxRecDepth 100000 in
theorem wsin_7 : ∀ w ∈ wsL_law_r7, w ∈ lw_tbl := List.forall_mem_cons.mpr ⟨lwm_2 (List.mem_of_getElem? (i := 17) rfl), List.forall_mem_cons.mpr ⟨lwm_2 (List.mem_of_getElem? (i := 18) rfl), List.forall_mem_cons.mpr ⟨lwm_2 (List.mem_of_getElem? (i := 19) rfl), List.forall_mem_cons.mpr ⟨lwm_2 (List.mem_of_getElem? (i := 20) rfl), List.forall_mem_cons.mpr ⟨lwm_1 (List.mem_of_getElem? (i := 109) rfl), List.forall_mem_cons.mpr ⟨lwm_1 (List.mem_of_getElem? (i := 119) rfl), List.forall_mem_cons.mpr ⟨lwm_2 (List.mem_of_getElem? (i := 22) rfl), List.forall_mem_cons.mpr ⟨lwm_2 (List.mem_of_getElem? (i := 23) rfl), List.forall_mem_cons.mpr ⟨lwm_2 (List.mem_of_getElem? (i := 24) rfl), List.forall_mem_cons.mpr ⟨lwm_2 (List.mem_of_getElem? (i := 25) rfl), List.forall_mem_cons.mpr ⟨lwm_2 (List.mem_of_getElem? (i := 26) rfl), List.forall_mem_cons.mpr ⟨lwm_2 (List.mem_of_getElem? (i := 27) rfl), List.forall_mem_cons.mpr ⟨lwm_2 (List.mem_of_getElem? (i := 28) rfl), List.forall_mem_cons.mpr ⟨lwm_2 (List.mem_of_getElem? (i := 29) rfl), List.forall_mem_cons.mpr ⟨lwm_2 (List.mem_of_getElem? (i := 30) rfl), List.forall_mem_cons.mpr ⟨lwm_1 (List.mem_of_getElem? (i := 74) rfl), List.forall_mem_cons.mpr ⟨lwm_1 (List.mem_of_getElem? (i := 78) rfl), List.forall_mem_cons.mpr ⟨lwm_1 (List.mem_of_getElem? (i := 85) rfl), List.forall_mem_cons.mpr ⟨lwm_1 (List.mem_of_getElem? (i := 88) rfl), List.forall_mem_cons.mpr ⟨lwm_1 (List.mem_of_getElem? (i := 91) rfl), List.forall_mem_cons.mpr ⟨lwm_2 (List.mem_of_getElem? (i := 32) rfl), List.forall_mem_cons.mpr ⟨lwm_2 (List.mem_of_getElem? (i := 33) rfl), List.forall_mem_cons.mpr ⟨lwm_2 (List.mem_of_getElem? (i := 34) rfl), List.forall_mem_cons.mpr ⟨lwm_2 (List.mem_of_getElem? (i := 35) rfl), fun _ h => absurd h List.not_mem_nil⟩⟩⟩⟩⟩⟩⟩⟩⟩⟩⟩⟩⟩⟩⟩⟩⟩⟩⟩⟩⟩⟩⟩⟩
set_option maxRecDepth 100000 in
theorem wsin_8 : ∀ w ∈ wsL_law_r8, w ∈ lw_tbl := List.forall_mem_cons.mpr ⟨lwm_1 (List.mem_of_getElem? (i := 40) rfl), List.forall_mem_cons.mpr ⟨lwm_1 (List.mem_of_getElem? (i := 43) rfl), List.forall_mem_cons.mpr ⟨lwm_1 (List.mem_of_getElem? (i := 45) rfl), List.forall_mem_cons.mpr ⟨lwm_2 (List.mem_of_getElem? (i := 37) rfl), List.forall_mem_cons.mpr ⟨lwm_2 (List.mem_of_getElem? (i := 38) rfl), List.forall_mem_cons.mpr ⟨lwm_2 (List.mem_of_getElem? (i := 39) rfl), List.forall_mem_cons.mpr ⟨lwm_2 (List.mem_of_getElem? (i := 40) rfl), List.forall_mem_cons.mpr ⟨lwm_2 (List.mem_of_getElem? (i := 42) rfl), List.forall_mem_cons.mpr ⟨lwm_0 (List.mem_of_getElem? (i := 0) rfl), List.forall_mem_cons.mpr ⟨lwm_2 (List.mem_of_getElem? (i := 43) rfl), List.forall_mem_cons.mpr ⟨lwm_1 (List.mem_of_getElem? (i := 110) rfl), List.forall_mem_cons.mpr ⟨lwm_2 (List.mem_of_getElem? (i := 45) rfl), List.forall_mem_cons.mpr ⟨lwm_2 (List.mem_of_getElem? (i := 47) rfl), List.forall_mem_cons.mpr ⟨lwm_0 (List.mem_of_getElem? (i := 1) rfl), List.forall_mem_cons.mpr ⟨lwm_2 (List.mem_of_getElem? (i := 48) rfl), List.forall_mem_cons.mpr ⟨lwm_2 (List.mem_of_getElem? (i := 49) rfl), List.forall_mem_cons.mpr ⟨lwm_2 (List.mem_of_getElem? (i := 50) rfl), List.forall_mem_cons.mpr ⟨lwm_2 (List.mem_of_getElem? (i := 51) rfl), List.forall_mem_cons.mpr ⟨lwm_2 (List.mem_of_getElem? (i := 52) rfl), List.forall_mem_cons.mpr ⟨lwm_2 (List.mem_of_getElem? (i := 53) rfl), List.forall_mem_cons.mpr ⟨lwm_2 (List.mem_of_getElem? (i := 54) rfl), List.forall_mem_cons.mpr ⟨lwm_2 (List.mem_of_getElem? (i := 55) rfl), List.forall_mem_cons.mpr ⟨lwm_2 (List.mem_of_getElem? (i := 56) rfl), List.forall_mem_cons.mpr ⟨lwm_2 (List.mem_of_getElem? (i := 57) rfl), fun _ h => absurd h List.not_mem_nil⟩⟩⟩⟩⟩⟩⟩⟩⟩⟩⟩⟩⟩⟩⟩⟩⟩⟩⟩⟩⟩⟩⟩⟩
set_option maxRecDepth 100000 in
theorem wsin_9 : ∀ w ∈ wsL_law_r9, w ∈ lw_tbl := List.forall_mem_cons.mpr ⟨lwm_2 (List.mem_of_getElem? (i := 58) rfl), List.forall_mem_cons.mpr ⟨lwm_2 (List.mem_of_getElem? (i := 59) rfl), List.forall_mem_cons.mpr ⟨lwm_1 (List.mem_of_getElem? (i := 9) rfl), List.forall_mem_cons.mpr ⟨lwm_2 (List.mem_of_getElem? (i := 60) rfl), List.forall_mem_cons.mpr ⟨lwm_5 (List.mem_of_getElem? (i := 123) rfl), List.forall_mem_cons.mpr ⟨lwm_2 (List.mem_of_getElem? (i := 61) rfl), List.forall_mem_cons.mpr ⟨lwm_2 (List.mem_of_getElem? (i := 62) rfl), List.forall_mem_cons.mpr ⟨lwm_2 (List.mem_of_getElem? (i := 63) rfl), List.forall_mem_cons.mpr ⟨lwm_2 (List.mem_of_getElem? (i := 64) rfl), List.forall_mem_cons.mpr ⟨lwm_2 (List.mem_of_getElem? (i := 65) rfl), List.forall_mem_cons.mpr ⟨lwm_5 (List.mem_of_getElem? (i := 124) rfl), List.forall_mem_cons.mpr ⟨lwm_2 (List.mem_of_getElem? (i := 67) rfl), List.forall_mem_cons.mpr ⟨lwm_2 (List.mem_of_getElem? (i := 68) rfl), List.forall_mem_cons.mpr ⟨lwm_2 (List.mem_of_getElem? (i := 69) rfl), List.forall_mem_cons.mpr ⟨lwm_2 (List.mem_of_getElem? (i := 70) rfl), List.forall_mem_cons.mpr ⟨lwm_2 (List.mem_of_getElem? (i := 71) rfl), List.forall_mem_cons.mpr ⟨lwm_2 (List.mem_of_getElem? (i := 72) rfl), List.forall_mem_cons.mpr ⟨lwm_2 (List.mem_of_getElem? (i := 73) rfl), List.forall_mem_cons.mpr ⟨lwm_2 (List.mem_of_getElem? (i := 74) rfl), List.forall_mem_cons.mpr ⟨lwm_2 (List.mem_of_getElem? (i := 75) rfl), List.forall_mem_cons.mpr ⟨lwm_2 (List.mem_of_getElem? (i := 76) rfl), List.forall_mem_cons.mpr ⟨lwm_1 (List.mem_of_getElem? (i := 10) rfl), List.forall_mem_cons.mpr ⟨lwm_2 (List.mem_of_getElem? (i := 77) rfl), List.forall_mem_cons.mpr ⟨lwm_2 (List.mem_of_getElem? (i := 78) rfl), fun _ h => absurd h List.not_mem_nil⟩⟩⟩⟩⟩⟩⟩⟩⟩⟩⟩⟩⟩⟩⟩⟩⟩⟩⟩⟩⟩⟩⟩⟩
set_option maxRecDepth 100000 in
theorem wsin_10 : ∀ w ∈ wsL_law_r10, w ∈ lw_tbl := List.forall_mem_cons.mpr ⟨lwm_2 (List.mem_of_getElem? (i := 79) rfl), List.forall_mem_cons.mpr ⟨lwm_2 (List.mem_of_getElem? (i := 80) rfl), List.forall_mem_cons.mpr ⟨lwm_2 (List.mem_of_getElem? (i := 81) rfl), List.forall_mem_cons.mpr ⟨lwm_2 (List.mem_of_getElem? (i := 83) rfl), List.forall_mem_cons.mpr ⟨lwm_2 (List.mem_of_getElem? (i := 84) rfl), List.forall_mem_cons.mpr ⟨lwm_1 (List.mem_of_getElem? (i := 11) rfl), List.forall_mem_cons.mpr ⟨lwm_2 (List.mem_of_getElem? (i := 85) rfl), List.forall_mem_cons.mpr ⟨lwm_2 (List.mem_of_getElem? (i := 86) rfl), List.forall_mem_cons.mpr ⟨lwm_2 (List.mem_of_getElem? (i := 87) rfl), List.forall_mem_cons.mpr ⟨lwm_1 (List.mem_of_getElem? (i := 12) rfl), List.forall_mem_cons.mpr ⟨lwm_2 (List.mem_of_getElem? (i := 88) rfl), List.forall_mem_cons.mpr ⟨lwm_2 (List.mem_of_getElem? (i := 89) rfl), List.forall_mem_cons.mpr ⟨lwm_2 (List.mem_of_getElem? (i := 90) rfl), List.forall_mem_cons.mpr ⟨lwm_2 (List.mem_of_getElem? (i := 91) rfl), List.forall_mem_cons.mpr ⟨lwm_2 (List.mem_of_getElem? (i := 92) rfl), List.forall_mem_cons.mpr ⟨lwm_2 (List.mem_of_getElem? (i := 93) rfl), List.forall_mem_cons.mpr ⟨lwm_2 (List.mem_of_getElem? (i := 94) rfl), List.forall_mem_cons.mpr ⟨lwm_2 (List.mem_of_getElem? (i := 95) rfl), List.forall_mem_cons.mpr ⟨lwm_2 (List.mem_of_getElem? (i := 96) rfl), List.forall_mem_cons.mpr ⟨lwm_2 (List.mem_of_getElem? (i := 97) rfl), List.forall_mem_cons.mpr ⟨lwm_2 (List.mem_of_getElem? (i := 98) rfl), List.forall_mem_cons.mpr ⟨lwm_2 (List.mem_of_getElem? (i := 99) rfl), List.forall_mem_cons.mpr ⟨lwm_2 (List.mem_of_getElem? (i := 101) rfl), List.forall_mem_cons.mpr ⟨lwm_2 (List.mem_of_getElem? (i := 103) rfl), fun _ h => absurd h List.not_mem_nil⟩⟩⟩⟩⟩⟩⟩⟩⟩⟩⟩⟩⟩⟩⟩⟩⟩⟩⟩⟩⟩⟩⟩⟩
set_option maxRecDepth 100000 in
theorem wsin_11 : ∀ w ∈ wsL_law_r11, w ∈ lw_tbl := List.forall_mem_cons.mpr ⟨lwm_2 (List.mem_of_getElem? (i := 105) rfl), List.forall_mem_cons.mpr ⟨lwm_2 (List.mem_of_getElem? (i := 107) rfl), List.forall_mem_cons.mpr ⟨lwm_0 (List.mem_of_getElem? (i := 2) rfl), List.forall_mem_cons.mpr ⟨lwm_2 (List.mem_of_getElem? (i := 108) rfl), List.forall_mem_cons.mpr ⟨lwm_2 (List.mem_of_getElem? (i := 109) rfl), List.forall_mem_cons.mpr ⟨lwm_2 (List.mem_of_getElem? (i := 111) rfl), List.forall_mem_cons.mpr ⟨lwm_0 (List.mem_of_getElem? (i := 3) rfl), List.forall_mem_cons.mpr ⟨lwm_2 (List.mem_of_getElem? (i := 112) rfl), List.forall_mem_cons.mpr ⟨lwm_2 (List.mem_of_getElem? (i := 113) rfl), List.forall_mem_cons.mpr ⟨lwm_2 (List.mem_of_getElem? (i := 114) rfl), List.forall_mem_cons.mpr ⟨lwm_2 (List.mem_of_getElem? (i := 115) rfl), List.forall_mem_cons.mpr ⟨lwm_2 (List.mem_of_getElem? (i := 116) rfl), List.forall_mem_cons.mpr ⟨lwm_2 (List.mem_of_getElem? (i := 117) rfl), List.forall_mem_cons.mpr ⟨lwm_2 (List.mem_of_getElem? (i := 118) rfl), List.forall_mem_cons.mpr ⟨lwm_2 (List.mem_of_getElem? (i := 119) rfl), List.forall_mem_cons.mpr ⟨lwm_2 (List.mem_of_getElem? (i := 120) rfl), List.forall_mem_cons.mpr ⟨lwm_1 (List.mem_of_getElem? (i := 75) rfl), List.forall_mem_cons.mpr ⟨lwm_1 (List.mem_of_getElem? (i := 79) rfl), List.forall_mem_cons.mpr ⟨lwm_1 (List.mem_of_getElem? (i := 83) rfl), List.forall_mem_cons.mpr ⟨lwm_2 (List.mem_of_getElem? (i := 122) rfl), List.forall_mem_cons.mpr ⟨lwm_2 (List.mem_of_getElem? (i := 124) rfl), List.forall_mem_cons.mpr ⟨lwm_0 (List.mem_of_getElem? (i := 4) rfl), List.forall_mem_cons.mpr ⟨lwm_2 (List.mem_of_getElem? (i := 125) rfl), List.forall_mem_cons.mpr ⟨lwm_2 (List.mem_of_getElem? (i := 126) rfl), fun _ h => absurd h List.not_mem_nil⟩⟩⟩⟩⟩⟩⟩⟩⟩⟩⟩⟩⟩⟩⟩⟩⟩⟩⟩⟩⟩⟩⟩⟩
set_option maxRecDepth 100000 in
theorem wsin_12 : ∀ w ∈ wsL_law_r12, w ∈ lw_tbl := List.forall_mem_cons.mpr ⟨lwm_2 (List.mem_of_getElem? (i := 127) rfl), List.forall_mem_cons.mpr ⟨lwm_2 (List.mem_of_getElem? (i := 128) rfl), List.forall_mem_cons.mpr ⟨lwm_2 (List.mem_of_getElem? (i := 129) rfl), List.forall_mem_cons.mpr ⟨lwm_2 (List.mem_of_getElem? (i := 130) rfl), List.forall_mem_cons.mpr ⟨lwm_2 (List.mem_of_getElem? (i := 131) rfl), List.forall_mem_cons.mpr ⟨lwm_2 (List.mem_of_getElem? (i := 133) rfl), List.forall_mem_cons.mpr ⟨lwm_0 (List.mem_of_getElem? (i := 5) rfl), List.forall_mem_cons.mpr ⟨lwm_2 (List.mem_of_getElem? (i := 134) rfl), List.forall_mem_cons.mpr ⟨lwm_1 (List.mem_of_getElem? (i := 36) rfl), List.forall_mem_cons.mpr ⟨lwm_2 (List.mem_of_getElem? (i := 136) rfl), List.forall_mem_cons.mpr ⟨lwm_2 (List.mem_of_getElem? (i := 137) rfl), List.forall_mem_cons.mpr ⟨lwm_2 (List.mem_of_getElem? (i := 138) rfl), List.forall_mem_cons.mpr ⟨lwm_2 (List.mem_of_getElem? (i := 139) rfl), List.forall_mem_cons.mpr ⟨lwm_1 (List.mem_of_getElem? (i := 41) rfl), List.forall_mem_cons.mpr ⟨lwm_2 (List.mem_of_getElem? (i := 140) rfl), List.forall_mem_cons.mpr ⟨lwm_2 (List.mem_of_getElem? (i := 142) rfl), List.forall_mem_cons.mpr ⟨lwm_2 (List.mem_of_getElem? (i := 143) rfl), List.forall_mem_cons.mpr ⟨lwm_2 (List.mem_of_getElem? (i := 144) rfl), List.forall_mem_cons.mpr ⟨lwm_2 (List.mem_of_getElem? (i := 145) rfl), List.forall_mem_cons.mpr ⟨lwm_2 (List.mem_of_getElem? (i := 147) rfl), List.forall_mem_cons.mpr ⟨lwm_2 (List.mem_of_getElem? (i := 149) rfl), List.forall_mem_cons.mpr ⟨lwm_0 (List.mem_of_getElem? (i := 6) rfl), List.forall_mem_cons.mpr ⟨lwm_2 (List.mem_of_getElem? (i := 150) rfl), List.forall_mem_cons.mpr ⟨lwm_1 (List.mem_of_getElem? (i := 120) rfl), fun _ h => absurd h List.not_mem_nil⟩⟩⟩⟩⟩⟩⟩⟩⟩⟩⟩⟩⟩⟩⟩⟩⟩⟩⟩⟩⟩⟩⟩⟩
set_option maxRecDepth 100000 in
theorem wsin_13 : ∀ w ∈ wsL_law_r13, w ∈ lw_tbl := List.forall_mem_cons.mpr ⟨lwm_2 (List.mem_of_getElem? (i := 151) rfl), List.forall_mem_cons.mpr ⟨lwm_2 (List.mem_of_getElem? (i := 152) rfl), List.forall_mem_cons.mpr ⟨lwm_1 (List.mem_of_getElem? (i := 13) rfl), List.forall_mem_cons.mpr ⟨lwm_2 (List.mem_of_getElem? (i := 153) rfl), List.forall_mem_cons.mpr ⟨lwm_2 (List.mem_of_getElem? (i := 154) rfl), List.forall_mem_cons.mpr ⟨lwm_2 (List.mem_of_getElem? (i := 155) rfl), List.forall_mem_cons.mpr ⟨lwm_2 (List.mem_of_getElem? (i := 156) rfl), List.forall_mem_cons.mpr ⟨lwm_2 (List.mem_of_getElem? (i := 157) rfl), List.forall_mem_cons.mpr ⟨lwm_1 (List.mem_of_getElem? (i := 73) rfl), List.forall_mem_cons.mpr ⟨lwm_2 (List.mem_of_getElem? (i := 159) rfl), List.forall_mem_cons.mpr ⟨lwm_2 (List.mem_of_getElem? (i := 161) rfl), List.forall_mem_cons.mpr ⟨lwm_0 (List.mem_of_getElem? (i := 7) rfl), List.forall_mem_cons.mpr ⟨lwm_2 (List.mem_of_getElem? (i := 162) rfl), List.forall_mem_cons.mpr ⟨lwm_1 (List.mem_of_getElem? (i := 126) rfl), List.forall_mem_cons.mpr ⟨lwm_1 (List.mem_of_getElem? (i := 76) rfl), List.forall_mem_cons.mpr ⟨lwm_1 (List.mem_of_getElem? (i := 80) rfl), List.forall_mem_cons.mpr ⟨lwm_2 (List.mem_of_getElem? (i := 164) rfl), List.forall_mem_cons.mpr ⟨lwm_2 (List.mem_of_getElem? (i := 166) rfl), List.forall_mem_cons.mpr ⟨lwm_0 (List.mem_of_getElem? (i := 8) rfl), List.forall_mem_cons.mpr ⟨lwm_2 (List.mem_of_getElem? (i := 167) rfl), List.forall_mem_cons.mpr ⟨lwm_1 (List.mem_of_getElem? (i := 72) rfl), List.forall_mem_cons.mpr ⟨lwm_2 (List.mem_of_getElem? (i := 169) rfl), List.forall_mem_cons.mpr ⟨lwm_2 (List.mem_of_getElem? (i := 170) rfl), List.forall_mem_cons.mpr ⟨lwm_2 (List.mem_of_getElem? (i := 171) rfl), fun _ h => absurd h List.not_mem_nil⟩⟩⟩⟩⟩⟩⟩⟩⟩⟩⟩⟩⟩⟩⟩⟩⟩⟩⟩⟩⟩⟩⟩⟩
set_option maxRecDepth 100000 in
theorem wsin_14 : ∀ w ∈ wsL_law_r14, w ∈ lw_tbl := List.forall_mem_cons.mpr ⟨lwm_2 (List.mem_of_getElem? (i := 172) rfl), List.forall_mem_cons.mpr ⟨lwm_4 (List.mem_of_getElem? (i := 102) rfl), List.forall_mem_cons.mpr ⟨lwm_4 (List.mem_of_getElem? (i := 103) rfl), List.forall_mem_cons.mpr ⟨lwm_4 (List.mem_of_getElem? (i := 104) rfl), List.forall_mem_cons.mpr ⟨lwm_4 (List.mem_of_getElem? (i := 105) rfl), List.forall_mem_cons.mpr ⟨lwm_4 (List.mem_of_getElem? (i := 21) rfl), List.forall_mem_cons.mpr ⟨lwm_4 (List.mem_of_getElem? (i := 106) rfl), List.forall_mem_cons.mpr ⟨lwm_4 (List.mem_of_getElem? (i := 108) rfl), List.forall_mem_cons.mpr ⟨lwm_0 (List.mem_of_getElem? (i := 19) rfl), List.forall_mem_cons.mpr ⟨lwm_4 (List.mem_of_getElem? (i := 109) rfl), List.forall_mem_cons.mpr ⟨lwm_4 (List.mem_of_getElem? (i := 28) rfl), List.forall_mem_cons.mpr ⟨lwm_4 (List.mem_of_getElem? (i := 22) rfl), List.forall_mem_cons.mpr ⟨lwm_4 (List.mem_of_getElem? (i := 27) rfl), List.forall_mem_cons.mpr ⟨lwm_4 (List.mem_of_getElem? (i := 110) rfl), List.forall_mem_cons.mpr ⟨lwm_4 (List.mem_of_getElem? (i := 112) rfl), List.forall_mem_cons.mpr ⟨lwm_0 (List.mem_of_getElem? (i := 20) rfl), List.forall_mem_cons.mpr ⟨lwm_4 (List.mem_of_getElem? (i := 113) rfl), List.forall_mem_cons.mpr ⟨lwm_4 (List.mem_of_getElem? (i := 6) rfl), List.forall_mem_cons.mpr ⟨lwm_4 (List.mem_of_getElem? (i := 23) rfl), List.forall_mem_cons.mpr ⟨lwm_4 (List.mem_of_getElem? (i := 11) rfl), List.forall_mem_cons.mpr ⟨lwm_4 (List.mem_of_getElem? (i := 24) rfl), List.forall_mem_cons.mpr ⟨lwm_4 (List.mem_of_getElem? (i := 114) rfl), List.forall_mem_cons.mpr ⟨lwm_4 (List.mem_of_getElem? (i := 116) rfl), List.forall_mem_cons.mpr ⟨lwm_0 (List.mem_of_getElem? (i := 21) rfl), fun _ h => absurd h List.not_mem_nil⟩⟩⟩⟩⟩⟩⟩⟩⟩⟩⟩⟩⟩⟩⟩⟩⟩⟩⟩⟩⟩⟩⟩⟩
set_option maxRecDepth 100000 in
theorem wsin_15 : ∀ w ∈ wsL_law_r15, w ∈ lw_tbl := List.forall_mem_cons.mpr ⟨lwm_4 (List.mem_of_getElem? (i := 117) rfl), List.forall_mem_cons.mpr ⟨lwm_4 (List.mem_of_getElem? (i := 118) rfl), List.forall_mem_cons.mpr ⟨lwm_4 (List.mem_of_getElem? (i := 119) rfl), List.forall_mem_cons.mpr ⟨lwm_4 (List.mem_of_getElem? (i := 120) rfl), List.forall_mem_cons.mpr ⟨lwm_4 (List.mem_of_getElem? (i := 121) rfl), List.forall_mem_cons.mpr ⟨lwm_4 (List.mem_of_getElem? (i := 122) rfl), List.forall_mem_cons.mpr ⟨lwm_4 (List.mem_of_getElem? (i := 123) rfl), List.forall_mem_cons.mpr ⟨lwm_4 (List.mem_of_getElem? (i := 124) rfl), List.forall_mem_cons.mpr ⟨lwm_4 (List.mem_of_getElem? (i := 125) rfl), List.forall_mem_cons.mpr ⟨lwm_4 (List.mem_of_getElem? (i := 126) rfl), List.forall_mem_cons.mpr ⟨lwm_4 (List.mem_of_getElem? (i := 127) rfl), List.forall_mem_cons.mpr ⟨lwm_4 (List.mem_of_getElem? (i := 128) rfl), List.forall_mem_cons.mpr ⟨lwm_4 (List.mem_of_getElem? (i := 130) rfl), List.forall_mem_cons.mpr ⟨lwm_0 (List.mem_of_getElem? (i := 22) rfl), List.forall_mem_cons.mpr ⟨lwm_4 (List.mem_of_getElem? (i := 131) rfl), List.forall_mem_cons.mpr ⟨lwm_4 (List.mem_of_getElem? (i := 132) rfl), List.forall_mem_cons.mpr ⟨lwm_4 (List.mem_of_getElem? (i := 134) rfl), List.forall_mem_cons.mpr ⟨lwm_0 (List.mem_of_getElem? (i := 23) rfl), List.forall_mem_cons.mpr ⟨lwm_4 (List.mem_of_getElem? (i := 135) rfl), List.forall_mem_cons.mpr ⟨lwm_4 (List.mem_of_getElem? (i := 136) rfl), List.forall_mem_cons.mpr ⟨lwm_4 (List.mem_of_getElem? (i := 138) rfl), List.forall_mem_cons.mpr ⟨lwm_0 (List.mem_of_getElem? (i := 24) rfl), List.forall_mem_cons.mpr ⟨lwm_4 (List.mem_of_getElem? (i := 139) rfl), List.forall_mem_cons.mpr ⟨lwm_4 (List.mem_of_getElem? (i := 140) rfl), fun _ h => absurd h List.not_mem_nil⟩⟩⟩⟩⟩⟩⟩⟩⟩⟩⟩⟩⟩⟩⟩⟩⟩⟩⟩⟩⟩⟩⟩⟩
set_option maxRecDepth 100000 in
theorem wsin_16 : ∀ w ∈ wsL_law_r16, w ∈ lw_tbl := List.forall_mem_cons.mpr ⟨lwm_4 (List.mem_of_getElem? (i := 142) rfl), List.forall_mem_cons.mpr ⟨lwm_0 (List.mem_of_getElem? (i := 25) rfl), List.forall_mem_cons.mpr ⟨lwm_4 (List.mem_of_getElem? (i := 143) rfl), List.forall_mem_cons.mpr ⟨lwm_4 (List.mem_of_getElem? (i := 144) rfl), List.forall_mem_cons.mpr ⟨lwm_4 (List.mem_of_getElem? (i := 146) rfl), List.forall_mem_cons.mpr ⟨lwm_0 (List.mem_of_getElem? (i := 26) rfl), List.forall_mem_cons.mpr ⟨lwm_4 (List.mem_of_getElem? (i := 147) rfl), List.forall_mem_cons.mpr ⟨lwm_4 (List.mem_of_getElem? (i := 148) rfl), List.forall_mem_cons.mpr ⟨lwm_4 (List.mem_of_getElem? (i := 150) rfl), List.forall_mem_cons.mpr ⟨lwm_0 (List.mem_of_getElem? (i := 27) rfl), List.forall_mem_cons.mpr ⟨lwm_4 (List.mem_of_getElem? (i := 151) rfl), List.forall_mem_cons.mpr ⟨lwm_4 (List.mem_of_getElem? (i := 152) rfl), List.forall_mem_cons.mpr ⟨lwm_4 (List.mem_of_getElem? (i := 154) rfl), List.forall_mem_cons.mpr ⟨lwm_0 (List.mem_of_getElem? (i := 28) rfl), List.forall_mem_cons.mpr ⟨lwm_4 (List.mem_of_getElem? (i := 155) rfl), List.forall_mem_cons.mpr ⟨lwm_4 (List.mem_of_getElem? (i := 156) rfl), List.forall_mem_cons.mpr ⟨lwm_4 (List.mem_of_getElem? (i := 157) rfl), List.forall_mem_cons.mpr ⟨lwm_4 (List.mem_of_getElem? (i := 158) rfl), List.forall_mem_cons.mpr ⟨lwm_4 (List.mem_of_getElem? (i := 159) rfl), List.forall_mem_cons.mpr ⟨lwm_4 (List.mem_of_getElem? (i := 161) rfl), List.forall_mem_cons.mpr ⟨lwm_0 (List.mem_of_getElem? (i := 29) rfl), List.forall_mem_cons.mpr ⟨lwm_4 (List.mem_of_getElem? (i := 162) rfl), List.forall_mem_cons.mpr ⟨lwm_2 (List.mem_of_getElem? (i := 174) rfl), List.forall_mem_cons.mpr ⟨lwm_2 (List.mem_of_getElem? (i := 175) rfl), fun _ h => absurd h List.not_mem_nil⟩⟩⟩⟩⟩⟩⟩⟩⟩⟩⟩⟩⟩⟩⟩⟩⟩⟩⟩⟩⟩⟩⟩⟩
set_option maxRecDepth 100000 in
theorem wsin_17 : ∀ w ∈ wsL_law_r17, w ∈ lw_tbl := List.forall_mem_cons.mpr ⟨lwm_2 (List.mem_of_getElem? (i := 176) rfl), List.forall_mem_cons.mpr ⟨lwm_2 (List.mem_of_getElem? (i := 177) rfl), List.forall_mem_cons.mpr ⟨lwm_2 (List.mem_of_getElem? (i := 178) rfl), List.forall_mem_cons.mpr ⟨lwm_1 (List.mem_of_getElem? (i := 150) rfl), List.forall_mem_cons.mpr ⟨lwm_1 (List.mem_of_getElem? (i := 125) rfl), List.forall_mem_cons.mpr ⟨lwm_1 (List.mem_of_getElem? (i := 152) rfl), List.forall_mem_cons.mpr ⟨lwm_2 (List.mem_of_getElem? (i := 179) rfl), List.forall_mem_cons.mpr ⟨lwm_2 (List.mem_of_getElem? (i := 180) rfl), List.forall_mem_cons.mpr ⟨lwm_2 (List.mem_of_getElem? (i := 181) rfl), List.forall_mem_cons.mpr ⟨lwm_2 (List.mem_of_getElem? (i := 182) rfl), List.forall_mem_cons.mpr ⟨lwm_2 (List.mem_of_getElem? (i := 183) rfl), List.forall_mem_cons.mpr ⟨lwm_2 (List.mem_of_getElem? (i := 184) rfl), List.forall_mem_cons.mpr ⟨lwm_2 (List.mem_of_getElem? (i := 185) rfl), List.forall_mem_cons.mpr ⟨lwm_2 (List.mem_of_getElem? (i := 186) rfl), List.forall_mem_cons.mpr ⟨lwm_2 (List.mem_of_getElem? (i := 187) rfl), List.forall_mem_cons.mpr ⟨lwm_1 (List.mem_of_getElem? (i := 177) rfl), List.forall_mem_cons.mpr ⟨lwm_2 (List.mem_of_getElem? (i := 189) rfl), List.forall_mem_cons.mpr ⟨lwm_2 (List.mem_of_getElem? (i := 191) rfl), List.forall_mem_cons.mpr ⟨lwm_0 (List.mem_of_getElem? (i := 9) rfl), List.forall_mem_cons.mpr ⟨lwm_2 (List.mem_of_getElem? (i := 192) rfl), List.forall_mem_cons.mpr ⟨lwm_1 (List.mem_of_getElem? (i := 197) rfl), List.forall_mem_cons.mpr ⟨lwm_1 (List.mem_of_getElem? (i := 199) rfl), List.forall_mem_cons.mpr ⟨lwm_2 (List.mem_of_getElem? (i := 193) rfl), List.forall_mem_cons.mpr ⟨lwm_2 (List.mem_of_getElem? (i := 195) rfl), fun _ h => absurd h List.not_mem_nil⟩⟩⟩⟩⟩⟩⟩⟩⟩⟩⟩⟩⟩⟩⟩⟩⟩⟩⟩⟩⟩⟩⟩⟩
set_option maxRecDepth 100000 in
theorem wsin_18 : ∀ w ∈ wsL_law_r18, w ∈ lw_tbl := List.forall_mem_cons.mpr ⟨lwm_0 (List.mem_of_getElem? (i := 10) rfl), List.forall_mem_cons.mpr ⟨lwm_2 (List.mem_of_getElem? (i := 196) rfl), List.forall_mem_cons.mpr ⟨lwm_4 (List.mem_of_getElem? (i := 163) rfl), List.forall_mem_cons.mpr ⟨lwm_4 (List.mem_of_getElem? (i := 164) rfl), List.forall_mem_cons.mpr ⟨lwm_4 (List.mem_of_getElem? (i := 165) rfl), List.forall_mem_cons.mpr ⟨lwm_4 (List.mem_of_getElem? (i := 166) rfl), List.forall_mem_cons.mpr ⟨lwm_4 (List.mem_of_getElem? (i := 167) rfl), List.forall_mem_cons.mpr ⟨lwm_4 (List.mem_of_getElem? (i := 13) rfl), List.forall_mem_cons.mpr ⟨lwm_2 (List.mem_of_getElem? (i := 197) rfl), List.forall_mem_cons.mpr ⟨lwm_2 (List.mem_of_getElem? (i := 198) rfl), List.forall_mem_cons.mpr ⟨lwm_2 (List.mem_of_getElem? (i := 199) rfl), List.forall_mem_cons.mpr ⟨lwm_2 (List.mem_of_getElem? (i := 200) rfl), List.forall_mem_cons.mpr ⟨lwm_2 (List.mem_of_getElem? (i := 201) rfl), List.forall_mem_cons.mpr ⟨lwm_4 (List.mem_of_getElem? (i := 168) rfl), List.forall_mem_cons.mpr ⟨lwm_4 (List.mem_of_getElem? (i := 169) rfl), List.forall_mem_cons.mpr ⟨lwm_4 (List.mem_of_getElem? (i := 170) rfl), List.forall_mem_cons.mpr ⟨lwm_4 (List.mem_of_getElem? (i := 171) rfl), List.forall_mem_cons.mpr ⟨lwm_2 (List.mem_of_getElem? (i := 202) rfl), List.forall_mem_cons.mpr ⟨lwm_2 (List.mem_of_getElem? (i := 203) rfl), List.forall_mem_cons.mpr ⟨lwm_2 (List.mem_of_getElem? (i := 204) rfl), List.forall_mem_cons.mpr ⟨lwm_2 (List.mem_of_getElem? (i := 205) rfl), List.forall_mem_cons.mpr ⟨lwm_2 (List.mem_of_getElem? (i := 210) rfl), List.forall_mem_cons.mpr ⟨lwm_1 (List.mem_of_getElem? (i := 116) rfl), List.forall_mem_cons.mpr ⟨lwm_1 (List.mem_of_getElem? (i := 118) rfl), fun _ h => absurd h List.not_mem_nil⟩⟩⟩⟩⟩⟩⟩⟩⟩⟩⟩⟩⟩⟩⟩⟩⟩⟩⟩⟩⟩⟩⟩⟩
set_option maxRecDepth 100000 in
theorem wsin_19 : ∀ w ∈ wsL_law_r19, w ∈ lw_tbl := List.forall_mem_cons.mpr ⟨lwm_1 (List.mem_of_getElem? (i := 114) rfl), List.forall_mem_cons.mpr ⟨lwm_2 (List.mem_of_getElem? (i := 206) rfl), List.forall_mem_cons.mpr ⟨lwm_2 (List.mem_of_getElem? (i := 207) rfl), List.forall_mem_cons.mpr ⟨lwm_2 (List.mem_of_getElem? (i := 208) rfl), List.forall_mem_cons.mpr ⟨lwm_2 (List.mem_of_getElem? (i := 209) rfl), List.forall_mem_cons.mpr ⟨lwm_2 (List.mem_of_getElem? (i := 211) rfl), List.forall_mem_cons.mpr ⟨lwm_2 (List.mem_of_getElem? (i := 212) rfl), List.forall_mem_cons.mpr ⟨lwm_2 (List.mem_of_getElem? (i := 213) rfl), List.forall_mem_cons.mpr ⟨lwm_2 (List.mem_of_getElem? (i := 214) rfl), List.forall_mem_cons.mpr ⟨lwm_4 (List.mem_of_getElem? (i := 172) rfl), List.forall_mem_cons.mpr ⟨lwm_4 (List.mem_of_getElem? (i := 173) rfl), List.forall_mem_cons.mpr ⟨lwm_4 (List.mem_of_getElem? (i := 174) rfl), List.forall_mem_cons.mpr ⟨lwm_4 (List.mem_of_getElem? (i := 175) rfl), List.forall_mem_cons.mpr ⟨lwm_4 (List.mem_of_getElem? (i := 180) rfl), List.forall_mem_cons.mpr ⟨lwm_4 (List.mem_of_getElem? (i := 176) rfl), List.forall_mem_cons.mpr ⟨lwm_4 (List.mem_of_getElem? (i := 178) rfl), List.forall_mem_cons.mpr ⟨lwm_0 (List.mem_of_getElem? (i := 30) rfl), List.forall_mem_cons.mpr ⟨lwm_4 (List.mem_of_getElem? (i := 179) rfl), List.forall_mem_cons.mpr ⟨lwm_4 (List.mem_of_getElem? (i := 181) rfl), List.forall_mem_cons.mpr ⟨lwm_4 (List.mem_of_getElem? (i := 183) rfl), List.forall_mem_cons.mpr ⟨lwm_0 (List.mem_of_getElem? (i := 31) rfl), List.forall_mem_cons.mpr ⟨lwm_4 (List.mem_of_getElem? (i := 184) rfl), List.forall_mem_cons.mpr ⟨lwm_2 (List.mem_of_getElem? (i := 215) rfl), List.forall_mem_cons.mpr ⟨lwm_2 (List.mem_of_getElem? (i := 216) rfl), fun _ h => absurd h List.not_mem_nil⟩⟩⟩⟩⟩⟩⟩⟩⟩⟩⟩⟩⟩⟩⟩⟩⟩⟩⟩⟩⟩⟩⟩⟩
set_option maxRecDepth 100000 in
theorem wsin_20 : ∀ w ∈ wsL_law_r20, w ∈ lw_tbl := List.forall_mem_cons.mpr ⟨lwm_2 (List.mem_of_getElem? (i := 217) rfl), List.forall_mem_cons.mpr ⟨lwm_2 (List.mem_of_getElem? (i := 218) rfl), List.forall_mem_cons.mpr ⟨lwm_1 (List.mem_of_getElem? (i := 71) rfl), List.forall_mem_cons.mpr ⟨lwm_1 (List.mem_of_getElem? (i := 123) rfl), List.forall_mem_cons.mpr ⟨lwm_2 (List.mem_of_getElem? (i := 219) rfl), List.forall_mem_cons.mpr ⟨lwm_2 (List.mem_of_getElem? (i := 220) rfl), List.forall_mem_cons.mpr ⟨lwm_2 (List.mem_of_getElem? (i := 221) rfl), List.forall_mem_cons.mpr ⟨lwm_2 (List.mem_of_getElem? (i := 222) rfl), List.forall_mem_cons.mpr ⟨lwm_2 (List.mem_of_getElem? (i := 223) rfl), List.forall_mem_cons.mpr ⟨lwm_2 (List.mem_of_getElem? (i := 224) rfl), List.forall_mem_cons.mpr ⟨lwm_2 (List.mem_of_getElem? (i := 225) rfl), List.forall_mem_cons.mpr ⟨lwm_2 (List.mem_of_getElem? (i := 226) rfl), List.forall_mem_cons.mpr ⟨lwm_2 (List.mem_of_getElem? (i := 227) rfl), List.forall_mem_cons.mpr ⟨lwm_2 (List.mem_of_getElem? (i := 228) rfl), List.forall_mem_cons.mpr ⟨lwm_2 (List.mem_of_getElem? (i := 229) rfl), List.forall_mem_cons.mpr ⟨lwm_2 (List.mem_of_getElem? (i := 230) rfl), List.forall_mem_cons.mpr ⟨lwm_2 (List.mem_of_getElem? (i := 231) rfl), List.forall_mem_cons.mpr ⟨lwm_2 (List.mem_of_getElem? (i := 232) rfl), List.forall_mem_cons.mpr ⟨lwm_2 (List.mem_of_getElem? (i := 233) rfl), List.forall_mem_cons.mpr ⟨lwm_2 (List.mem_of_getElem? (i := 234) rfl), List.forall_mem_cons.mpr ⟨lwm_2 (List.mem_of_getElem? (i := 235) rfl), List.forall_mem_cons.mpr ⟨lwm_2 (List.mem_of_getElem? (i := 236) rfl), List.forall_mem_cons.mpr ⟨lwm_2 (List.mem_of_getElem? (i := 237) rfl), List.forall_mem_cons.mpr ⟨lwm_2 (List.mem_of_getElem? (i := 238) rfl), fun _ h => absurd h List.not_mem_nil⟩⟩⟩⟩⟩⟩⟩⟩⟩⟩⟩⟩⟩⟩⟩⟩⟩⟩⟩⟩⟩⟩⟩⟩
set_option maxRecDepth 100000 in
theorem wsin_21 : ∀ w ∈ wsL_law_r21, w ∈ lw_tbl := List.forall_mem_cons.mpr ⟨lwm_4 (List.mem_of_getElem? (i := 185) rfl), List.forall_mem_cons.mpr ⟨lwm_4 (List.mem_of_getElem? (i := 186) rfl), List.forall_mem_cons.mpr ⟨lwm_4 (List.mem_of_getElem? (i := 187) rfl), List.forall_mem_cons.mpr ⟨lwm_4 (List.mem_of_getElem? (i := 188) rfl), List.forall_mem_cons.mpr ⟨lwm_4 (List.mem_of_getElem? (i := 189) rfl), List.forall_mem_cons.mpr ⟨lwm_4 (List.mem_of_getElem? (i := 191) rfl), List.forall_mem_cons.mpr ⟨lwm_0 (List.mem_of_getElem? (i := 32) rfl), List.forall_mem_cons.mpr ⟨lwm_4 (List.mem_of_getElem? (i := 192) rfl), List.forall_mem_cons.mpr ⟨lwm_4 (List.mem_of_getElem? (i := 193) rfl), List.forall_mem_cons.mpr ⟨lwm_4 (List.mem_of_getElem? (i := 195) rfl), List.forall_mem_cons.mpr ⟨lwm_0 (List.mem_of_getElem? (i := 33) rfl), List.forall_mem_cons.mpr ⟨lwm_4 (List.mem_of_getElem? (i := 196) rfl), List.forall_mem_cons.mpr ⟨lwm_4 (List.mem_of_getElem? (i := 197) rfl), List.forall_mem_cons.mpr ⟨lwm_4 (List.mem_of_getElem? (i := 198) rfl), List.forall_mem_cons.mpr ⟨lwm_4 (List.mem_of_getElem? (i := 199) rfl), List.forall_mem_cons.mpr ⟨lwm_4 (List.mem_of_getElem? (i := 200) rfl), List.forall_mem_cons.mpr ⟨lwm_4 (List.mem_of_getElem? (i := 201) rfl), List.forall_mem_cons.mpr ⟨lwm_4 (List.mem_of_getElem? (i := 202) rfl), List.forall_mem_cons.mpr ⟨lwm_2 (List.mem_of_getElem? (i := 239) rfl), List.forall_mem_cons.mpr ⟨lwm_3 (List.mem_of_getElem? (i := 0) rfl), List.forall_mem_cons.mpr ⟨lwm_3 (List.mem_of_getElem? (i := 1) rfl), List.forall_mem_cons.mpr ⟨lwm_3 (List.mem_of_getElem? (i := 2) rfl), List.forall_mem_cons.mpr ⟨lwm_3 (List.mem_of_getElem? (i := 3) rfl), List.forall_mem_cons.mpr ⟨lwm_3 (List.mem_of_getElem? (i := 7) rfl), fun _ h => absurd h List.not_mem_nil⟩⟩⟩⟩⟩⟩⟩⟩⟩⟩⟩⟩⟩⟩⟩⟩⟩⟩⟩⟩⟩⟩⟩⟩
set_option maxRecDepth 100000 in
theorem wsin_22 : ∀ w ∈ wsL_law_r22, w ∈ lw_tbl := List.forall_mem_cons.mpr ⟨lwm_1 (List.mem_of_getElem? (i := 81) rfl), List.forall_mem_cons.mpr ⟨lwm_1 (List.mem_of_getElem? (i := 77) rfl), List.forall_mem_cons.mpr ⟨lwm_3 (List.mem_of_getElem? (i := 4) rfl), List.forall_mem_cons.mpr ⟨lwm_3 (List.mem_of_getElem? (i := 5) rfl), List.forall_mem_cons.mpr ⟨lwm_3 (List.mem_of_getElem? (i := 6) rfl), List.forall_mem_cons.mpr ⟨lwm_3 (List.mem_of_getElem? (i := 8) rfl), List.forall_mem_cons.mpr ⟨lwm_3 (List.mem_of_getElem? (i := 9) rfl), List.forall_mem_cons.mpr ⟨lwm_3 (List.mem_of_getElem? (i := 10) rfl), List.forall_mem_cons.mpr ⟨lwm_3 (List.mem_of_getElem? (i := 11) rfl), List.forall_mem_cons.mpr ⟨lwm_3 (List.mem_of_getElem? (i := 20) rfl), List.forall_mem_cons.mpr ⟨lwm_3 (List.mem_of_getElem? (i := 12) rfl), List.forall_mem_cons.mpr ⟨lwm_3 (List.mem_of_getElem? (i := 13) rfl), List.forall_mem_cons.mpr ⟨lwm_3 (List.mem_of_getElem? (i := 14) rfl), List.forall_mem_cons.mpr ⟨lwm_3 (List.mem_of_getElem? (i := 15) rfl), List.forall_mem_cons.mpr ⟨lwm_3 (List.mem_of_getElem? (i := 17) rfl), List.forall_mem_cons.mpr ⟨lwm_3 (List.mem_of_getElem? (i := 18) rfl), List.forall_mem_cons.mpr ⟨lwm_3 (List.mem_of_getElem? (i := 19) rfl), List.forall_mem_cons.mpr ⟨lwm_3 (List.mem_of_getElem? (i := 21) rfl), List.forall_mem_cons.mpr ⟨lwm_3 (List.mem_of_getElem? (i := 22) rfl), List.forall_mem_cons.mpr ⟨lwm_3 (List.mem_of_getElem? (i := 23) rfl), List.forall_mem_cons.mpr ⟨lwm_3 (List.mem_of_getElem? (i := 24) rfl), List.forall_mem_cons.mpr ⟨lwm_4 (List.mem_of_getElem? (i := 203) rfl), List.forall_mem_cons.mpr ⟨lwm_4 (List.mem_of_getElem? (i := 204) rfl), List.forall_mem_cons.mpr ⟨lwm_4 (List.mem_of_getElem? (i := 205) rfl), fun _ h => absurd h List.not_mem_nil⟩⟩⟩⟩⟩⟩⟩⟩⟩⟩⟩⟩⟩⟩⟩⟩⟩⟩⟩⟩⟩⟩⟩⟩
set_option maxRecDepth 100000 in
theorem wsin_23 : ∀ w ∈ wsL_law_r23, w ∈ lw_tbl := List.forall_mem_cons.mpr ⟨lwm_4 (List.mem_of_getElem? (i := 206) rfl), List.forall_mem_cons.mpr ⟨lwm_4 (List.mem_of_getElem? (i := 207) rfl), List.forall_mem_cons.mpr ⟨lwm_4 (List.mem_of_getElem? (i := 208) rfl), List.forall_mem_cons.mpr ⟨lwm_4 (List.mem_of_getElem? (i := 209) rfl), List.forall_mem_cons.mpr ⟨lwm_4 (List.mem_of_getElem? (i := 214) rfl), List.forall_mem_cons.mpr ⟨lwm_4 (List.mem_of_getElem? (i := 210) rfl), List.forall_mem_cons.mpr ⟨lwm_4 (List.mem_of_getElem? (i := 212) rfl), List.forall_mem_cons.mpr ⟨lwm_0 (List.mem_of_getElem? (i := 34) rfl), List.forall_mem_cons.mpr ⟨lwm_4 (List.mem_of_getElem? (i := 213) rfl), List.forall_mem_cons.mpr ⟨lwm_3 (List.mem_of_getElem? (i := 25) rfl), List.forall_mem_cons.mpr ⟨lwm_3 (List.mem_of_getElem? (i := 26) rfl), List.forall_mem_cons.mpr ⟨lwm_3 (List.mem_of_getElem? (i := 27) rfl), List.forall_mem_cons.mpr ⟨lwm_3 (List.mem_of_getElem? (i := 28) rfl), List.forall_mem_cons.mpr ⟨lwm_1 (List.mem_of_getElem? (i := 121) rfl), List.forall_mem_cons.mpr ⟨lwm_3 (List.mem_of_getElem? (i := 29) rfl), List.forall_mem_cons.mpr ⟨lwm_3 (List.mem_of_getElem? (i := 30) rfl), List.forall_mem_cons.mpr ⟨lwm_3 (List.mem_of_getElem? (i := 31) rfl), List.forall_mem_cons.mpr ⟨lwm_3 (List.mem_of_getElem? (i := 32) rfl), List.forall_mem_cons.mpr ⟨lwm_1 (List.mem_of_getElem? (i := 176) rfl), List.forall_mem_cons.mpr ⟨lwm_3 (List.mem_of_getElem? (i := 37) rfl), List.forall_mem_cons.mpr ⟨lwm_3 (List.mem_of_getElem? (i := 33) rfl), List.forall_mem_cons.mpr ⟨lwm_3 (List.mem_of_getElem? (i := 34) rfl), List.forall_mem_cons.mpr ⟨lwm_3 (List.mem_of_getElem? (i := 35) rfl), List.forall_mem_cons.mpr ⟨lwm_3 (List.mem_of_getElem? (i := 36) rfl), fun _ h => absurd h List.not_mem_nil⟩⟩⟩⟩⟩⟩⟩⟩⟩⟩⟩⟩⟩⟩⟩⟩⟩⟩⟩⟩⟩⟩⟩⟩
set_option maxRecDepth 100000 in
theorem wsin_24 : ∀ w ∈ wsL_law_r24, w ∈ lw_tbl := List.forall_mem_cons.mpr ⟨lwm_3 (List.mem_of_getElem? (i := 38) rfl), List.forall_mem_cons.mpr ⟨lwm_3 (List.mem_of_getElem? (i := 39) rfl), List.forall_mem_cons.mpr ⟨lwm_3 (List.mem_of_getElem? (i := 40) rfl), List.forall_mem_cons.mpr ⟨lwm_3 (List.mem_of_getElem? (i := 41) rfl), List.forall_mem_cons.mpr ⟨lwm_1 (List.mem_of_getElem? (i := 86) rfl), List.forall_mem_cons.mpr ⟨lwm_1 (List.mem_of_getElem? (i := 89) rfl), List.forall_mem_cons.mpr ⟨lwm_1 (List.mem_of_getElem? (i := 92) rfl), List.forall_mem_cons.mpr ⟨lwm_3 (List.mem_of_getElem? (i := 42) rfl), List.forall_mem_cons.mpr ⟨lwm_3 (List.mem_of_getElem? (i := 43) rfl), List.forall_mem_cons.mpr ⟨lwm_3 (List.mem_of_getElem? (i := 44) rfl), List.forall_mem_cons.mpr ⟨lwm_3 (List.mem_of_getElem? (i := 45) rfl), List.forall_mem_cons.mpr ⟨lwm_3 (List.mem_of_getElem? (i := 46) rfl), List.forall_mem_cons.mpr ⟨lwm_3 (List.mem_of_getElem? (i := 48) rfl), List.forall_mem_cons.mpr ⟨lwm_0 (List.mem_of_getElem? (i := 11) rfl), List.forall_mem_cons.mpr ⟨lwm_3 (List.mem_of_getElem? (i := 49) rfl), List.forall_mem_cons.mpr ⟨lwm_3 (List.mem_of_getElem? (i := 50) rfl), List.forall_mem_cons.mpr ⟨lwm_3 (List.mem_of_getElem? (i := 51) rfl), List.forall_mem_cons.mpr ⟨lwm_3 (List.mem_of_getElem? (i := 52) rfl), List.forall_mem_cons.mpr ⟨lwm_3 (List.mem_of_getElem? (i := 54) rfl), List.forall_mem_cons.mpr ⟨lwm_0 (List.mem_of_getElem? (i := 12) rfl), List.forall_mem_cons.mpr ⟨lwm_3 (List.mem_of_getElem? (i := 55) rfl), List.forall_mem_cons.mpr ⟨lwm_3 (List.mem_of_getElem? (i := 56) rfl), List.forall_mem_cons.mpr ⟨lwm_3 (List.mem_of_getElem? (i := 58) rfl), List.forall_mem_cons.mpr ⟨lwm_0 (List.mem_of_getElem? (i := 13) rfl), fun _ h => absurd h List.not_mem_nil⟩⟩⟩⟩⟩⟩⟩⟩⟩⟩⟩⟩⟩⟩⟩⟩⟩⟩⟩⟩⟩⟩⟩⟩
set_option maxRecDepth 100000 in
theorem wsin_25 : ∀ w ∈ wsL_law_r25, w ∈ lw_tbl := List.forall_mem_cons.mpr ⟨lwm_3 (List.mem_of_getElem? (i := 59) rfl), List.forall_mem_cons.mpr ⟨lwm_3 (List.mem_of_getElem? (i := 60) rfl), List.forall_mem_cons.mpr ⟨lwm_3 (List.mem_of_getElem? (i := 62) rfl), List.forall_mem_cons.mpr ⟨lwm_0 (List.mem_of_getElem? (i := 14) rfl), List.forall_mem_cons.mpr ⟨lwm_3 (List.mem_of_getElem? (i := 63) rfl), List.forall_mem_cons.mpr ⟨lwm_3 (List.mem_of_getElem? (i := 65) rfl), List.forall_mem_cons.mpr ⟨lwm_3 (List.mem_of_getElem? (i := 67) rfl), List.forall_mem_cons.mpr ⟨lwm_0 (List.mem_of_getElem? (i := 15) rfl), List.forall_mem_cons.mpr ⟨lwm_3 (List.mem_of_getElem? (i := 68) rfl), List.forall_mem_cons.mpr ⟨lwm_3 (List.mem_of_getElem? (i := 70) rfl), List.forall_mem_cons.mpr ⟨lwm_3 (List.mem_of_getElem? (i := 71) rfl), List.forall_mem_cons.mpr ⟨lwm_4 (List.mem_of_getElem? (i := 215) rfl), List.forall_mem_cons.mpr ⟨lwm_4 (List.mem_of_getElem? (i := 216) rfl), List.forall_mem_cons.mpr ⟨lwm_4 (List.mem_of_getElem? (i := 217) rfl), List.forall_mem_cons.mpr ⟨lwm_4 (List.mem_of_getElem? (i := 218) rfl), List.forall_mem_cons.mpr ⟨lwm_4 (List.mem_of_getElem? (i := 219) rfl), List.forall_mem_cons.mpr ⟨lwm_4 (List.mem_of_getElem? (i := 220) rfl), List.forall_mem_cons.mpr ⟨lwm_4 (List.mem_of_getElem? (i := 222) rfl), List.forall_mem_cons.mpr ⟨lwm_0 (List.mem_of_getElem? (i := 35) rfl), List.forall_mem_cons.mpr ⟨lwm_4 (List.mem_of_getElem? (i := 223) rfl), List.forall_mem_cons.mpr ⟨lwm_4 (List.mem_of_getElem? (i := 224) rfl), List.forall_mem_cons.mpr ⟨lwm_4 (List.mem_of_getElem? (i := 226) rfl), List.forall_mem_cons.mpr ⟨lwm_0 (List.mem_of_getElem? (i := 36) rfl), List.forall_mem_cons.mpr ⟨lwm_4 (List.mem_of_getElem? (i := 227) rfl), fun _ h => absurd h List.not_mem_nil⟩⟩⟩⟩⟩⟩⟩⟩⟩⟩⟩⟩⟩⟩⟩⟩⟩⟩⟩⟩⟩⟩⟩⟩
set_option maxRecDepth 100000 in
theorem wsin_26 : ∀ w ∈ wsL_law_r26, w ∈ lw_tbl := List.forall_mem_cons.mpr ⟨lwm_4 (List.mem_of_getElem? (i := 228) rfl), List.forall_mem_cons.mpr ⟨lwm_4 (List.mem_of_getElem? (i := 230) rfl), List.forall_mem_cons.mpr ⟨lwm_0 (List.mem_of_getElem? (i := 37) rfl), List.forall_mem_cons.mpr ⟨lwm_4 (List.mem_of_getElem? (i := 231) rfl), List.forall_mem_cons.mpr ⟨lwm_4 (List.mem_of_getElem? (i := 236) rfl), List.forall_mem_cons.mpr ⟨lwm_4 (List.mem_of_getElem? (i := 232) rfl), List.forall_mem_cons.mpr ⟨lwm_4 (List.mem_of_getElem? (i := 234) rfl), List.forall_mem_cons.mpr ⟨lwm_0 (List.mem_of_getElem? (i := 38) rfl), List.forall_mem_cons.mpr ⟨lwm_4 (List.mem_of_getElem? (i := 235) rfl), List.forall_mem_cons.mpr ⟨lwm_3 (List.mem_of_getElem? (i := 72) rfl), List.forall_mem_cons.mpr ⟨lwm_3 (List.mem_of_getElem? (i := 73) rfl), List.forall_mem_cons.mpr ⟨lwm_3 (List.mem_of_getElem? (i := 74) rfl), List.forall_mem_cons.mpr ⟨lwm_3 (List.mem_of_getElem? (i := 75) rfl), List.forall_mem_cons.mpr ⟨lwm_3 (List.mem_of_getElem? (i := 76) rfl), List.forall_mem_cons.mpr ⟨lwm_3 (List.mem_of_getElem? (i := 77) rfl), List.forall_mem_cons.mpr ⟨lwm_4 (List.mem_of_getElem? (i := 237) rfl), List.forall_mem_cons.mpr ⟨lwm_4 (List.mem_of_getElem? (i := 238) rfl), List.forall_mem_cons.mpr ⟨lwm_4 (List.mem_of_getElem? (i := 239) rfl), List.forall_mem_cons.mpr ⟨lwm_5 (List.mem_of_getElem? (i := 0) rfl), List.forall_mem_cons.mpr ⟨lwm_5 (List.mem_of_getElem? (i := 1) rfl), List.forall_mem_cons.mpr ⟨lwm_5 (List.mem_of_getElem? (i := 2) rfl), List.forall_mem_cons.mpr ⟨lwm_3 (List.mem_of_getElem? (i := 78) rfl), List.forall_mem_cons.mpr ⟨lwm_3 (List.mem_of_getElem? (i := 79) rfl), List.forall_mem_cons.mpr ⟨lwm_3 (List.mem_of_getElem? (i := 80) rfl), fun _ h => absurd h List.not_mem_nil⟩⟩⟩⟩⟩⟩⟩⟩⟩⟩⟩⟩⟩⟩⟩⟩⟩⟩⟩⟩⟩⟩⟩⟩
set_option maxRecDepth 100000 in
theorem wsin_27 : ∀ w ∈ wsL_law_r27, w ∈ lw_tbl := List.forall_mem_cons.mpr ⟨lwm_3 (List.mem_of_getElem? (i := 81) rfl), List.forall_mem_cons.mpr ⟨lwm_3 (List.mem_of_getElem? (i := 82) rfl), List.forall_mem_cons.mpr ⟨lwm_3 (List.mem_of_getElem? (i := 83) rfl), List.forall_mem_cons.mpr ⟨lwm_3 (List.mem_of_getElem? (i := 84) rfl), List.forall_mem_cons.mpr ⟨lwm_5 (List.mem_of_getElem? (i := 3) rfl), List.forall_mem_cons.mpr ⟨lwm_5 (List.mem_of_getElem? (i := 4) rfl), List.forall_mem_cons.mpr ⟨lwm_5 (List.mem_of_getElem? (i := 5) rfl), List.forall_mem_cons.mpr ⟨lwm_5 (List.mem_of_getElem? (i := 6) rfl), List.forall_mem_cons.mpr ⟨lwm_5 (List.mem_of_getElem? (i := 7) rfl), List.forall_mem_cons.mpr ⟨lwm_3 (List.mem_of_getElem? (i := 85) rfl), List.forall_mem_cons.mpr ⟨lwm_3 (List.mem_of_getElem? (i := 86) rfl), List.forall_mem_cons.mpr ⟨lwm_3 (List.mem_of_getElem? (i := 87) rfl), List.forall_mem_cons.mpr ⟨lwm_3 (List.mem_of_getElem? (i := 88) rfl), List.forall_mem_cons.mpr ⟨lwm_1 (List.mem_of_getElem? (i := 84) rfl), List.forall_mem_cons.mpr ⟨lwm_3 (List.mem_of_getElem? (i := 89) rfl), List.forall_mem_cons.mpr ⟨lwm_3 (List.mem_of_getElem? (i := 90) rfl), List.forall_mem_cons.mpr ⟨lwm_3 (List.mem_of_getElem? (i := 91) rfl), List.forall_mem_cons.mpr ⟨lwm_3 (List.mem_of_getElem? (i := 92) rfl), List.forall_mem_cons.mpr ⟨lwm_3 (List.mem_of_getElem? (i := 93) rfl), List.forall_mem_cons.mpr ⟨lwm_3 (List.mem_of_getElem? (i := 94) rfl), List.forall_mem_cons.mpr ⟨lwm_3 (List.mem_of_getElem? (i := 95) rfl), List.forall_mem_cons.mpr ⟨lwm_5 (List.mem_of_getElem? (i := 8) rfl), List.forall_mem_cons.mpr ⟨lwm_5 (List.mem_of_getElem? (i := 9) rfl), List.forall_mem_cons.mpr ⟨lwm_5 (List.mem_of_getElem? (i := 10) rfl), fun _ h => absurd h List.not_mem_nil⟩⟩⟩⟩⟩⟩⟩⟩⟩⟩⟩⟩⟩⟩⟩⟩⟩⟩⟩⟩⟩⟩⟩⟩
set_option maxRecDepth 100000 in
theorem wsin_28 : ∀ w ∈ wsL_law_r28, w ∈ lw_tbl := List.forall_mem_cons.mpr ⟨lwm_5 (List.mem_of_getElem? (i := 11) rfl), List.forall_mem_cons.mpr ⟨lwm_5 (List.mem_of_getElem? (i := 12) rfl), List.forall_mem_cons.mpr ⟨lwm_5 (List.mem_of_getElem? (i := 14) rfl), List.forall_mem_cons.mpr ⟨lwm_0 (List.mem_of_getElem? (i := 39) rfl), List.forall_mem_cons.mpr ⟨lwm_5 (List.mem_of_getElem? (i := 15) rfl), List.forall_mem_cons.mpr ⟨lwm_5 (List.mem_of_getElem? (i := 16) rfl), List.forall_mem_cons.mpr ⟨lwm_5 (List.mem_of_getElem? (i := 18) rfl), List.forall_mem_cons.mpr ⟨lwm_0 (List.mem_of_getElem? (i := 40) rfl), List.forall_mem_cons.mpr ⟨lwm_5 (List.mem_of_getElem? (i := 19) rfl), List.forall_mem_cons.mpr ⟨lwm_3 (List.mem_of_getElem? (i := 96) rfl), List.forall_mem_cons.mpr ⟨lwm_3 (List.mem_of_getElem? (i := 97) rfl), List.forall_mem_cons.mpr ⟨lwm_3 (List.mem_of_getElem? (i := 98) rfl), List.forall_mem_cons.mpr ⟨lwm_3 (List.mem_of_getElem? (i := 99) rfl), List.forall_mem_cons.mpr ⟨lwm_1 (List.mem_of_getElem? (i := 178) rfl), List.forall_mem_cons.mpr ⟨lwm_3 (List.mem_of_getElem? (i := 100) rfl), List.forall_mem_cons.mpr ⟨lwm_3 (List.mem_of_getElem? (i := 101) rfl), List.forall_mem_cons.mpr ⟨lwm_3 (List.mem_of_getElem? (i := 102) rfl), List.forall_mem_cons.mpr ⟨lwm_3 (List.mem_of_getElem? (i := 103) rfl), List.forall_mem_cons.mpr ⟨lwm_5 (List.mem_of_getElem? (i := 20) rfl), List.forall_mem_cons.mpr ⟨lwm_5 (List.mem_of_getElem? (i := 21) rfl), List.forall_mem_cons.mpr ⟨lwm_5 (List.mem_of_getElem? (i := 22) rfl), List.forall_mem_cons.mpr ⟨lwm_5 (List.mem_of_getElem? (i := 23) rfl), List.forall_mem_cons.mpr ⟨lwm_3 (List.mem_of_getElem? (i := 104) rfl), List.forall_mem_cons.mpr ⟨lwm_3 (List.mem_of_getElem? (i := 105) rfl), fun _ h => absurd h List.not_mem_nil⟩⟩⟩⟩⟩⟩⟩⟩⟩⟩⟩⟩⟩⟩⟩⟩⟩⟩⟩⟩⟩⟩⟩⟩
set_option maxRecDepth 100000 in
theorem wsin_29 : ∀ w ∈ wsL_law_r29, w ∈ lw_tbl := List.forall_mem_cons.mpr ⟨lwm_3 (List.mem_of_getElem? (i := 106) rfl), List.forall_mem_cons.mpr ⟨lwm_3 (List.mem_of_getElem? (i := 107) rfl), List.forall_mem_cons.mpr ⟨lwm_3 (List.mem_of_getElem? (i := 108) rfl), List.forall_mem_cons.mpr ⟨lwm_3 (List.mem_of_getElem? (i := 109) rfl), List.forall_mem_cons.mpr ⟨lwm_3 (List.mem_of_getElem? (i := 110) rfl), List.forall_mem_cons.mpr ⟨lwm_3 (List.mem_of_getElem? (i := 111) rfl), List.forall_mem_cons.mpr ⟨lwm_3 (List.mem_of_getElem? (i := 112) rfl), List.forall_mem_cons.mpr ⟨lwm_3 (List.mem_of_getElem? (i := 113) rfl), List.forall_mem_cons.mpr ⟨lwm_3 (List.mem_of_getElem? (i := 114) rfl), List.forall_mem_cons.mpr ⟨lwm_3 (List.mem_of_getElem? (i := 115) rfl), List.forall_mem_cons.mpr ⟨lwm_3 (List.mem_of_getElem? (i := 117) rfl), List.forall_mem_cons.mpr ⟨lwm_3 (List.mem_of_getElem? (i := 118) rfl), List.forall_mem_cons.mpr ⟨lwm_5 (List.mem_of_getElem? (i := 24) rfl), List.forall_mem_cons.mpr ⟨lwm_5 (List.mem_of_getElem? (i := 25) rfl), List.forall_mem_cons.mpr ⟨lwm_5 (List.mem_of_getElem? (i := 26) rfl), List.forall_mem_cons.mpr ⟨lwm_5 (List.mem_of_getElem? (i := 27) rfl), List.forall_mem_cons.mpr ⟨lwm_5 (List.mem_of_getElem? (i := 28) rfl), List.forall_mem_cons.mpr ⟨lwm_5 (List.mem_of_getElem? (i := 30) rfl), List.forall_mem_cons.mpr ⟨lwm_0 (List.mem_of_getElem? (i := 41) rfl), List.forall_mem_cons.mpr ⟨lwm_5 (List.mem_of_getElem? (i := 31) rfl), List.forall_mem_cons.mpr ⟨lwm_3 (List.mem_of_getElem? (i := 119) rfl), List.forall_mem_cons.mpr ⟨lwm_3 (List.mem_of_getElem? (i := 120) rfl), List.forall_mem_cons.mpr ⟨lwm_3 (List.mem_of_getElem? (i := 121) rfl), List.forall_mem_cons.mpr ⟨lwm_3 (List.mem_of_getElem? (i := 122) rfl), fun _ h => absurd h List.not_mem_nil⟩⟩⟩⟩⟩⟩⟩⟩⟩⟩⟩⟩⟩⟩⟩⟩⟩⟩⟩⟩⟩⟩⟩⟩
set_option maxRecDepth 100000 in
theorem wsin_30 : ∀ w ∈ wsL_law_r30, w ∈ lw_tbl := List.forall_mem_cons.mpr ⟨lwm_3 (List.mem_of_getElem? (i := 123) rfl), List.forall_mem_cons.mpr ⟨lwm_3 (List.mem_of_getElem? (i := 124) rfl), List.forall_mem_cons.mpr ⟨lwm_3 (List.mem_of_getElem? (i := 125) rfl), List.forall_mem_cons.mpr ⟨lwm_3 (List.mem_of_getElem? (i := 126) rfl), List.forall_mem_cons.mpr ⟨lwm_3 (List.mem_of_getElem? (i := 128) rfl), List.forall_mem_cons.mpr ⟨lwm_3 (List.mem_of_getElem? (i := 129) rfl), List.forall_mem_cons.mpr ⟨lwm_3 (List.mem_of_getElem? (i := 130) rfl), List.forall_mem_cons.mpr ⟨lwm_3 (List.mem_of_getElem? (i := 131) rfl), List.forall_mem_cons.mpr ⟨lwm_5 (List.mem_of_getElem? (i := 32) rfl), List.forall_mem_cons.mpr ⟨lwm_5 (List.mem_of_getElem? (i := 33) rfl), List.forall_mem_cons.mpr ⟨lwm_5 (List.mem_of_getElem? (i := 34) rfl), List.forall_mem_cons.mpr ⟨lwm_5 (List.mem_of_getElem? (i := 35) rfl), List.forall_mem_cons.mpr ⟨lwm_3 (List.mem_of_getElem? (i := 132) rfl), List.forall_mem_cons.mpr ⟨lwm_3 (List.mem_of_getElem? (i := 133) rfl), List.forall_mem_cons.mpr ⟨lwm_3 (List.mem_of_getElem? (i := 134) rfl), List.forall_mem_cons.mpr ⟨lwm_3 (List.mem_of_getElem? (i := 135) rfl), List.forall_mem_cons.mpr ⟨lwm_3 (List.mem_of_getElem? (i := 136) rfl), List.forall_mem_cons.mpr ⟨lwm_5 (List.mem_of_getElem? (i := 36) rfl), List.forall_mem_cons.mpr ⟨lwm_5 (List.mem_of_getElem? (i := 37) rfl), List.forall_mem_cons.mpr ⟨lwm_5 (List.mem_of_getElem? (i := 38) rfl), List.forall_mem_cons.mpr ⟨lwm_5 (List.mem_of_getElem? (i := 39) rfl), List.forall_mem_cons.mpr ⟨lwm_3 (List.mem_of_getElem? (i := 137) rfl), List.forall_mem_cons.mpr ⟨lwm_3 (List.mem_of_getElem? (i := 138) rfl), List.forall_mem_cons.mpr ⟨lwm_3 (List.mem_of_getElem? (i := 139) rfl), fun _ h => absurd h List.not_mem_nil⟩⟩⟩⟩⟩⟩⟩⟩⟩⟩⟩⟩⟩⟩⟩⟩⟩⟩⟩⟩⟩⟩⟩⟩
set_option maxRecDepth 100000 in
theorem wsin_31 : ∀ w ∈ wsL_law_r31, w ∈ lw_tbl := List.forall_mem_cons.mpr ⟨lwm_3 (List.mem_of_getElem? (i := 140) rfl), List.forall_mem_cons.mpr ⟨lwm_3 (List.mem_of_getElem? (i := 141) rfl), List.forall_mem_cons.mpr ⟨lwm_5 (List.mem_of_getElem? (i := 40) rfl), List.forall_mem_cons.mpr ⟨lwm_5 (List.mem_of_getElem? (i := 41) rfl), List.forall_mem_cons.mpr ⟨lwm_5 (List.mem_of_getElem? (i := 42) rfl), List.forall_mem_cons.mpr ⟨lwm_5 (List.mem_of_getElem? (i := 43) rfl), List.forall_mem_cons.mpr ⟨lwm_3 (List.mem_of_getElem? (i := 142) rfl), List.forall_mem_cons.mpr ⟨lwm_3 (List.mem_of_getElem? (i := 143) rfl), List.forall_mem_cons.mpr ⟨lwm_3 (List.mem_of_getElem? (i := 144) rfl), List.forall_mem_cons.mpr ⟨lwm_3 (List.mem_of_getElem? (i := 145) rfl), List.forall_mem_cons.mpr ⟨lwm_3 (List.mem_of_getElem? (i := 146) rfl), List.forall_mem_cons.mpr ⟨lwm_5 (List.mem_of_getElem? (i := 44) rfl), List.forall_mem_cons.mpr ⟨lwm_5 (List.mem_of_getElem? (i := 45) rfl), List.forall_mem_cons.mpr ⟨lwm_5 (List.mem_of_getElem? (i := 46) rfl), List.forall_mem_cons.mpr ⟨lwm_5 (List.mem_of_getElem? (i := 47) rfl), List.forall_mem_cons.mpr ⟨lwm_5 (List.mem_of_getElem? (i := 52) rfl), List.forall_mem_cons.mpr ⟨lwm_5 (List.mem_of_getElem? (i := 48) rfl), List.forall_mem_cons.mpr ⟨lwm_5 (List.mem_of_getElem? (i := 50) rfl), List.forall_mem_cons.mpr ⟨lwm_0 (List.mem_of_getElem? (i := 42) rfl), List.forall_mem_cons.mpr ⟨lwm_5 (List.mem_of_getElem? (i := 51) rfl), List.forall_mem_cons.mpr ⟨lwm_3 (List.mem_of_getElem? (i := 147) rfl), List.forall_mem_cons.mpr ⟨lwm_3 (List.mem_of_getElem? (i := 148) rfl), List.forall_mem_cons.mpr ⟨lwm_3 (List.mem_of_getElem? (i := 149) rfl), List.forall_mem_cons.mpr ⟨lwm_3 (List.mem_of_getElem? (i := 150) rfl), fun _ h => absurd h List.not_mem_nil⟩⟩⟩⟩⟩⟩⟩⟩⟩⟩⟩⟩⟩⟩⟩⟩⟩⟩⟩⟩⟩⟩⟩⟩
set_option maxRecDepth 100000 in
theorem wsin_32 : ∀ w ∈ wsL_law_r32, w ∈ lw_tbl := List.forall_mem_cons.mpr ⟨lwm_3 (List.mem_of_getElem? (i := 151) rfl), List.forall_mem_cons.mpr ⟨lwm_3 (List.mem_of_getElem? (i := 152) rfl), List.forall_mem_cons.mpr ⟨lwm_3 (List.mem_of_getElem? (i := 153) rfl), List.forall_mem_cons.mpr ⟨lwm_5 (List.mem_of_getElem? (i := 53) rfl), List.forall_mem_cons.mpr ⟨lwm_5 (List.mem_of_getElem? (i := 54) rfl), List.forall_mem_cons.mpr ⟨lwm_5 (List.mem_of_getElem? (i := 55) rfl), List.forall_mem_cons.mpr ⟨lwm_5 (List.mem_of_getElem? (i := 56) rfl), List.forall_mem_cons.mpr ⟨lwm_3 (List.mem_of_getElem? (i := 154) rfl), List.forall_mem_cons.mpr ⟨lwm_3 (List.mem_of_getElem? (i := 155) rfl), List.forall_mem_cons.mpr ⟨lwm_3 (List.mem_of_getElem? (i := 156) rfl), List.forall_mem_cons.mpr ⟨lwm_3 (List.mem_of_getElem? (i := 157) rfl), List.forall_mem_cons.mpr ⟨lwm_5 (List.mem_of_getElem? (i := 57) rfl), List.forall_mem_cons.mpr ⟨lwm_5 (List.mem_of_getElem? (i := 58) rfl), List.forall_mem_cons.mpr ⟨lwm_5 (List.mem_of_getElem? (i := 59) rfl), List.forall_mem_cons.mpr ⟨lwm_5 (List.mem_of_getElem? (i := 60) rfl), List.forall_mem_cons.mpr ⟨lwm_3 (List.mem_of_getElem? (i := 158) rfl), List.forall_mem_cons.mpr ⟨lwm_3 (List.mem_of_getElem? (i := 159) rfl), List.forall_mem_cons.mpr ⟨lwm_3 (List.mem_of_getElem? (i := 160) rfl), List.forall_mem_cons.mpr ⟨lwm_3 (List.mem_of_getElem? (i := 161) rfl), List.forall_mem_cons.mpr ⟨lwm_5 (List.mem_of_getElem? (i := 61) rfl), List.forall_mem_cons.mpr ⟨lwm_5 (List.mem_of_getElem? (i := 62) rfl), List.forall_mem_cons.mpr ⟨lwm_5 (List.mem_of_getElem? (i := 63) rfl), List.forall_mem_cons.mpr ⟨lwm_5 (List.mem_of_getElem? (i := 64) rfl), List.forall_mem_cons.mpr ⟨lwm_5 (List.mem_of_getElem? (i := 65) rfl), fun _ h => absurd h List.not_mem_nil⟩⟩⟩⟩⟩⟩⟩⟩⟩⟩⟩⟩⟩⟩⟩⟩⟩⟩⟩⟩⟩⟩⟩⟩
set_option maxRecDepth 100000 in
theorem wsin_33 : ∀ w ∈ wsL_law_r33, w ∈ lw_tbl := List.forall_mem_cons.mpr ⟨lwm_5 (List.mem_of_getElem? (i := 66) rfl), List.forall_mem_cons.mpr ⟨lwm_5 (List.mem_of_getElem? (i := 67) rfl), List.forall_mem_cons.mpr ⟨lwm_3 (List.mem_of_getElem? (i := 162) rfl), List.forall_mem_cons.mpr ⟨lwm_3 (List.mem_of_getElem? (i := 163) rfl), List.forall_mem_cons.mpr ⟨lwm_3 (List.mem_of_getElem? (i := 164) rfl), List.forall_mem_cons.mpr ⟨lwm_3 (List.mem_of_getElem? (i := 165) rfl), List.forall_mem_cons.mpr ⟨lwm_3 (List.mem_of_getElem? (i := 169) rfl), List.forall_mem_cons.mpr ⟨lwm_3 (List.mem_of_getElem? (i := 175) rfl), List.forall_mem_cons.mpr ⟨lwm_1 (List.mem_of_getElem? (i := 204) rfl), List.forall_mem_cons.mpr ⟨lwm_3 (List.mem_of_getElem? (i := 166) rfl), List.forall_mem_cons.mpr ⟨lwm_3 (List.mem_of_getElem? (i := 167) rfl), List.forall_mem_cons.mpr ⟨lwm_3 (List.mem_of_getElem? (i := 168) rfl), List.forall_mem_cons.mpr ⟨lwm_3 (List.mem_of_getElem? (i := 170) rfl), List.forall_mem_cons.mpr ⟨lwm_3 (List.mem_of_getElem? (i := 171) rfl), List.forall_mem_cons.mpr ⟨lwm_3 (List.mem_of_getElem? (i := 172) rfl), List.forall_mem_cons.mpr ⟨lwm_3 (List.mem_of_getElem? (i := 173) rfl), List.forall_mem_cons.mpr ⟨lwm_1 (List.mem_of_getElem? (i := 198) rfl), List.forall_mem_cons.mpr ⟨lwm_3 (List.mem_of_getElem? (i := 176) rfl), List.forall_mem_cons.mpr ⟨lwm_3 (List.mem_of_getElem? (i := 177) rfl), List.forall_mem_cons.mpr ⟨lwm_3 (List.mem_of_getElem? (i := 178) rfl), List.forall_mem_cons.mpr ⟨lwm_3 (List.mem_of_getElem? (i := 179) rfl), List.forall_mem_cons.mpr ⟨lwm_5 (List.mem_of_getElem? (i := 68) rfl), List.forall_mem_cons.mpr ⟨lwm_5 (List.mem_of_getElem? (i := 69) rfl), List.forall_mem_cons.mpr ⟨lwm_5 (List.mem_of_getElem? (i := 70) rfl), fun _ h => absurd h List.not_mem_nil⟩⟩⟩⟩⟩⟩⟩⟩⟩⟩⟩⟩⟩⟩⟩⟩⟩⟩⟩⟩⟩⟩⟩⟩
set_option maxRecDepth 100000 in
theorem wsin_34 : ∀ w ∈ wsL_law_r34, w ∈ lw_tbl := List.forall_mem_cons.mpr ⟨lwm_5 (List.mem_of_getElem? (i := 71) rfl), List.forall_mem_cons.mpr ⟨lwm_5 (List.mem_of_getElem? (i := 78) rfl), List.forall_mem_cons.mpr ⟨lwm_5 (List.mem_of_getElem? (i := 79) rfl), List.forall_mem_cons.mpr ⟨lwm_5 (List.mem_of_getElem? (i := 84) rfl), List.forall_mem_cons.mpr ⟨lwm_5 (List.mem_of_getElem? (i := 72) rfl), List.forall_mem_cons.mpr ⟨lwm_5 (List.mem_of_getElem? (i := 73) rfl), List.forall_mem_cons.mpr ⟨lwm_5 (List.mem_of_getElem? (i := 74) rfl), List.forall_mem_cons.mpr ⟨lwm_5 (List.mem_of_getElem? (i := 75) rfl), List.forall_mem_cons.mpr ⟨lwm_5 (List.mem_of_getElem? (i := 76) rfl), List.forall_mem_cons.mpr ⟨lwm_5 (List.mem_of_getElem? (i := 77) rfl), List.forall_mem_cons.mpr ⟨lwm_5 (List.mem_of_getElem? (i := 80) rfl), List.forall_mem_cons.mpr ⟨lwm_5 (List.mem_of_getElem? (i := 82) rfl), List.forall_mem_cons.mpr ⟨lwm_0 (List.mem_of_getElem? (i := 43) rfl), List.forall_mem_cons.mpr ⟨lwm_5 (List.mem_of_getElem? (i := 83) rfl), List.forall_mem_cons.mpr ⟨lwm_3 (List.mem_of_getElem? (i := 181) rfl), List.forall_mem_cons.mpr ⟨lwm_3 (List.mem_of_getElem? (i := 182) rfl), List.forall_mem_cons.mpr ⟨lwm_3 (List.mem_of_getElem? (i := 183) rfl), List.forall_mem_cons.mpr ⟨lwm_3 (List.mem_of_getElem? (i := 184) rfl), List.forall_mem_cons.mpr ⟨lwm_3 (List.mem_of_getElem? (i := 185) rfl), List.forall_mem_cons.mpr ⟨lwm_5 (List.mem_of_getElem? (i := 85) rfl), List.forall_mem_cons.mpr ⟨lwm_5 (List.mem_of_getElem? (i := 86) rfl), List.forall_mem_cons.mpr ⟨lwm_5 (List.mem_of_getElem? (i := 87) rfl), List.forall_mem_cons.mpr ⟨lwm_5 (List.mem_of_getElem? (i := 88) rfl), List.forall_mem_cons.mpr ⟨lwm_5 (List.mem_of_getElem? (i := 89) rfl), fun _ h => absurd h List.not_mem_nil⟩⟩⟩⟩⟩⟩⟩⟩⟩⟩⟩⟩⟩⟩⟩⟩⟩⟩⟩⟩⟩⟩⟩⟩
set_option maxRecDepth 100000 in
theorem wsin_35 : ∀ w ∈ wsL_law_r35, w ∈ lw_tbl := List.forall_mem_cons.mpr ⟨lwm_3 (List.mem_of_getElem? (i := 186) rfl), List.forall_mem_cons.mpr ⟨lwm_3 (List.mem_of_getElem? (i := 187) rfl), List.forall_mem_cons.mpr ⟨lwm_3 (List.mem_of_getElem? (i := 188) rfl), List.forall_mem_cons.mpr ⟨lwm_3 (List.mem_of_getElem? (i := 189) rfl), List.forall_mem_cons.mpr ⟨lwm_3 (List.mem_of_getElem? (i := 190) rfl), List.forall_mem_cons.mpr ⟨lwm_3 (List.mem_of_getElem? (i := 191) rfl), List.forall_mem_cons.mpr ⟨lwm_3 (List.mem_of_getElem? (i := 192) rfl), List.forall_mem_cons.mpr ⟨lwm_3 (List.mem_of_getElem? (i := 193) rfl), List.forall_mem_cons.mpr ⟨lwm_5 (List.mem_of_getElem? (i := 90) rfl), List.forall_mem_cons.mpr ⟨lwm_5 (List.mem_of_getElem? (i := 91) rfl), List.forall_mem_cons.mpr ⟨lwm_5 (List.mem_of_getElem? (i := 92) rfl), List.forall_mem_cons.mpr ⟨lwm_5 (List.mem_of_getElem? (i := 93) rfl), List.forall_mem_cons.mpr ⟨lwm_5 (List.mem_of_getElem? (i := 94) rfl), List.forall_mem_cons.mpr ⟨lwm_3 (List.mem_of_getElem? (i := 194) rfl), List.forall_mem_cons.mpr ⟨lwm_3 (List.mem_of_getElem? (i := 195) rfl), List.forall_mem_cons.mpr ⟨lwm_3 (List.mem_of_getElem? (i := 196) rfl), List.forall_mem_cons.mpr ⟨lwm_3 (List.mem_of_getElem? (i := 197) rfl), List.forall_mem_cons.mpr ⟨lwm_3 (List.mem_of_getElem? (i := 198) rfl), List.forall_mem_cons.mpr ⟨lwm_3 (List.mem_of_getElem? (i := 199) rfl), List.forall_mem_cons.mpr ⟨lwm_3 (List.mem_of_getElem? (i := 200) rfl), List.forall_mem_cons.mpr ⟨lwm_3 (List.mem_of_getElem? (i := 201) rfl), List.forall_mem_cons.mpr ⟨lwm_3 (List.mem_of_getElem? (i := 202) rfl), List.forall_mem_cons.mpr ⟨lwm_5 (List.mem_of_getElem? (i := 95) rfl), List.forall_mem_cons.mpr ⟨lwm_5 (List.mem_of_getElem? (i := 96) rfl), fun _ h => absurd h List.not_mem_nil⟩⟩⟩⟩⟩⟩⟩⟩⟩⟩⟩⟩⟩⟩⟩⟩⟩⟩⟩⟩⟩⟩⟩⟩
set_option maxRecDepth 100000 in
theorem wsin_36 : ∀ w ∈ wsL_law_r36, w ∈ lw_tbl := List.forall_mem_cons.mpr ⟨lwm_5 (List.mem_of_getElem? (i := 97) rfl), List.forall_mem_cons.mpr ⟨lwm_5 (List.mem_of_getElem? (i := 98) rfl), List.forall_mem_cons.mpr ⟨lwm_3 (List.mem_of_getElem? (i := 203) rfl), List.forall_mem_cons.mpr ⟨lwm_3 (List.mem_of_getElem? (i := 204) rfl), List.forall_mem_cons.mpr ⟨lwm_3 (List.mem_of_getElem? (i := 205) rfl), List.forall_mem_cons.mpr ⟨lwm_3 (List.mem_of_getElem? (i := 206) rfl), List.forall_mem_cons.mpr ⟨lwm_1 (List.mem_of_getElem? (i := 202) rfl), List.forall_mem_cons.mpr ⟨lwm_3 (List.mem_of_getElem? (i := 207) rfl), List.forall_mem_cons.mpr ⟨lwm_5 (List.mem_of_getElem? (i := 99) rfl), List.forall_mem_cons.mpr ⟨lwm_5 (List.mem_of_getElem? (i := 100) rfl), List.forall_mem_cons.mpr ⟨lwm_5 (List.mem_of_getElem? (i := 101) rfl), List.forall_mem_cons.mpr ⟨lwm_5 (List.mem_of_getElem? (i := 102) rfl), List.forall_mem_cons.mpr ⟨lwm_3 (List.mem_of_getElem? (i := 208) rfl), List.forall_mem_cons.mpr ⟨lwm_3 (List.mem_of_getElem? (i := 209) rfl), List.forall_mem_cons.mpr ⟨lwm_3 (List.mem_of_getElem? (i := 210) rfl), List.forall_mem_cons.mpr ⟨lwm_3 (List.mem_of_getElem? (i := 211) rfl), List.forall_mem_cons.mpr ⟨lwm_5 (List.mem_of_getElem? (i := 103) rfl), List.forall_mem_cons.mpr ⟨lwm_5 (List.mem_of_getElem? (i := 104) rfl), List.forall_mem_cons.mpr ⟨lwm_5 (List.mem_of_getElem? (i := 105) rfl), List.forall_mem_cons.mpr ⟨lwm_5 (List.mem_of_getElem? (i := 106) rfl), List.forall_mem_cons.mpr ⟨lwm_3 (List.mem_of_getElem? (i := 212) rfl), List.forall_mem_cons.mpr ⟨lwm_3 (List.mem_of_getElem? (i := 213) rfl), List.forall_mem_cons.mpr ⟨lwm_3 (List.mem_of_getElem? (i := 214) rfl), List.forall_mem_cons.mpr ⟨lwm_3 (List.mem_of_getElem? (i := 215) rfl), fun _ h => absurd h List.not_mem_nil⟩⟩⟩⟩⟩⟩⟩⟩⟩⟩⟩⟩⟩⟩⟩⟩⟩⟩⟩⟩⟩⟩⟩⟩
set_option maxRecDepth 100000 in
theorem wsin_37 : ∀ w ∈ wsL_law_r37, w ∈ lw_tbl := List.forall_mem_cons.mpr ⟨lwm_1 (List.mem_of_getElem? (i := 111) rfl), List.forall_mem_cons.mpr ⟨lwm_1 (List.mem_of_getElem? (i := 87) rfl), List.forall_mem_cons.mpr ⟨lwm_1 (List.mem_of_getElem? (i := 90) rfl), List.forall_mem_cons.mpr ⟨lwm_1 (List.mem_of_getElem? (i := 93) rfl), List.forall_mem_cons.mpr ⟨lwm_3 (List.mem_of_getElem? (i := 216) rfl), List.forall_mem_cons.mpr ⟨lwm_3 (List.mem_of_getElem? (i := 217) rfl), List.forall_mem_cons.mpr ⟨lwm_3 (List.mem_of_getElem? (i := 218) rfl), List.forall_mem_cons.mpr ⟨lwm_3 (List.mem_of_getElem? (i := 219) rfl), List.forall_mem_cons.mpr ⟨lwm_3 (List.mem_of_getElem? (i := 220) rfl), List.forall_mem_cons.mpr ⟨lwm_3 (List.mem_of_getElem? (i := 222) rfl), List.forall_mem_cons.mpr ⟨lwm_0 (List.mem_of_getElem? (i := 16) rfl), List.forall_mem_cons.mpr ⟨lwm_3 (List.mem_of_getElem? (i := 223) rfl), List.forall_mem_cons.mpr ⟨lwm_3 (List.mem_of_getElem? (i := 224) rfl), List.forall_mem_cons.mpr ⟨lwm_3 (List.mem_of_getElem? (i := 225) rfl), List.forall_mem_cons.mpr ⟨lwm_1 (List.mem_of_getElem? (i := 14) rfl), List.forall_mem_cons.mpr ⟨lwm_3 (List.mem_of_getElem? (i := 226) rfl), List.forall_mem_cons.mpr ⟨lwm_3 (List.mem_of_getElem? (i := 227) rfl), List.forall_mem_cons.mpr ⟨lwm_3 (List.mem_of_getElem? (i := 228) rfl), List.forall_mem_cons.mpr ⟨lwm_3 (List.mem_of_getElem? (i := 229) rfl), List.forall_mem_cons.mpr ⟨lwm_3 (List.mem_of_getElem? (i := 230) rfl), List.forall_mem_cons.mpr ⟨lwm_3 (List.mem_of_getElem? (i := 231) rfl), List.forall_mem_cons.mpr ⟨lwm_3 (List.mem_of_getElem? (i := 233) rfl), List.forall_mem_cons.mpr ⟨lwm_0 (List.mem_of_getElem? (i := 17) rfl), List.forall_mem_cons.mpr ⟨lwm_3 (List.mem_of_getElem? (i := 234) rfl), fun _ h => absurd h List.not_mem_nil⟩⟩⟩⟩⟩⟩⟩⟩⟩⟩⟩⟩⟩⟩⟩⟩⟩⟩⟩⟩⟩⟩⟩⟩
set_option maxRecDepth 100000 in
theorem wsin_38 : ∀ w ∈ wsL_law_r38, w ∈ lw_tbl := List.forall_mem_cons.mpr ⟨lwm_3 (List.mem_of_getElem? (i := 235) rfl), List.forall_mem_cons.mpr ⟨lwm_3 (List.mem_of_getElem? (i := 237) rfl), List.forall_mem_cons.mpr ⟨lwm_0 (List.mem_of_getElem? (i := 18) rfl), List.forall_mem_cons.mpr ⟨lwm_3 (List.mem_of_getElem? (i := 238) rfl), List.forall_mem_cons.mpr ⟨lwm_5 (List.mem_of_getElem? (i := 107) rfl), List.forall_mem_cons.mpr ⟨lwm_5 (List.mem_of_getElem? (i := 108) rfl), List.forall_mem_cons.mpr ⟨lwm_5 (List.mem_of_getElem? (i := 109) rfl), List.forall_mem_cons.mpr ⟨lwm_5 (List.mem_of_getElem? (i := 110) rfl), List.forall_mem_cons.mpr ⟨lwm_5 (List.mem_of_getElem? (i := 111) rfl), List.forall_mem_cons.mpr ⟨lwm_5 (List.mem_of_getElem? (i := 113) rfl), List.forall_mem_cons.mpr ⟨lwm_0 (List.mem_of_getElem? (i := 44) rfl), List.forall_mem_cons.mpr ⟨lwm_5 (List.mem_of_getElem? (i := 114) rfl), List.forall_mem_cons.mpr ⟨lwm_5 (List.mem_of_getElem? (i := 115) rfl), List.forall_mem_cons.mpr ⟨lwm_5 (List.mem_of_getElem? (i := 117) rfl), List.forall_mem_cons.mpr ⟨lwm_0 (List.mem_of_getElem? (i := 45) rfl), List.forall_mem_cons.mpr ⟨lwm_5 (List.mem_of_getElem? (i := 118) rfl), List.forall_mem_cons.mpr ⟨lwm_5 (List.mem_of_getElem? (i := 119) rfl), List.forall_mem_cons.mpr ⟨lwm_5 (List.mem_of_getElem? (i := 121) rfl), List.forall_mem_cons.mpr ⟨lwm_0 (List.mem_of_getElem? (i := 46) rfl), List.forall_mem_cons.mpr ⟨lwm_5 (List.mem_of_getElem? (i := 122) rfl), fun _ h => absurd h List.not_mem_nil⟩⟩⟩⟩⟩⟩⟩⟩⟩⟩⟩⟩⟩⟩⟩⟩⟩⟩⟩⟩
theorem wsinX6 : ∀ w ∈ wsX60, w ∈ lw_tbl := List.forall_mem_cons.mpr ⟨lwm_1 (List.mem_of_getElem? (i := 221) rfl), List.forall_mem_cons.mpr ⟨lwm_1 (List.mem_of_getElem? (i := 223) rfl), List.forall_mem_cons.mpr ⟨lwm_1 (List.mem_of_getElem? (i := 225) rfl), List.forall_mem_cons.mpr ⟨lwm_1 (List.mem_of_getElem? (i := 227) rfl), List.forall_mem_cons.mpr ⟨lwm_1 (List.mem_of_getElem? (i := 229) rfl), fun _ h => absurd h List.not_mem_nil⟩⟩⟩⟩⟩
theorem wsinX7 : ∀ w ∈ wsX70, w ∈ lw_tbl := List.forall_mem_cons.mpr ⟨lwm_4 (List.mem_of_getElem? (i := 32) rfl), List.forall_mem_cons.mpr ⟨lwm_4 (List.mem_of_getElem? (i := 34) rfl), List.forall_mem_cons.mpr ⟨lwm_4 (List.mem_of_getElem? (i := 36) rfl), List.forall_mem_cons.mpr ⟨lwm_4 (List.mem_of_getElem? (i := 38) rfl), List.forall_mem_cons.mpr ⟨lwm_4 (List.mem_of_getElem? (i := 40) rfl), List.forall_mem_cons.mpr ⟨lwm_4 (List.mem_of_getElem? (i := 42) rfl), List.forall_mem_cons.mpr ⟨lwm_4 (List.mem_of_getElem? (i := 44) rfl), List.forall_mem_cons.mpr ⟨lwm_4 (List.mem_of_getElem? (i := 46) rfl), List.forall_mem_cons.mpr ⟨lwm_4 (List.mem_of_getElem? (i := 48) rfl), List.forall_mem_cons.mpr ⟨lwm_4 (List.mem_of_getElem? (i := 50) rfl), List.forall_mem_cons.mpr ⟨lwm_4 (List.mem_of_getElem? (i := 52) rfl), List.forall_mem_cons.mpr ⟨lwm_4 (List.mem_of_getElem? (i := 54) rfl), List.forall_mem_cons.mpr ⟨lwm_4 (List.mem_of_getElem? (i := 56) rfl), List.forall_mem_cons.mpr ⟨lwm_4 (List.mem_of_getElem? (i := 58) rfl), List.forall_mem_cons.mpr ⟨lwm_4 (List.mem_of_getElem? (i := 60) rfl), List.forall_mem_cons.mpr ⟨lwm_4 (List.mem_of_getElem? (i := 62) rfl), List.forall_mem_cons.mpr ⟨lwm_4 (List.mem_of_getElem? (i := 64) rfl), List.forall_mem_cons.mpr ⟨lwm_4 (List.mem_of_getElem? (i := 66) rfl), List.forall_mem_cons.mpr ⟨lwm_4 (List.mem_of_getElem? (i := 68) rfl), List.forall_mem_cons.mpr ⟨lwm_4 (List.mem_of_getElem? (i := 70) rfl), List.forall_mem_cons.mpr ⟨lwm_4 (List.mem_of_getElem? (i := 72) rfl), List.forall_mem_cons.mpr ⟨lwm_4 (List.mem_of_getElem? (i := 74) rfl), List.forall_mem_cons.mpr ⟨lwm_4 (List.mem_of_getElem? (i := 76) rfl), List.forall_mem_cons.mpr ⟨lwm_4 (List.mem_of_getElem? (i := 78) rfl), List.forall_mem_cons.mpr ⟨lwm_4 (List.mem_of_getElem? (i := 80) rfl), List.forall_mem_cons.mpr ⟨lwm_4 (List.mem_of_getElem? (i := 82) rfl), List.forall_mem_cons.mpr ⟨lwm_4 (List.mem_of_getElem? (i := 84) rfl), fun _ h => absurd h List.not_mem_nil⟩⟩⟩⟩⟩⟩⟩⟩⟩⟩⟩⟩⟩⟩⟩⟩⟩⟩⟩⟩⟩⟩⟩⟩⟩⟩⟩
theorem wsinX2 : ∀ w ∈ wsX20, w ∈ lw_tbl := List.forall_mem_cons.mpr ⟨lwm_1 (List.mem_of_getElem? (i := 153) rfl), List.forall_mem_cons.mpr ⟨lwm_1 (List.mem_of_getElem? (i := 155) rfl), List.forall_mem_cons.mpr ⟨lwm_1 (List.mem_of_getElem? (i := 157) rfl), fun _ h => absurd h List.not_mem_nil⟩⟩⟩
theorem wsinX4 : ∀ w ∈ wsX40, w ∈ lw_tbl := List.forall_mem_cons.mpr ⟨lwm_1 (List.mem_of_getElem? (i := 128) rfl), List.forall_mem_cons.mpr ⟨lwm_1 (List.mem_of_getElem? (i := 130) rfl), List.forall_mem_cons.mpr ⟨lwm_1 (List.mem_of_getElem? (i := 132) rfl), List.forall_mem_cons.mpr ⟨lwm_1 (List.mem_of_getElem? (i := 134) rfl), List.forall_mem_cons.mpr ⟨lwm_1 (List.mem_of_getElem? (i := 136) rfl), List.forall_mem_cons.mpr ⟨lwm_1 (List.mem_of_getElem? (i := 138) rfl), List.forall_mem_cons.mpr ⟨lwm_1 (List.mem_of_getElem? (i := 140) rfl), List.forall_mem_cons.mpr ⟨lwm_1 (List.mem_of_getElem? (i := 142) rfl), List.forall_mem_cons.mpr ⟨lwm_1 (List.mem_of_getElem? (i := 144) rfl), fun _ h => absurd h List.not_mem_nil⟩⟩⟩⟩⟩⟩⟩⟩⟩
theorem wsinX5 : ∀ w ∈ wsX50, w ∈ lw_tbl := List.forall_mem_cons.mpr ⟨lwm_1 (List.mem_of_getElem? (i := 94) rfl), List.forall_mem_cons.mpr ⟨lwm_1 (List.mem_of_getElem? (i := 96) rfl), List.forall_mem_cons.mpr ⟨lwm_1 (List.mem_of_getElem? (i := 98) rfl), List.forall_mem_cons.mpr ⟨lwm_1 (List.mem_of_getElem? (i := 100) rfl), List.forall_mem_cons.mpr ⟨lwm_1 (List.mem_of_getElem? (i := 102) rfl), List.forall_mem_cons.mpr ⟨lwm_1 (List.mem_of_getElem? (i := 104) rfl), List.forall_mem_cons.mpr ⟨lwm_1 (List.mem_of_getElem? (i := 106) rfl), fun _ h => absurd h List.not_mem_nil⟩⟩⟩⟩⟩⟩⟩
theorem wsinX1 : ∀ w ∈ wsX10, w ∈ lw_tbl := List.forall_mem_cons.mpr ⟨lwm_1 (List.mem_of_getElem? (i := 179) rfl), List.forall_mem_cons.mpr ⟨lwm_1 (List.mem_of_getElem? (i := 181) rfl), List.forall_mem_cons.mpr ⟨lwm_1 (List.mem_of_getElem? (i := 183) rfl), List.forall_mem_cons.mpr ⟨lwm_1 (List.mem_of_getElem? (i := 185) rfl), List.forall_mem_cons.mpr ⟨lwm_1 (List.mem_of_getElem? (i := 187) rfl), fun _ h => absurd h List.not_mem_nil⟩⟩⟩⟩⟩
theorem wsinX0 : ∀ w ∈ wsX00, w ∈ lw_tbl := List.forall_mem_cons.mpr ⟨lwm_1 (List.mem_of_getElem? (i := 205) rfl), List.forall_mem_cons.mpr ⟨lwm_1 (List.mem_of_getElem? (i := 207) rfl), List.forall_mem_cons.mpr ⟨lwm_1 (List.mem_of_getElem? (i := 209) rfl), List.forall_mem_cons.mpr ⟨lwm_1 (List.mem_of_getElem? (i := 211) rfl), List.forall_mem_cons.mpr ⟨lwm_1 (List.mem_of_getElem? (i := 213) rfl), fun _ h => absurd h List.not_mem_nil⟩⟩⟩⟩⟩
theorem wsinX3 : ∀ w ∈ wsX30, w ∈ lw_tbl := List.forall_mem_cons.mpr ⟨lwm_1 (List.mem_of_getElem? (i := 46) rfl), List.forall_mem_cons.mpr ⟨lwm_1 (List.mem_of_getElem? (i := 48) rfl), List.forall_mem_cons.mpr ⟨lwm_1 (List.mem_of_getElem? (i := 50) rfl), List.forall_mem_cons.mpr ⟨lwm_1 (List.mem_of_getElem? (i := 52) rfl), List.forall_mem_cons.mpr ⟨lwm_1 (List.mem_of_getElem? (i := 54) rfl), fun _ h => absurd h List.not_mem_nil⟩⟩⟩⟩⟩
theorem wsL_law_in : ∀ w ∈ wsL_law, w ∈ lw_tbl := by
  intro w h
  unfold wsL_law at h
  rcases List.mem_append.mp h with h | h
  rotate_left
  · exact absurd h List.not_mem_nil
  rcases List.mem_append.mp h with h | h
  rotate_left
  · exact wsinX3 w h
  rcases List.mem_append.mp h with h | h
  rotate_left
  · exact wsinX0 w h
  rcases List.mem_append.mp h with h | h
  rotate_left
  · exact wsinX1 w h
  rcases List.mem_append.mp h with h | h
  rotate_left
  · exact wsinX5 w h
  rcases List.mem_append.mp h with h | h
  rotate_left
  · exact wsinX4 w h
  rcases List.mem_append.mp h with h | h
  rotate_left
  · exact wsinX2 w h
  rcases List.mem_append.mp h with h | h
  rotate_left
  · exact wsinX7 w h
  rcases List.mem_append.mp h with h | h
  rotate_left
  · exact wsinX6 w h
  rcases List.mem_append.mp h with h | h
  · exact wsin_1 w h
  rcases List.mem_append.mp h with h | h
  · exact wsin_2 w h
  rcases List.mem_append.mp h with h | h
  · exact wsin_3 w h
  rcases List.mem_append.mp h with h | h
  · exact wsin_4 w h
  rcases List.mem_append.mp h with h | h
  · exact wsin_5 w h
  rcases List.mem_append.mp h with h | h
  · exact wsin_6 w h
  rcases List.mem_append.mp h with h | h
  · exact wsin_7 w h
  rcases List.mem_append.mp h with h | h
  · exact wsin_8 w h
  rcases List.mem_append.mp h with h | h
  · exact wsin_9 w h
  rcases List.mem_append.mp h with h | h
  · exact wsin_10 w h
  rcases List.mem_append.mp h with h | h
  · exact wsin_11 w h
  rcases List.mem_append.mp h with h | h
  · exact wsin_12 w h
  rcases List.mem_append.mp h with h | h
  · exact wsin_13 w h
  rcases List.mem_append.mp h with h | h
  · exact wsin_14 w h
  rcases List.mem_append.mp h with h | h
  · exact wsin_15 w h
  rcases List.mem_append.mp h with h | h
  · exact wsin_16 w h
  rcases List.mem_append.mp h with h | h
  · exact wsin_17 w h
  rcases List.mem_append.mp h with h | h
  · exact wsin_18 w h
  rcases List.mem_append.mp h with h | h
  · exact wsin_19 w h
  rcases List.mem_append.mp h with h | h
  · exact wsin_20 w h
  rcases List.mem_append.mp h with h | h
  · exact wsin_21 w h
  rcases List.mem_append.mp h with h | h
  · exact wsin_22 w h
  rcases List.mem_append.mp h with h | h
  · exact wsin_23 w h
  rcases List.mem_append.mp h with h | h
  · exact wsin_24 w h
  rcases List.mem_append.mp h with h | h
  · exact wsin_25 w h
  rcases List.mem_append.mp h with h | h
  · exact wsin_26 w h
  rcases List.mem_append.mp h with h | h
  · exact wsin_27 w h
  rcases List.mem_append.mp h with h | h
  · exact wsin_28 w h
  rcases List.mem_append.mp h with h | h
  · exact wsin_29 w h
  rcases List.mem_append.mp h with h | h
  · exact wsin_30 w h
  rcases List.mem_append.mp h with h | h
  · exact wsin_31 w h
  rcases List.mem_append.mp h with h | h
  · exact wsin_32 w h
  rcases List.mem_append.mp h with h | h
  · exact wsin_33 w h
  rcases List.mem_append.mp h with h | h
  · exact wsin_34 w h
  rcases List.mem_append.mp h with h | h
  · exact wsin_35 w h
  rcases List.mem_append.mp h with h | h
  · exact wsin_36 w h
  rcases List.mem_append.mp h with h | h
  · exact wsin_37 w h
  exact wsin_38 w h
theorem wsm_1 {w : Cond} (h : w ∈ wsL_law_r1) : w ∈ wsL_law := (List.mem_append_left _ (List.mem_append_left _ (List.mem_append_left _ (List.mem_append_left _ (List.mem_append_left _ (List.mem_append_left _ (List.mem_append_left _ (List.mem_append_left _ (List.mem_append_left _ (List.mem_append_left _ h))))))))))
theorem wsm_2 {w : Cond} (h : w ∈ wsL_law_r2) : w ∈ wsL_law := (List.mem_append_left _ (List.mem_append_left _ (List.mem_append_left _ (List.mem_append_left _ (List.mem_append_left _ (List.mem_append_left _ (List.mem_append_left _ (List.mem_append_left _ (List.mem_append_left _ (List.mem_append_right _ (List.mem_append_left _ h)))))))))))
theorem wsm_3 {w : Cond} (h : w ∈ wsL_law_r3) : w ∈ wsL_law := (List.mem_append_left _ (List.mem_append_left _ (List.mem_append_left _ (List.mem_append_left _ (List.mem_append_left _ (List.mem_append_left _ (List.mem_append_left _ (List.mem_append_left _ (List.mem_append_left _ (List.mem_append_right _ (List.mem_append_right _ (List.mem_append_left _ h))))))))))))
theorem wsm_4 {w : Cond} (h : w ∈ wsL_law_r4) : w ∈ wsL_law := (List.mem_append_left _ (List.mem_append_left _ (List.mem_append_left _ (List.mem_append_left _ (List.mem_append_left _ (List.mem_append_left _ (List.mem_append_left _ (List.mem_append_left _ (List.mem_append_left _ (List.mem_append_right _ (List.mem_append_right _ (List.mem_append_right _ (List.mem_append_left _ h)))))))))))))
theorem wsm_5 {w : Cond} (h : w ∈ wsL_law_r5) : w ∈ wsL_law := (List.mem_append_left _ (List.mem_append_left _ (List.mem_append_left _ (List.mem_append_left _ (List.mem_append_left _ (List.mem_append_left _ (List.mem_append_left _ (List.mem_append_left _ (List.mem_append_left _ (List.mem_append_right _ (List.mem_append_right _ (List.mem_append_right _ (List.mem_append_right _ (List.mem_append_left _ h))))))))))))))
theorem wsm_6 {w : Cond} (h : w ∈ wsL_law_r6) : w ∈ wsL_law := (List.mem_append_left _ (List.mem_append_left _ (List.mem_append_left _ (List.mem_append_left _ (List.mem_append_left _ (List.mem_append_left _ (List.mem_append_left _ (List.mem_append_left _ (List.mem_append_left _ (List.mem_append_right _ (List.mem_append_right _ (List.mem_append_right _ (List.mem_append_right _ (List.mem_append_right _ (List.mem_append_left _ h)))))))))))))))
theorem wsm_7 {w : Cond} (h : w ∈ wsL_law_r7) : w ∈ wsL_law := (List.mem_append_left _ (List.mem_append_left _ (List.mem_append_left _ (List.mem_append_left _ (List.mem_append_left _ (List.mem_append_left _ (List.mem_append_left _ (List.mem_append_left _ (List.mem_append_left _ (List.mem_append_right _ (List.mem_append_right _ (List.mem_append_right _ (List.mem_append_right _ (List.mem_append_right _ (List.mem_append_right _ (List.mem_append_left _ h))))))))))))))))
theorem wsm_8 {w : Cond} (h : w ∈ wsL_law_r8) : w ∈ wsL_law := (List.mem_append_left _ (List.mem_append_left _ (List.mem_append_left _ (List.mem_append_left _ (List.mem_append_left _ (List.mem_append_left _ (List.mem_append_left _ (List.mem_append_left _ (List.mem_append_left _ (List.mem_append_right _ (List.mem_append_right _ (List.mem_append_right _ (List.mem_append_right _ (List.mem_append_right _ (List.mem_append_right _ (List.mem_append_right _ (List.mem_append_left _ h)))))))))))))))))
theorem wsm_9 {w : Cond} (h : w ∈ wsL_law_r9) : w ∈ wsL_law := (List.mem_append_left _ (List.mem_append_left _ (List.mem_append_left _ (List.mem_append_left _ (List.mem_append_left _ (List.mem_append_left _ (List.mem_append_left _ (List.mem_append_left _ (List.mem_append_left _ (List.mem_append_right _ (List.mem_append_right _ (List.mem_append_right _ (List.mem_append_right _ (List.mem_append_right _ (List.mem_append_right _ (List.mem_append_right _ (List.mem_append_right _ (List.mem_append_left _ h))))))))))))))))))
theorem wsm_10 {w : Cond} (h : w ∈ wsL_law_r10) : w ∈ wsL_law := (List.mem_append_left _ (List.mem_append_left _ (List.mem_append_left _ (List.mem_append_left _ (List.mem_append_left _ (List.mem_append_left _ (List.mem_append_left _ (List.mem_append_left _ (List.mem_append_left _ (List.mem_append_right _ (List.mem_append_right _ (List.mem_append_right _ (List.mem_append_right _ (List.mem_append_right _ (List.mem_append_right _ (List.mem_append_right _ (List.mem_append_right _ (List.mem_append_right _ (List.mem_append_left _ h)))))))))))))))))))
theorem wsm_11 {w : Cond} (h : w ∈ wsL_law_r11) : w ∈ wsL_law := (List.mem_append_left _ (List.mem_append_left _ (List.mem_append_left _ (List.mem_append_left _ (List.mem_append_left _ (List.mem_append_left _ (List.mem_append_left _ (List.mem_append_left _ (List.mem_append_left _ (List.mem_append_right _ (List.mem_append_right _ (List.mem_append_right _ (List.mem_append_right _ (List.mem_append_right _ (List.mem_append_right _ (List.mem_append_right _ (List.mem_append_right _ (List.mem_append_right _ (List.mem_append_right _ (List.mem_append_left _ h))))))))))))))))))))
theorem wsm_12 {w : Cond} (h : w ∈ wsL_law_r12) : w ∈ wsL_law := (List.mem_append_left _ (List.mem_append_left _ (List.mem_append_left _ (List.mem_append_left _ (List.mem_append_left _ (List.mem_append_left _ (List.mem_append_left _ (List.mem_append_left _ (List.mem_append_left _ (List.mem_append_right _ (List.mem_append_right _ (List.mem_append_right _ (List.mem_append_right _ (List.mem_append_right _ (List.mem_append_right _ (List.mem_append_right _ (List.mem_append_right _ (List.mem_append_right _ (List.mem_append_right _ (List.mem_append_right _ (List.mem_append_left _ h)))))))))))))))))))))
theorem wsm_13 {w : Cond} (h : w ∈ wsL_law_r13) : w ∈ wsL_law := (List.mem_append_left _ (List.mem_append_left _ (List.mem_append_left _ (List.mem_append_left _ (List.mem_append_left _ (List.mem_append_left _ (List.mem_append_left _ (List.mem_append_left _ (List.mem_append_left _ (List.mem_append_right _ (List.mem_append_right _ (List.mem_append_right _ (List.mem_append_right _ (List.mem_append_right _ (List.mem_append_right _ (List.mem_append_right _ (List.mem_append_right _ (List.mem_append_right _ (List.mem_append_right _ (List.mem_append_right _ (List.mem_append_right _ (List.mem_append_left _ h))))))))))))))))))))))
theorem wsm_14 {w : Cond} (h : w ∈ wsL_law_r14) : w ∈ wsL_law := (List.mem_append_left _ (List.mem_append_left _ (List.mem_append_left _ (List.mem_append_left _ (List.mem_append_left _ (List.mem_append_left _ (List.mem_append_left _ (List.mem_append_left _ (List.mem_append_left _ (List.mem_append_right _ (List.mem_append_right _ (List.mem_append_right _ (List.mem_append_right _ (List.mem_append_right _ (List.mem_append_right _ (List.mem_append_right _ (List.mem_append_right _ (List.mem_append_right _ (List.mem_append_right _ (List.mem_append_right _ (List.mem_append_right _ (List.mem_append_right _ (List.mem_append_left _ h)))))))))))))))))))))))
theorem wsm_15 {w : Cond} (h : w ∈ wsL_law_r15) : w ∈ wsL_law := (List.mem_append_left _ (List.mem_append_left _ (List.mem_append_left _ (List.mem_append_left _ (List.mem_append_left _ (List.mem_append_left _ (List.mem_append_left _ (List.mem_append_left _ (List.mem_append_left _ (List.mem_append_right _ (List.mem_append_right _ (List.mem_append_right _ (List.mem_append_right _ (List.mem_append_right _ (List.mem_append_right _ (List.mem_append_right _ (List.mem_append_right _ (List.mem_append_right _ (List.mem_append_right _ (List.mem_append_right _ (List.mem_append_right _ (List.mem_append_right _ (List.mem_append_right _ (List.mem_append_left _ h))))))))))))))))))))))))
theorem wsm_16 {w : Cond} (h : w ∈ wsL_law_r16) : w ∈ wsL_law := (List.mem_append_left _ (List.mem_append_left _ (List.mem_append_left _ (List.mem_append_left _ (List.mem_append_left _ (List.mem_append_left _ (List.mem_append_left _ (List.mem_append_left _ (List.mem_append_left _ (List.mem_append_right _ (List.mem_append_right _ (List.mem_append_right _ (List.mem_append_right _ (List.mem_append_right _ (List.mem_append_right _ (List.mem_append_right _ (List.mem_append_right _ (List.mem_append_right _ (List.mem_append_right _ (List.mem_append_right _ (List.mem_append_right _ (List.mem_append_right _ (List.mem_append_right _ (List.mem_append_right _ (List.mem_append_left _ h)))))))))))))))))))))))))
theorem wsm_17 {w : Cond} (h : w ∈ wsL_law_r17) : w ∈ wsL_law := (List.mem_append_left _ (List.mem_append_left _ (List.mem_append_left _ (List.mem_append_left _ (List.mem_append_left _ (List.mem_append_left _ (List.mem_append_left _ (List.mem_append_left _ (List.mem_append_left _ (List.mem_append_right _ (List.mem_append_right _ (List.mem_append_right _ (List.mem_append_right _ (List.mem_append_right _ (List.mem_append_right _ (List.mem_append_right _ (List.mem_append_right _ (List.mem_append_right _ (List.mem_append_right _ (List.mem_append_right _ (List.mem_append_right _ (List.mem_append_right _ (List.mem_append_right _ (List.mem_append_right _ (List.mem_append_right _ (List.mem_append_left _ h))))))))))))))))))))))))))
theorem wsm_18 {w : Cond} (h : w ∈ wsL_law_r18) : w ∈ wsL_law := (List.mem_append_left _ (List.mem_append_left _ (List.mem_append_left _ (List.mem_append_left _ (List.mem_append_left _ (List.mem_append_left _ (List.mem_append_left _ (List.mem_append_left _ (List.mem_append_left _ (List.mem_append_right _ (List.mem_append_right _ (List.mem_append_right _ (List.mem_append_right _ (List.mem_append_right _ (List.mem_append_right _ (List.mem_append_right _ (List.mem_append_right _ (List.mem_append_right _ (List.mem_append_right _ (List.mem_append_right _ (List.mem_append_right _ (List.mem_append_right _ (List.mem_append_right _ (List.mem_append_right _ (List.mem_append_right _ (List.mem_append_right _ (List.mem_append_left _ h)))))))))))))))))))))))))))
theorem wsm_19 {w : Cond} (h : w ∈ wsL_law_r19) : w ∈ wsL_law := (List.mem_append_left _ (List.mem_append_left _ (List.mem_append_left _ (List.mem_append_left _ (List.mem_append_left _ (List.mem_append_left _ (List.mem_append_left _ (List.mem_append_left _ (List.mem_append_left _ (List.mem_append_right _ (List.mem_append_right _ (List.mem_append_right _ (List.mem_append_right _ (List.mem_append_right _ (List.mem_append_right _ (List.mem_append_right _ (List.mem_append_right _ (List.mem_append_right _ (List.mem_append_right _ (List.mem_append_right _ (List.mem_append_right _ (List.mem_append_right _ (List.mem_append_right _ (List.mem_append_right _ (List.mem_append_right _ (List.mem_append_right _ (List.mem_append_right _ (List.mem_append_left _ h))))))))))))))))))))))))))))
theorem wsm_20 {w : Cond} (h : w ∈ wsL_law_r20) : w ∈ wsL_law := (List.mem_append_left _ (List.mem_append_left _ (List.mem_append_left _ (List.mem_append_left _ (List.mem_append_left _ (List.mem_append_left _ (List.mem_append_left _ (List.mem_append_left _ (List.mem_append_left _ (List.mem_append_right _ (List.mem_append_right _ (List.mem_append_right _ (List.mem_append_right _ (List.mem_append_right _ (List.mem_append_right _ (List.mem_append_right _ (List.mem_append_right _ (List.mem_append_right _ (List.mem_append_right _ (List.mem_append_right _ (List.mem_append_right _ (List.mem_append_right _ (List.mem_append_right _ (List.mem_append_right _ (List.mem_append_right _ (List.mem_append_right _ (List.mem_append_right _ (List.mem_append_right _ (List.mem_append_left _ h)))))))))))))))))))))))))))))
theorem wsm_21 {w : Cond} (h : w ∈ wsL_law_r21) : w ∈ wsL_law := (List.mem_append_left _ (List.mem_append_left _ (List.mem_append_left _ (List.mem_append_left _ (List.mem_append_left _ (List.mem_append_left _ (List.mem_append_left _ (List.mem_append_left _ (List.mem_append_left _ (List.mem_append_right _ (List.mem_append_right _ (List.mem_append_right _ (List.mem_append_right _ (List.mem_append_right _ (List.mem_append_right _ (List.mem_append_right _ (List.mem_append_right _ (List.mem_append_right _ (List.mem_append_right _ (List.mem_append_right _ (List.mem_append_right _ (List.mem_append_right _ (List.mem_append_right _ (List.mem_append_right _ (List.mem_append_right _ (List.mem_append_right _ (List.mem_append_right _ (List.mem_append_right _ (List.mem_append_right _ (List.mem_append_left _ h))))))))))))))))))))))))))))))
theorem wsm_22 {w : Cond} (h : w ∈ wsL_law_r22) : w ∈ wsL_law := (List.mem_append_left _ (List.mem_append_left _ (List.mem_append_left _ (List.mem_append_left _ (List.mem_append_left _ (List.mem_append_left _ (List.mem_append_left _ (List.mem_append_left _ (List.mem_append_left _ (List.mem_append_right _ (List.mem_append_right _ (List.mem_append_right _ (List.mem_append_right _ (List.mem_append_right _ (List.mem_append_right _ (List.mem_append_right _ (List.mem_append_right _ (List.mem_append_right _ (List.mem_append_right _ (List.mem_append_right _ (List.mem_append_right _ (List.mem_append_right _ (List.mem_append_right _ (List.mem_append_right _ (List.mem_append_right _ (List.mem_append_right _ (List.mem_append_right _ (List.mem_append_right _ (List.mem_append_right _ (List.mem_append_right _ (List.mem_append_left _ h)))))))))))))))))))))))))))))))
theorem wsm_23 {w : Cond} (h : w ∈ wsL_law_r23) : w ∈ wsL_law := (List.mem_append_left _ (List.mem_append_left _ (List.mem_append_left _ (List.mem_append_left _ (List.mem_append_left _ (List.mem_append_left _ (List.mem_append_left _ (List.mem_append_left _ (List.mem_append_left _ (List.mem_append_right _ (List.mem_append_right _ (List.mem_append_right _ (List.mem_append_right _ (List.mem_append_right _ (List.mem_append_right _ (List.mem_append_right _ (List.mem_append_right _ (List.mem_append_right _ (List.mem_append_right _ (List.mem_append_right _ (List.mem_append_right _ (List.mem_append_right _ (List.mem_append_right _ (List.mem_append_right _ (List.mem_append_right _ (List.mem_append_right _ (List.mem_append_right _ (List.mem_append_right _ (List.mem_append_right _ (List.mem_append_right _ (List.mem_append_right _ (List.mem_append_left _ h))))))))))))))))))))))))))))))))
theorem wsm_24 {w : Cond} (h : w ∈ wsL_law_r24) : w ∈ wsL_law := (List.mem_append_left _ (List.mem_append_left _ (List.mem_append_left _ (List.mem_append_left _ (List.mem_append_left _ (List.mem_append_left _ (List.mem_append_left _ (List.mem_append_left _ (List.mem_append_left _ (List.mem_append_right _ (List.mem_append_right _ (List.mem_append_right _ (List.mem_append_right _ (List.mem_append_right _ (List.mem_append_right _ (List.mem_append_right _ (List.mem_append_right _ (List.mem_append_right _ (List.mem_append_right _ (List.mem_append_right _ (List.mem_append_right _ (List.mem_append_right _ (List.mem_append_right _ (List.mem_append_right _ (List.mem_append_right _ (List.mem_append_right _ (List.mem_append_right _ (List.mem_append_right _ (List.mem_append_right _ (List.mem_append_right _ (List.mem_append_right _ (List.mem_append_right _ (List.mem_append_left _ h)))))))))))))))))))))))))))))))))
theorem wsm_25 {w : Cond} (h : w ∈ wsL_law_r25) : w ∈ wsL_law := (List.mem_append_left _ (List.mem_append_left _ (List.mem_append_left _ (List.mem_append_left _ (List.mem_append_left _ (List.mem_append_left _ (List.mem_append_left _ (List.mem_append_left _ (List.mem_append_left _ (List.mem_append_right _ (List.mem_append_right _ (List.mem_append_right _ (List.mem_append_right _ (List.mem_append_right _ (List.mem_append_right _ (List.mem_append_right _ (List.mem_append_right _ (List.mem_append_right _ (List.mem_append_right _ (List.mem_append_right _ (List.mem_append_right _ (List.mem_append_right _ (List.mem_append_right _ (List.mem_append_right _ (List.mem_append_right _ (List.mem_append_right _ (List.mem_append_right _ (List.mem_append_right _ (List.mem_append_right _ (List.mem_append_right _ (List.mem_append_right _ (List.mem_append_right _ (List.mem_append_right _ (List.mem_append_left _ h))))))))))))))))))))))))))))))))))
theorem wsm_26 {w : Cond} (h : w ∈ wsL_law_r26) : w ∈ wsL_law := (List.mem_append_left _ (List.mem_append_left _ (List.mem_append_left _ (List.mem_append_left _ (List.mem_append_left _ (List.mem_append_left _ (List.mem_append_left _ (List.mem_append_left _ (List.mem_append_left _ (List.mem_append_right _ (List.mem_append_right _ (List.mem_append_right _ (List.mem_append_right _ (List.mem_append_right _ (List.mem_append_right _ (List.mem_append_right _ (List.mem_append_right _ (List.mem_append_right _ (List.mem_append_right _ (List.mem_append_right _ (List.mem_append_right _ (List.mem_append_right _ (List.mem_append_right _ (List.mem_append_right _ (List.mem_append_right _ (List.mem_append_right _ (List.mem_append_right _ (List.mem_append_right _ (List.mem_append_right _ (List.mem_append_right _ (List.mem_append_right _ (List.mem_append_right _ (List.mem_append_right _ (List.mem_append_right _ (List.mem_append_left _ h)))))))))))))))))))))))))))))))))))
theorem wsm_27 {w : Cond} (h : w ∈ wsL_law_r27) : w ∈ wsL_law := (List.mem_append_left _ (List.mem_append_left _ (List.mem_append_left _ (List.mem_append_left _ (List.mem_append_left _ (List.mem_append_left _ (List.mem_append_left _ (List.mem_append_left _ (List.mem_append_left _ (List.mem_append_right _ (List.mem_append_right _ (List.mem_append_right _ (List.mem_append_right _ (List.mem_append_right _ (List.mem_append_right _ (List.mem_append_right _ (List.mem_append_right _ (List.mem_append_right _ (List.mem_append_right _ (List.mem_append_right _ (List.mem_append_right _ (List.mem_append_right _ (List.mem_append_right _ (List.mem_append_right _ (List.mem_append_right _ (List.mem_append_right _ (List.mem_append_right _ (List.mem_append_right _ (List.mem_append_right _ (List.mem_append_right _ (List.mem_append_right _ (List.mem_append_right _ (List.mem_append_right _ (List.mem_append_right _ (List.mem_append_right _ (List.mem_append_left _ h))))))))))))))))))))))))))))))))))))
theorem wsm_28 {w : Cond} (h : w ∈ wsL_law_r28) : w ∈ wsL_law := (List.mem_append_left _ (List.mem_append_left _ (List.mem_append_left _ (List.mem_append_left _ (List.mem_append_left _ (List.mem_append_left _ (List.mem_append_left _ (List.mem_append_left _ (List.mem_append_left _ (List.mem_append_right _ (List.mem_append_right _ (List.mem_append_right _ (List.mem_append_right _ (List.mem_append_right _ (List.mem_append_right _ (List.mem_append_right _ (List.mem_append_right _ (List.mem_append_right _ (List.mem_append_right _ (List.mem_append_right _ (List.mem_append_right _ (List.mem_append_right _ (List.mem_append_right _ (List.mem_append_right _ (List.mem_append_right _ (List.mem_append_right _ (List.mem_append_right _ (List.mem_append_right _ (List.mem_append_right _ (List.mem_append_right _ (List.mem_append_right _ (List.mem_append_right _ (List.mem_append_right _ (List.mem_append_right _ (List.mem_append_right _ (List.mem_append_right _ (List.mem_append_left _ h)))))))))))))))))))))))))))))))))))))
theorem wsm_29 {w : Cond} (h : w ∈ wsL_law_r29) : w ∈ wsL_law := (List.mem_append_left _ (List.mem_append_left _ (List.mem_append_left _ (List.mem_append_left _ (List.mem_append_left _ (List.mem_append_left _ (List.mem_append_left _ (List.mem_append_left _ (List.mem_append_left _ (List.mem_append_right _ (List.mem_append_right _ (List.mem_append_right _ (List.mem_append_right _ (List.mem_append_right _ (List.mem_append_right _ (List.mem_append_right _ (List.mem_append_right _ (List.mem_append_right _ (List.mem_append_right _ (List.mem_append_right _ (List.mem_append_right _ (List.mem_append_right _ (List.mem_append_right _ (List.mem_append_right _ (List.mem_append_right _ (List.mem_append_right _ (List.mem_append_right _ (List.mem_append_right _ (List.mem_append_right _ (List.mem_append_right _ (List.mem_append_right _ (List.mem_append_right _ (List.mem_append_right _ (List.mem_append_right _ (List.mem_append_right _ (List.mem_append_right _ (List.mem_append_right _ (List.mem_append_left _ h))))))))))))))))))))))))))))))))))))))
theorem wsm_30 {w : Cond} (h : w ∈ wsL_law_r30) : w ∈ wsL_law := (List.mem_append_left _ (List.mem_append_left _ (List.mem_append_left _ (List.mem_append_left _ (List.mem_append_left _ (List.mem_append_left _ (List.mem_append_left _ (List.mem_append_left _ (List.mem_append_left _ (List.mem_append_right _ (List.mem_append_right _ (List.mem_append_right _ (List.mem_append_right _ (List.mem_append_right _ (List.mem_append_right _ (List.mem_append_right _ (List.mem_append_right _ (List.mem_append_right _ (List.mem_append_right _ (List.mem_append_right _ (List.mem_append_right _ (List.mem_append_right _ (List.mem_append_right _ (List.mem_append_right _ (List.mem_append_right _ (List.mem_append_right _ (List.mem_append_right _ (List.mem_append_right _ (List.mem_append_right _ (List.mem_append_right _ (List.mem_append_right _ (List.mem_append_right _ (List.mem_append_right _ (List.mem_append_right _ (List.mem_append_right _ (List.mem_append_right _ (List.mem_append_right _ (List.mem_append_right _ (List.mem_append_left _ h)))))))))))))))))))))))))))))))))))))))
theorem wsm_31 {w : Cond} (h : w ∈ wsL_law_r31) : w ∈ wsL_law := (List.mem_append_left _ (List.mem_append_left _ (List.mem_append_left _ (List.mem_append_left _ (List.mem_append_left _ (List.mem_append_left _ (List.mem_append_left _ (List.mem_append_left _ (List.mem_append_left _ (List.mem_append_right _ (List.mem_append_right _ (List.mem_append_right _ (List.mem_append_right _ (List.mem_append_right _ (List.mem_append_right _ (List.mem_append_right _ (List.mem_append_right _ (List.mem_append_right _ (List.mem_append_right _ (List.mem_append_right _ (List.mem_append_right _ (List.mem_append_right _ (List.mem_append_right _ (List.mem_append_right _ (List.mem_append_right _ (List.mem_append_right _ (List.mem_append_right _ (List.mem_append_right _ (List.mem_append_right _ (List.mem_append_right _ (List.mem_append_right _ (List.mem_append_right _ (List.mem_append_right _ (List.mem_append_right _ (List.mem_append_right _ (List.mem_append_right _ (List.mem_append_right _ (List.mem_append_right _ (List.mem_append_right _ (List.mem_append_left _ h))))))))))))))))))))))))))))))))))))))))
theorem wsm_32 {w : Cond} (h : w ∈ wsL_law_r32) : w ∈ wsL_law := (List.mem_append_left _ (List.mem_append_left _ (List.mem_append_left _ (List.mem_append_left _ (List.mem_append_left _ (List.mem_append_left _ (List.mem_append_left _ (List.mem_append_left _ (List.mem_append_left _ (List.mem_append_right _ (List.mem_append_right _ (List.mem_append_right _ (List.mem_append_right _ (List.mem_append_right _ (List.mem_append_right _ (List.mem_append_right _ (List.mem_append_right _ (List.mem_append_right _ (List.mem_append_right _ (List.mem_append_right _ (List.mem_append_right _ (List.mem_append_right _ (List.mem_append_right _ (List.mem_append_right _ (List.mem_append_right _ (List.mem_append_right _ (List.mem_append_right _ (List.mem_append_right _ (List.mem_append_right _ (List.mem_append_right _ (List.mem_append_right _ (List.mem_append_right _ (List.mem_append_right _ (List.mem_append_right _ (List.mem_append_right _ (List.mem_append_right _ (List.mem_append_right _ (List.mem_append_right _ (List.mem_append_right _ (List.mem_append_right _ (List.mem_append_left _ h)))))))))))))))))))))))))))))))))))))))))
theorem wsm_33 {w : Cond} (h : w ∈ wsL_law_r33) : w ∈ wsL_law := (List.mem_append_left _ (List.mem_append_left _ (List.mem_append_left _ (List.mem_append_left _ (List.mem_append_left _ (List.mem_append_left _ (List.mem_append_left _ (List.mem_append_left _ (List.mem_append_left _ (List.mem_append_right _ (List.mem_append_right _ (List.mem_append_right _ (List.mem_append_right _ (List.mem_append_right _ (List.mem_append_right _ (List.mem_append_right _ (List.mem_append_right _ (List.mem_append_right _ (List.mem_append_right _ (List.mem_append_right _ (List.mem_append_right _ (List.mem_append_right _ (List.mem_append_right _ (List.mem_append_right _ (List.mem_append_right _ (List.mem_append_right _ (List.mem_append_right _ (List.mem_append_right _ (List.mem_append_right _ (List.mem_append_right _ (List.mem_append_right _ (List.mem_append_right _ (List.mem_append_right _ (List.mem_append_right _ (List.mem_append_right _ (List.mem_append_right _ (List.mem_append_right _ (List.mem_append_right _ (List.mem_append_right _ (List.mem_append_right _ (List.mem_append_right _ (List.mem_append_left _ h))))))))))))))))))))))))))))))))))))))))))
theorem wsm_34 {w : Cond} (h : w ∈ wsL_law_r34) : w ∈ wsL_law := (List.mem_append_left _ (List.mem_append_left _ (List.mem_append_left _ (List.mem_append_left _ (List.mem_append_left _ (List.mem_append_left _ (List.mem_append_left _ (List.mem_append_left _ (List.mem_append_left _ (List.mem_append_right _ (List.mem_append_right _ (List.mem_append_right _ (List.mem_append_right _ (List.mem_append_right _ (List.mem_append_right _ (List.mem_append_right _ (List.mem_append_right _ (List.mem_append_right _ (List.mem_append_right _ (List.mem_append_right _ (List.mem_append_right _ (List.mem_append_right _ (List.mem_append_right _ (List.mem_append_right _ (List.mem_append_right _ (List.mem_append_right _ (List.mem_append_right _ (List.mem_append_right _ (List.mem_append_right _ (List.mem_append_right _ (List.mem_append_right _ (List.mem_append_right _ (List.mem_append_right _ (List.mem_append_right _ (List.mem_append_right _ (List.mem_append_right _ (List.mem_append_right _ (List.mem_append_right _ (List.mem_append_right _ (List.mem_append_right _ (List.mem_append_right _ (List.mem_append_right _ (List.mem_append_left _ h)))))))))))))))))))))))))))))))))))))))))))
theorem wsm_35 {w : Cond} (h : w ∈ wsL_law_r35) : w ∈ wsL_law := (List.mem_append_left _ (List.mem_append_left _ (List.mem_append_left _ (List.mem_append_left _ (List.mem_append_left _ (List.mem_append_left _ (List.mem_append_left _ (List.mem_append_left _ (List.mem_append_left _ (List.mem_append_right _ (List.mem_append_right _ (List.mem_append_right _ (List.mem_append_right _ (List.mem_append_right _ (List.mem_append_right _ (List.mem_append_right _ (List.mem_append_right _ (List.mem_append_right _ (List.mem_append_right _ (List.mem_append_right _ (List.mem_append_right _ (List.mem_append_right _ (List.mem_append_right _ (List.mem_append_right _ (List.mem_append_right _ (List.mem_append_right _ (List.mem_append_right _ (List.mem_append_right _ (List.mem_append_right _ (List.mem_append_right _ (List.mem_append_right _ (List.mem_append_right _ (List.mem_append_right _ (List.mem_append_right _ (List.mem_append_right _ (List.mem_append_right _ (List.mem_append_right _ (List.mem_append_right _ (List.mem_append_right _ (List.mem_append_right _ (List.mem_append_right _ (List.mem_append_right _ (List.mem_append_right _ (List.mem_append_left _ h))))))))))))))))))))))))))))))))))))))))))))
theorem wsm_36 {w : Cond} (h : w ∈ wsL_law_r36) : w ∈ wsL_law := (List.mem_append_left _ (List.mem_append_left _ (List.mem_append_left _ (List.mem_append_left _ (List.mem_append_left _ (List.mem_append_left _ (List.mem_append_left _ (List.mem_append_left _ (List.mem_append_left _ (List.mem_append_right _ (List.mem_append_right _ (List.mem_append_right _ (List.mem_append_right _ (List.mem_append_right _ (List.mem_append_right _ (List.mem_append_right _ (List.mem_append_right _ (List.mem_append_right _ (List.mem_append_right _ (List.mem_append_right _ (List.mem_append_right _ (List.mem_append_right _ (List.mem_append_right _ (List.mem_append_right _ (List.mem_append_right _ (List.mem_append_right _ (List.mem_append_right _ (List.mem_append_right _ (List.mem_append_right _ (List.mem_append_right _ (List.mem_append_right _ (List.mem_append_right _ (List.mem_append_right _ (List.mem_append_right _ (List.mem_append_right _ (List.mem_append_right _ (List.mem_append_right _ (List.mem_append_right _ (List.mem_append_right _ (List.mem_append_right _ (List.mem_append_right _ (List.mem_append_right _ (List.mem_append_right _ (List.mem_append_right _ (List.mem_append_left _ h)))))))))))))))))))))))))))))))))))))))))))))
theorem wsm_37 {w : Cond} (h : w ∈ wsL_law_r37) : w ∈ wsL_law := (List.mem_append_left _ (List.mem_append_left _ (List.mem_append_left _ (List.mem_append_left _ (List.mem_append_left _ (List.mem_append_left _ (List.mem_append_left _ (List.mem_append_left _ (List.mem_append_left _ (List.mem_append_right _ (List.mem_append_right _ (List.mem_append_right _ (List.mem_append_right _ (List.mem_append_right _ (List.mem_append_right _ (List.mem_append_right _ (List.mem_append_right _ (List.mem_append_right _ (List.mem_append_right _ (List.mem_append_right _ (List.mem_append_right _ (List.mem_append_right _ (List.mem_append_right _ (List.mem_append_right _ (List.mem_append_right _ (List.mem_append_right _ (List.mem_append_right _ (List.mem_append_right _ (List.mem_append_right _ (List.mem_append_right _ (List.mem_append_right _ (List.mem_append_right _ (List.mem_append_right _ (List.mem_append_right _ (List.mem_append_right _ (List.mem_append_right _ (List.mem_append_right _ (List.mem_append_right _ (List.mem_append_right _ (List.mem_append_right _ (List.mem_append_right _ (List.mem_append_right _ (List.mem_append_right _ (List.mem_append_right _ (List.mem_append_right _ (List.mem_append_left _ h))))))))))))))))))))))))))))))))))))))))))))))
theorem wsm_38 {w : Cond} (h : w ∈ wsL_law_r38) : w ∈ wsL_law := (List.mem_append_left _ (List.mem_append_left _ (List.mem_append_left _ (List.mem_append_left _ (List.mem_append_left _ (List.mem_append_left _ (List.mem_append_left _ (List.mem_append_left _ (List.mem_append_left _ (List.mem_append_right _ (List.mem_append_right _ (List.mem_append_right _ (List.mem_append_right _ (List.mem_append_right _ (List.mem_append_right _ (List.mem_append_right _ (List.mem_append_right _ (List.mem_append_right _ (List.mem_append_right _ (List.mem_append_right _ (List.mem_append_right _ (List.mem_append_right _ (List.mem_append_right _ (List.mem_append_right _ (List.mem_append_right _ (List.mem_append_right _ (List.mem_append_right _ (List.mem_append_right _ (List.mem_append_right _ (List.mem_append_right _ (List.mem_append_right _ (List.mem_append_right _ (List.mem_append_right _ (List.mem_append_right _ (List.mem_append_right _ (List.mem_append_right _ (List.mem_append_right _ (List.mem_append_right _ (List.mem_append_right _ (List.mem_append_right _ (List.mem_append_right _ (List.mem_append_right _ (List.mem_append_right _ (List.mem_append_right _ (List.mem_append_right _ (List.mem_append_right _ h))))))))))))))))))))))))))))))))))))))))))))))
theorem inlX0 : ∀ w ∈ wsX00, w ∈ wsL_law := fun _ h => List.mem_append_left _ (List.mem_append_left _ (List.mem_append_right _ h))
theorem inX0 : ∀ w ∈ wsX00, w ∈ lw_tbl := fun w h => wsL_law_in w (inlX0 w h)
theorem inlX1 : ∀ w ∈ wsX10, w ∈ wsL_law := fun _ h => List.mem_append_left _ (List.mem_append_left _ (List.mem_append_left _ (List.mem_append_right _ h)))
theorem inX1 : ∀ w ∈ wsX10, w ∈ lw_tbl := fun w h => wsL_law_in w (inlX1 w h)
theorem inlX2 : ∀ w ∈ wsX20, w ∈ wsL_law := fun _ h => List.mem_append_left _ (List.mem_append_left _ (List.mem_append_left _ (List.mem_append_left _ (List.mem_append_left _ (List.mem_append_left _ (List.mem_append_right _ h))))))
theorem inX2 : ∀ w ∈ wsX20, w ∈ lw_tbl := fun w h => wsL_law_in w (inlX2 w h)
theorem inlX3 : ∀ w ∈ wsX30, w ∈ wsL_law := fun _ h => List.mem_append_left _ (List.mem_append_right _ h)
theorem inX3 : ∀ w ∈ wsX30, w ∈ lw_tbl := fun w h => wsL_law_in w (inlX3 w h)
theorem inlX4 : ∀ w ∈ wsX40, w ∈ wsL_law := fun _ h => List.mem_append_left _ (List.mem_append_left _ (List.mem_append_left _ (List.mem_append_left _ (List.mem_append_left _ (List.mem_append_right _ h)))))
theorem inX4 : ∀ w ∈ wsX40, w ∈ lw_tbl := fun w h => wsL_law_in w (inlX4 w h)
theorem inlX5 : ∀ w ∈ wsX50, w ∈ wsL_law := fun _ h => List.mem_append_left _ (List.mem_append_left _ (List.mem_append_left _ (List.mem_append_left _ (List.mem_append_right _ h))))
theorem inX5 : ∀ w ∈ wsX50, w ∈ lw_tbl := fun w h => wsL_law_in w (inlX5 w h)
theorem inlX6 : ∀ w ∈ wsX60, w ∈ wsL_law := fun _ h => List.mem_append_left _ (List.mem_append_left _ (List.mem_append_left _ (List.mem_append_left _ (List.mem_append_left _ (List.mem_append_left _ (List.mem_append_left _ (List.mem_append_left _ (List.mem_append_right _ h))))))))
theorem inX6 : ∀ w ∈ wsX60, w ∈ lw_tbl := fun w h => wsL_law_in w (inlX6 w h)
theorem inlX7 : ∀ w ∈ wsX70, w ∈ wsL_law := fun _ h => List.mem_append_left _ (List.mem_append_left _ (List.mem_append_left _ (List.mem_append_left _ (List.mem_append_left _ (List.mem_append_left _ (List.mem_append_left _ (List.mem_append_right _ h)))))))
theorem inX7 : ∀ w ∈ wsX70, w ∈ lw_tbl := fun w h => wsL_law_in w (inlX7 w h)
theorem inJ6 : ∀ w ∈ wsJ60, w ∈ lw_tbl := by decide +kernel
theorem inJ9 : ∀ w ∈ wsJ90, w ∈ lw_tbl := by decide +kernel
theorem inJ0 : ∀ w ∈ wsJ00, w ∈ lw_tbl := by decide +kernel
theorem inJ1 : ∀ w ∈ wsJ10, w ∈ lw_tbl := by decide +kernel
theorem inJ2 : ∀ w ∈ wsJ20, w ∈ lw_tbl := by decide +kernel
theorem inJ3 : ∀ w ∈ wsJ30, w ∈ lw_tbl := by decide +kernel
theorem dX0_init_0 : decode cX0_init 0 = .ok (.aload_n 0, 1) := by decide +kernel
theorem dX0_init_1 : decode cX0_init 1 = .ok (.invokespecial 3, 3) := by decide +kernel
theorem dX0_init_4 : decode cX0_init 4 = .ok (.aload_n 0, 1) := by decide +kernel
theorem dX0_init_5 : decode cX0_init 5 = .ok (.bipush 8, 2) := by decide +kernel
theorem dX0_init_7 : decode cX0_init 7 = .ok (.newarray .int, 2) := by decide +kernel
theorem dX0_init_9 : decode cX0_init 9 = .ok (.putfield 9, 3) := by decide +kernel
theorem dX0_init_12 : decode cX0_init 12 = .ok (.aload_n 0, 1) := by decide +kernel
theorem dX0_init_13 : decode cX0_init 13 = .ok (.bipush 8, 2) := by decide +kernel
theorem dX0_init_15 : decode cX0_init 15 = .ok (.newarray .int, 2) := by decide +kernel
theorem dX0_init_17 : decode cX0_init 17 = .ok (.putfield 15, 3) := by decide +kernel
theorem dX0_init_20 : decode cX0_init 20 = .ok (.aload_n 0, 1) := by decide +kernel
theorem dX0_init_21 : decode cX0_init 21 = .ok (.bipush 8, 2) := by decide +kernel
theorem dX0_init_23 : decode cX0_init 23 = .ok (.newarray .int, 2) := by decide +kernel
theorem dX0_init_25 : decode cX0_init 25 = .ok (.putfield 18, 3) := by decide +kernel
theorem dX0_init_28 : decode cX0_init 28 = .ok (.return_, 1) := by decide +kernel
theorem dX0_placeOf_0 : decode cX0_placeOf 0 = .ok (.iconst 0, 1) := by decide +kernel
theorem dX0_placeOf_1 : decode cX0_placeOf 1 = .ok (.istore_n 3, 1) := by decide +kernel
theorem dX0_placeOf_2 : decode cX0_placeOf 2 = .ok (.iload_n 3, 1) := by decide +kernel
theorem dX0_placeOf_3 : decode cX0_placeOf 3 = .ok (.aload_n 0, 1) := by decide +kernel
theorem dX0_placeOf_4 : decode cX0_placeOf 4 = .ok (.getfield 21, 3) := by decide +kernel
theorem dX0_placeOf_7 : decode cX0_placeOf 7 = .ok (.if_icmp .ge 35, 3) := by decide +kernel
theorem dX0_placeOf_10 : decode cX0_placeOf 10 = .ok (.aload_n 0, 1) := by decide +kernel
theorem dX0_placeOf_11 : decode cX0_placeOf 11 = .ok (.getfield 9, 3) := by decide +kernel
theorem dX0_placeOf_14 : decode cX0_placeOf 14 = .ok (.iload_n 3, 1) := by decide +kernel
theorem dX0_placeOf_15 : decode cX0_placeOf 15 = .ok (.invokestatic 25, 3) := by decide +kernel
theorem dX0_placeOf_18 : decode cX0_placeOf 18 = .ok (.iload_n 1, 1) := by decide +kernel
theorem dX0_placeOf_19 : decode cX0_placeOf 19 = .ok (.if_icmp .ne 17, 3) := by decide +kernel
theorem dX0_placeOf_22 : decode cX0_placeOf 22 = .ok (.aload_n 0, 1) := by decide +kernel
theorem dX0_placeOf_23 : decode cX0_placeOf 23 = .ok (.getfield 15, 3) := by decide +kernel
theorem dX0_placeOf_26 : decode cX0_placeOf 26 = .ok (.iload_n 3, 1) := by decide +kernel
theorem dX0_placeOf_27 : decode cX0_placeOf 27 = .ok (.invokestatic 25, 3) := by decide +kernel
theorem dX0_placeOf_30 : decode cX0_placeOf 30 = .ok (.iload_n 2, 1) := by decide +kernel
theorem dX0_placeOf_31 : decode cX0_placeOf 31 = .ok (.if_icmp .ne 5, 3) := by decide +kernel
theorem dX0_placeOf_34 : decode cX0_placeOf 34 = .ok (.iload_n 3, 1) := by decide +kernel
theorem dX0_placeOf_35 : decode cX0_placeOf 35 = .ok (.ireturn, 1) := by decide +kernel
theorem dX0_placeOf_36 : decode cX0_placeOf 36 = .ok (.iinc 3 1, 3) := by decide +kernel
theorem dX0_placeOf_39 : decode cX0_placeOf 39 = .ok (.goto (-37), 3) := by decide +kernel
theorem dX0_placeOf_42 : decode cX0_placeOf 42 = .ok (.iconst (-1), 1) := by decide +kernel
theorem dX0_placeOf_43 : decode cX0_placeOf 43 = .ok (.ireturn, 1) := by decide +kernel
theorem dX0_enter_0 : decode cX0_enter 0 = .ok (.aload_n 0, 1) := by decide +kernel
theorem dX0_enter_1 : decode cX0_enter 1 = .ok (.getfield 9, 3) := by decide +kernel
theorem dX0_enter_4 : decode cX0_enter 4 = .ok (.aload_n 0, 1) := by decide +kernel
theorem dX0_enter_5 : decode cX0_enter 5 = .ok (.getfield 21, 3) := by decide +kernel
theorem dX0_enter_8 : decode cX0_enter 8 = .ok (.iload_n 1, 1) := by decide +kernel
theorem dX0_enter_9 : decode cX0_enter 9 = .ok (.invokestatic 29, 3) := by decide +kernel
theorem dX0_enter_12 : decode cX0_enter 12 = .ok (.aload_n 0, 1) := by decide +kernel
theorem dX0_enter_13 : decode cX0_enter 13 = .ok (.getfield 15, 3) := by decide +kernel
theorem dX0_enter_16 : decode cX0_enter 16 = .ok (.aload_n 0, 1) := by decide +kernel
theorem dX0_enter_17 : decode cX0_enter 17 = .ok (.getfield 21, 3) := by decide +kernel
theorem dX0_enter_20 : decode cX0_enter 20 = .ok (.iload_n 2, 1) := by decide +kernel
theorem dX0_enter_21 : decode cX0_enter 21 = .ok (.invokestatic 29, 3) := by decide +kernel
theorem dX0_enter_24 : decode cX0_enter 24 = .ok (.aload_n 0, 1) := by decide +kernel
theorem dX0_enter_25 : decode cX0_enter 25 = .ok (.getfield 18, 3) := by decide +kernel
theorem dX0_enter_28 : decode cX0_enter 28 = .ok (.aload_n 0, 1) := by decide +kernel
theorem dX0_enter_29 : decode cX0_enter 29 = .ok (.getfield 21, 3) := by decide +kernel
theorem dX0_enter_32 : decode cX0_enter 32 = .ok (.iload_n 3, 1) := by decide +kernel
theorem dX0_enter_33 : decode cX0_enter 33 = .ok (.invokestatic 29, 3) := by decide +kernel
theorem dX0_enter_36 : decode cX0_enter 36 = .ok (.aload_n 0, 1) := by decide +kernel
theorem dX0_enter_37 : decode cX0_enter 37 = .ok (.dup, 1) := by decide +kernel
theorem dX0_enter_38 : decode cX0_enter 38 = .ok (.getfield 21, 3) := by decide +kernel
theorem dX0_enter_41 : decode cX0_enter 41 = .ok (.iconst 1, 1) := by decide +kernel
theorem dX0_enter_42 : decode cX0_enter 42 = .ok (.iadd, 1) := by decide +kernel
theorem dX0_enter_43 : decode cX0_enter 43 = .ok (.putfield 21, 3) := by decide +kernel
theorem dX0_enter_46 : decode cX0_enter 46 = .ok (.iconst 0, 1) := by decide +kernel
theorem dX0_enter_47 : decode cX0_enter 47 = .ok (.ireturn, 1) := by decide +kernel
theorem dX0_remove_0 : decode cX0_remove 0 = .ok (.aload_n 0, 1) := by decide +kernel
theorem dX0_remove_1 : decode cX0_remove 1 = .ok (.getfield 18, 3) := by decide +kernel
theorem dX0_remove_4 : decode cX0_remove 4 = .ok (.iload_n 1, 1) := by decide +kernel
theorem dX0_remove_5 : decode cX0_remove 5 = .ok (.invokestatic 25, 3) := by decide +kernel
theorem dX0_remove_8 : decode cX0_remove 8 = .ok (.istore_n 2, 1) := by decide +kernel
theorem dX0_remove_9 : decode cX0_remove 9 = .ok (.aload_n 0, 1) := by decide +kernel
theorem dX0_remove_10 : decode cX0_remove 10 = .ok (.dup, 1) := by decide +kernel
theorem dX0_remove_11 : decode cX0_remove 11 = .ok (.getfield 21, 3) := by decide +kernel
theorem dX0_remove_14 : decode cX0_remove 14 = .ok (.iconst 1, 1) := by decide +kernel
theorem dX0_remove_15 : decode cX0_remove 15 = .ok (.isub, 1) := by decide +kernel
theorem dX0_remove_16 : decode cX0_remove 16 = .ok (.putfield 21, 3) := by decide +kernel
theorem dX0_remove_19 : decode cX0_remove 19 = .ok (.aload_n 0, 1) := by decide +kernel
theorem dX0_remove_20 : decode cX0_remove 20 = .ok (.getfield 9, 3) := by decide +kernel
theorem dX0_remove_23 : decode cX0_remove 23 = .ok (.iload_n 1, 1) := by decide +kernel
theorem dX0_remove_24 : decode cX0_remove 24 = .ok (.aload_n 0, 1) := by decide +kernel
theorem dX0_remove_25 : decode cX0_remove 25 = .ok (.getfield 9, 3) := by decide +kernel
theorem dX0_remove_28 : decode cX0_remove 28 = .ok (.aload_n 0, 1) := by decide +kernel
theorem dX0_remove_29 : decode cX0_remove 29 = .ok (.getfield 21, 3) := by decide +kernel
theorem dX0_remove_32 : decode cX0_remove 32 = .ok (.invokestatic 25, 3) := by decide +kernel
theorem dX0_remove_35 : decode cX0_remove 35 = .ok (.invokestatic 29, 3) := by decide +kernel
theorem dX0_remove_38 : decode cX0_remove 38 = .ok (.aload_n 0, 1) := by decide +kernel
theorem dX0_remove_39 : decode cX0_remove 39 = .ok (.getfield 15, 3) := by decide +kernel
theorem dX0_remove_42 : decode cX0_remove 42 = .ok (.iload_n 1, 1) := by decide +kernel
theorem dX0_remove_43 : decode cX0_remove 43 = .ok (.aload_n 0, 1) := by decide +kernel
theorem dX0_remove_44 : decode cX0_remove 44 = .ok (.getfield 15, 3) := by decide +kernel
theorem dX0_remove_47 : decode cX0_remove 47 = .ok (.aload_n 0, 1) := by decide +kernel
theorem dX0_remove_48 : decode cX0_remove 48 = .ok (.getfield 21, 3) := by decide +kernel
theorem dX0_remove_51 : decode cX0_remove 51 = .ok (.invokestatic 25, 3) := by decide +kernel
theorem dX0_remove_54 : decode cX0_remove 54 = .ok (.invokestatic 29, 3) := by decide +kernel
theorem dX0_remove_57 : decode cX0_remove 57 = .ok (.aload_n 0, 1) := by decide +kernel
theorem dX0_remove_58 : decode cX0_remove 58 = .ok (.getfield 18, 3) := by decide +kernel
theorem dX0_remove_61 : decode cX0_remove 61 = .ok (.iload_n 1, 1) := by decide +kernel
theorem dX0_remove_62 : decode cX0_remove 62 = .ok (.aload_n 0, 1) := by decide +kernel
theorem dX0_remove_63 : decode cX0_remove 63 = .ok (.getfield 18, 3) := by decide +kernel
theorem dX0_remove_66 : decode cX0_remove 66 = .ok (.aload_n 0, 1) := by decide +kernel
theorem dX0_remove_67 : decode cX0_remove 67 = .ok (.getfield 21, 3) := by decide +kernel
theorem dX0_remove_70 : decode cX0_remove 70 = .ok (.invokestatic 25, 3) := by decide +kernel
theorem dX0_remove_73 : decode cX0_remove 73 = .ok (.invokestatic 29, 3) := by decide +kernel
theorem dX0_remove_76 : decode cX0_remove 76 = .ok (.iload_n 2, 1) := by decide +kernel
theorem dX0_remove_77 : decode cX0_remove 77 = .ok (.ireturn, 1) := by decide +kernel
theorem dX0_alikeWith_0 : decode cX0_alikeWith 0 = .ok (.iconst 0, 1) := by decide +kernel
theorem dX0_alikeWith_1 : decode cX0_alikeWith 1 = .ok (.istore_n 2, 1) := by decide +kernel
theorem dX0_alikeWith_2 : decode cX0_alikeWith 2 = .ok (.iconst 0, 1) := by decide +kernel
theorem dX0_alikeWith_3 : decode cX0_alikeWith 3 = .ok (.istore_n 3, 1) := by decide +kernel
theorem dX0_alikeWith_4 : decode cX0_alikeWith 4 = .ok (.iload_n 3, 1) := by decide +kernel
theorem dX0_alikeWith_5 : decode cX0_alikeWith 5 = .ok (.aload_n 0, 1) := by decide +kernel
theorem dX0_alikeWith_6 : decode cX0_alikeWith 6 = .ok (.getfield 21, 3) := by decide +kernel
theorem dX0_alikeWith_9 : decode cX0_alikeWith 9 = .ok (.if_icmp .ge 60, 3) := by decide +kernel
theorem dX0_alikeWith_12 : decode cX0_alikeWith 12 = .ok (.aload_n 1, 1) := by decide +kernel
theorem dX0_alikeWith_13 : decode cX0_alikeWith 13 = .ok (.aload_n 0, 1) := by decide +kernel
theorem dX0_alikeWith_14 : decode cX0_alikeWith 14 = .ok (.getfield 9, 3) := by decide +kernel
theorem dX0_alikeWith_17 : decode cX0_alikeWith 17 = .ok (.iload_n 3, 1) := by decide +kernel
theorem dX0_alikeWith_18 : decode cX0_alikeWith 18 = .ok (.invokestatic 25, 3) := by decide +kernel
theorem dX0_alikeWith_21 : decode cX0_alikeWith 21 = .ok (.aload_n 0, 1) := by decide +kernel
theorem dX0_alikeWith_22 : decode cX0_alikeWith 22 = .ok (.getfield 15, 3) := by decide +kernel
theorem dX0_alikeWith_25 : decode cX0_alikeWith 25 = .ok (.iload_n 3, 1) := by decide +kernel
theorem dX0_alikeWith_26 : decode cX0_alikeWith 26 = .ok (.invokestatic 25, 3) := by decide +kernel
theorem dX0_alikeWith_29 : decode cX0_alikeWith 29 = .ok (.invokevirtual 33, 3) := by decide +kernel
theorem dX0_alikeWith_32 : decode cX0_alikeWith 32 = .ok (.istore 4, 2) := by decide +kernel
theorem dX0_alikeWith_34 : decode cX0_alikeWith 34 = .ok (.iload 4, 2) := by decide +kernel
theorem dX0_alikeWith_36 : decode cX0_alikeWith 36 = .ok (.iconst (-1), 1) := by decide +kernel
theorem dX0_alikeWith_37 : decode cX0_alikeWith 37 = .ok (.if_icmp .eq 26, 3) := by decide +kernel
theorem dX0_alikeWith_40 : decode cX0_alikeWith 40 = .ok (.aload_n 1, 1) := by decide +kernel
theorem dX0_alikeWith_41 : decode cX0_alikeWith 41 = .ok (.getfield 18, 3) := by decide +kernel
theorem dX0_alikeWith_44 : decode cX0_alikeWith 44 = .ok (.iload 4, 2) := by decide +kernel
theorem dX0_alikeWith_46 : decode cX0_alikeWith 46 = .ok (.invokestatic 25, 3) := by decide +kernel
theorem dX0_alikeWith_49 : decode cX0_alikeWith 49 = .ok (.aload_n 0, 1) := by decide +kernel
theorem dX0_alikeWith_50 : decode cX0_alikeWith 50 = .ok (.getfield 18, 3) := by decide +kernel
theorem dX0_alikeWith_53 : decode cX0_alikeWith 53 = .ok (.iload_n 3, 1) := by decide +kernel
theorem dX0_alikeWith_54 : decode cX0_alikeWith 54 = .ok (.invokestatic 25, 3) := by decide +kernel
theorem dX0_alikeWith_57 : decode cX0_alikeWith 57 = .ok (.if_icmp .ne 6, 3) := by decide +kernel
theorem dX0_alikeWith_60 : decode cX0_alikeWith 60 = .ok (.iinc 2 1, 3) := by decide +kernel
theorem dX0_alikeWith_63 : decode cX0_alikeWith 63 = .ok (.iinc 3 1, 3) := by decide +kernel
theorem dX0_alikeWith_66 : decode cX0_alikeWith 66 = .ok (.goto (-62), 3) := by decide +kernel
theorem dX0_alikeWith_69 : decode cX0_alikeWith 69 = .ok (.iload_n 2, 1) := by decide +kernel
theorem dX0_alikeWith_70 : decode cX0_alikeWith 70 = .ok (.ireturn, 1) := by decide +kernel
theorem dX1_init_0 : decode cX1_init 0 = .ok (.aload_n 0, 1) := by decide +kernel
theorem dX1_init_1 : decode cX1_init 1 = .ok (.invokespecial 3, 3) := by decide +kernel
theorem dX1_init_4 : decode cX1_init 4 = .ok (.aload_n 0, 1) := by decide +kernel
theorem dX1_init_5 : decode cX1_init 5 = .ok (.bipush 8, 2) := by decide +kernel
theorem dX1_init_7 : decode cX1_init 7 = .ok (.anewarray 9, 3) := by decide +kernel
theorem dX1_init_10 : decode cX1_init 10 = .ok (.putfield 11, 3) := by decide +kernel
theorem dX1_init_13 : decode cX1_init 13 = .ok (.aload_n 0, 1) := by decide +kernel
theorem dX1_init_14 : decode cX1_init 14 = .ok (.iconst 2, 1) := by decide +kernel
theorem dX1_init_15 : decode cX1_init 15 = .ok (.anewarray 9, 3) := by decide +kernel
theorem dX1_init_18 : decode cX1_init 18 = .ok (.putfield 17, 3) := by decide +kernel
theorem dX1_init_21 : decode cX1_init 21 = .ok (.aload_n 0, 1) := by decide +kernel
theorem dX1_init_22 : decode cX1_init 22 = .ok (.iconst 2, 1) := by decide +kernel
theorem dX1_init_23 : decode cX1_init 23 = .ok (.newarray .int, 2) := by decide +kernel
theorem dX1_init_25 : decode cX1_init 25 = .ok (.putfield 20, 3) := by decide +kernel
theorem dX1_init_28 : decode cX1_init 28 = .ok (.iconst 0, 1) := by decide +kernel
theorem dX1_init_29 : decode cX1_init 29 = .ok (.istore_n 1, 1) := by decide +kernel
theorem dX1_init_30 : decode cX1_init 30 = .ok (.iload_n 1, 1) := by decide +kernel
theorem dX1_init_31 : decode cX1_init 31 = .ok (.aload_n 0, 1) := by decide +kernel
theorem dX1_init_32 : decode cX1_init 32 = .ok (.getfield 11, 3) := by decide +kernel
theorem dX1_init_35 : decode cX1_init 35 = .ok (.arraylength, 1) := by decide +kernel
theorem dX1_init_36 : decode cX1_init 36 = .ok (.if_icmp .ge 22, 3) := by decide +kernel
theorem dX1_init_39 : decode cX1_init 39 = .ok (.aload_n 0, 1) := by decide +kernel
theorem dX1_init_40 : decode cX1_init 40 = .ok (.getfield 11, 3) := by decide +kernel
theorem dX1_init_43 : decode cX1_init 43 = .ok (.iload_n 1, 1) := by decide +kernel
theorem dX1_init_44 : decode cX1_init 44 = .ok (.new 9, 3) := by decide +kernel
theorem dX1_init_47 : decode cX1_init 47 = .ok (.dup, 1) := by decide +kernel
theorem dX1_init_48 : decode cX1_init 48 = .ok (.invokespecial 24, 3) := by decide +kernel
theorem dX1_init_51 : decode cX1_init 51 = .ok (.aastore, 1) := by decide +kernel
theorem dX1_init_52 : decode cX1_init 52 = .ok (.iinc 1 1, 3) := by decide +kernel
theorem dX1_init_55 : decode cX1_init 55 = .ok (.goto (-25), 3) := by decide +kernel
theorem dX1_init_58 : decode cX1_init 58 = .ok (.iconst 0, 1) := by decide +kernel
theorem dX1_init_59 : decode cX1_init 59 = .ok (.istore_n 1, 1) := by decide +kernel
theorem dX1_init_60 : decode cX1_init 60 = .ok (.iload_n 1, 1) := by decide +kernel
theorem dX1_init_61 : decode cX1_init 61 = .ok (.aload_n 0, 1) := by decide +kernel
theorem dX1_init_62 : decode cX1_init 62 = .ok (.getfield 17, 3) := by decide +kernel
theorem dX1_init_65 : decode cX1_init 65 = .ok (.arraylength, 1) := by decide +kernel
theorem dX1_init_66 : decode cX1_init 66 = .ok (.if_icmp .ge 22, 3) := by decide +kernel
theorem dX1_init_69 : decode cX1_init 69 = .ok (.aload_n 0, 1) := by decide +kernel
theorem dX1_init_70 : decode cX1_init 70 = .ok (.getfield 17, 3) := by decide +kernel
theorem dX1_init_73 : decode cX1_init 73 = .ok (.iload_n 1, 1) := by decide +kernel
theorem dX1_init_74 : decode cX1_init 74 = .ok (.new 9, 3) := by decide +kernel
theorem dX1_init_77 : decode cX1_init 77 = .ok (.dup, 1) := by decide +kernel
theorem dX1_init_78 : decode cX1_init 78 = .ok (.invokespecial 24, 3) := by decide +kernel
theorem dX1_init_81 : decode cX1_init 81 = .ok (.aastore, 1) := by decide +kernel
theorem dX1_init_82 : decode cX1_init 82 = .ok (.iinc 1 1, 3) := by decide +kernel
theorem dX1_init_85 : decode cX1_init 85 = .ok (.goto (-25), 3) := by decide +kernel
theorem dX1_init_88 : decode cX1_init 88 = .ok (.return_, 1) := by decide +kernel
theorem dX1_forget_0 : decode cX1_forget 0 = .ok (.aload_n 0, 1) := by decide +kernel
theorem dX1_forget_1 : decode cX1_forget 1 = .ok (.iconst 0, 1) := by decide +kernel
theorem dX1_forget_2 : decode cX1_forget 2 = .ok (.putfield 25, 3) := by decide +kernel
theorem dX1_forget_5 : decode cX1_forget 5 = .ok (.iconst 0, 1) := by decide +kernel
theorem dX1_forget_6 : decode cX1_forget 6 = .ok (.istore_n 1, 1) := by decide +kernel
theorem dX1_forget_7 : decode cX1_forget 7 = .ok (.iload_n 1, 1) := by decide +kernel
theorem dX1_forget_8 : decode cX1_forget 8 = .ok (.iconst 2, 1) := by decide +kernel
theorem dX1_forget_9 : decode cX1_forget 9 = .ok (.if_icmp .ge 18, 3) := by decide +kernel
theorem dX1_forget_12 : decode cX1_forget 12 = .ok (.aload_n 0, 1) := by decide +kernel
theorem dX1_forget_13 : decode cX1_forget 13 = .ok (.getfield 20, 3) := by decide +kernel
theorem dX1_forget_16 : decode cX1_forget 16 = .ok (.iload_n 1, 1) := by decide +kernel
theorem dX1_forget_17 : decode cX1_forget 17 = .ok (.iconst 0, 1) := by decide +kernel
theorem dX1_forget_18 : decode cX1_forget 18 = .ok (.invokestatic 29, 3) := by decide +kernel
theorem dX1_forget_21 : decode cX1_forget 21 = .ok (.iinc 1 1, 3) := by decide +kernel
theorem dX1_forget_24 : decode cX1_forget 24 = .ok (.goto (-17), 3) := by decide +kernel
theorem dX1_forget_27 : decode cX1_forget 27 = .ok (.return_, 1) := by decide +kernel
theorem dX1_slot_0 : decode cX1_slot 0 = .ok (.aload_n 0, 1) := by decide +kernel
theorem dX1_slot_1 : decode cX1_slot 1 = .ok (.ifnull 19, 3) := by decide +kernel
theorem dX1_slot_4 : decode cX1_slot 4 = .ok (.iload_n 1, 1) := by decide +kernel
theorem dX1_slot_5 : decode cX1_slot 5 = .ok (.ifCond .lt 15, 3) := by decide +kernel
theorem dX1_slot_8 : decode cX1_slot 8 = .ok (.iload_n 1, 1) := by decide +kernel
theorem dX1_slot_9 : decode cX1_slot 9 = .ok (.aload_n 0, 1) := by decide +kernel
theorem dX1_slot_10 : decode cX1_slot 10 = .ok (.arraylength, 1) := by decide +kernel
theorem dX1_slot_11 : decode cX1_slot 11 = .ok (.if_icmp .ge 9, 3) := by decide +kernel
theorem dX1_slot_14 : decode cX1_slot 14 = .ok (.aload_n 0, 1) := by decide +kernel
theorem dX1_slot_15 : decode cX1_slot 15 = .ok (.iload_n 1, 1) := by decide +kernel
theorem dX1_slot_16 : decode cX1_slot 16 = .ok (.aaload, 1) := by decide +kernel
theorem dX1_slot_17 : decode cX1_slot 17 = .ok (.goto 4, 3) := by decide +kernel
theorem dX1_slot_20 : decode cX1_slot 20 = .ok (.aconst_null, 1) := by decide +kernel
theorem dX1_slot_21 : decode cX1_slot 21 = .ok (.areturn, 1) := by decide +kernel
theorem dX1_remember_0 : decode cX1_remember 0 = .ok (.aload_n 0, 1) := by decide +kernel
theorem dX1_remember_1 : decode cX1_remember 1 = .ok (.getfield 11, 3) := by decide +kernel
theorem dX1_remember_4 : decode cX1_remember 4 = .ok (.aload_n 0, 1) := by decide +kernel
theorem dX1_remember_5 : decode cX1_remember 5 = .ok (.getfield 33, 3) := by decide +kernel
theorem dX1_remember_8 : decode cX1_remember 8 = .ok (.invokestatic 36, 3) := by decide +kernel
theorem dX1_remember_11 : decode cX1_remember 11 = .ok (.astore_n 2, 1) := by decide +kernel
theorem dX1_remember_12 : decode cX1_remember 12 = .ok (.aload_n 2, 1) := by decide +kernel
theorem dX1_remember_13 : decode cX1_remember 13 = .ok (.ifnonnull 4, 3) := by decide +kernel
theorem dX1_remember_16 : decode cX1_remember 16 = .ok (.return_, 1) := by decide +kernel
theorem dX1_remember_17 : decode cX1_remember 17 = .ok (.aload_n 2, 1) := by decide +kernel
theorem dX1_remember_18 : decode cX1_remember 18 = .ok (.aload_n 1, 1) := by decide +kernel
theorem dX1_remember_19 : decode cX1_remember 19 = .ok (.invokevirtual 40, 3) := by decide +kernel
theorem dX1_remember_22 : decode cX1_remember 22 = .ok (.aload_n 0, 1) := by decide +kernel
theorem dX1_remember_23 : decode cX1_remember 23 = .ok (.aload_n 0, 1) := by decide +kernel
theorem dX1_remember_24 : decode cX1_remember 24 = .ok (.getfield 33, 3) := by decide +kernel
theorem dX1_remember_27 : decode cX1_remember 27 = .ok (.iconst 1, 1) := by decide +kernel
theorem dX1_remember_28 : decode cX1_remember 28 = .ok (.iadd, 1) := by decide +kernel
theorem dX1_remember_29 : decode cX1_remember 29 = .ok (.bipush 8, 2) := by decide +kernel
theorem dX1_remember_31 : decode cX1_remember 31 = .ok (.irem, 1) := by decide +kernel
theorem dX1_remember_32 : decode cX1_remember 32 = .ok (.putfield 33, 3) := by decide +kernel
theorem dX1_remember_35 : decode cX1_remember 35 = .ok (.aload_n 0, 1) := by decide +kernel
theorem dX1_remember_36 : decode cX1_remember 36 = .ok (.aload_n 0, 1) := by decide +kernel
theorem dX1_remember_37 : decode cX1_remember 37 = .ok (.getfield 25, 3) := by decide +kernel
theorem dX1_remember_40 : decode cX1_remember 40 = .ok (.iconst 1, 1) := by decide +kernel
theorem dX1_remember_41 : decode cX1_remember 41 = .ok (.iadd, 1) := by decide +kernel
theorem dX1_remember_42 : decode cX1_remember 42 = .ok (.bipush 8, 2) := by decide +kernel
theorem dX1_remember_44 : decode cX1_remember 44 = .ok (.invokestatic 44, 3) := by decide +kernel
theorem dX1_remember_47 : decode cX1_remember 47 = .ok (.putfield 25, 3) := by decide +kernel
theorem dX1_remember_50 : decode cX1_remember 50 = .ok (.return_, 1) := by decide +kernel
theorem dX1_takeBack_0 : decode cX1_takeBack 0 = .ok (.aload_n 0, 1) := by decide +kernel
theorem dX1_takeBack_1 : decode cX1_takeBack 1 = .ok (.getfield 33, 3) := by decide +kernel
theorem dX1_takeBack_4 : decode cX1_takeBack 4 = .ok (.bipush 8, 2) := by decide +kernel
theorem dX1_takeBack_6 : decode cX1_takeBack 6 = .ok (.iadd, 1) := by decide +kernel
theorem dX1_takeBack_7 : decode cX1_takeBack 7 = .ok (.iconst 1, 1) := by decide +kernel
theorem dX1_takeBack_8 : decode cX1_takeBack 8 = .ok (.isub, 1) := by decide +kernel
theorem dX1_takeBack_9 : decode cX1_takeBack 9 = .ok (.bipush 8, 2) := by decide +kernel
theorem dX1_takeBack_11 : decode cX1_takeBack 11 = .ok (.irem, 1) := by decide +kernel
theorem dX1_takeBack_12 : decode cX1_takeBack 12 = .ok (.istore_n 2, 1) := by decide +kernel
theorem dX1_takeBack_13 : decode cX1_takeBack 13 = .ok (.aload_n 0, 1) := by decide +kernel
theorem dX1_takeBack_14 : decode cX1_takeBack 14 = .ok (.getfield 11, 3) := by decide +kernel
theorem dX1_takeBack_17 : decode cX1_takeBack 17 = .ok (.iload_n 2, 1) := by decide +kernel
theorem dX1_takeBack_18 : decode cX1_takeBack 18 = .ok (.invokestatic 36, 3) := by decide +kernel
theorem dX1_takeBack_21 : decode cX1_takeBack 21 = .ok (.astore_n 3, 1) := by decide +kernel
theorem dX1_takeBack_22 : decode cX1_takeBack 22 = .ok (.aload_n 3, 1) := by decide +kernel
theorem dX1_takeBack_23 : decode cX1_takeBack 23 = .ok (.ifnull 10, 3) := by decide +kernel
theorem dX1_takeBack_26 : decode cX1_takeBack 26 = .ok (.aload_n 0, 1) := by decide +kernel
theorem dX1_takeBack_27 : decode cX1_takeBack 27 = .ok (.getfield 25, 3) := by decide +kernel
theorem dX1_takeBack_30 : decode cX1_takeBack 30 = .ok (.ifCond .ne 4, 3) := by decide +kernel
theorem dX1_takeBack_33 : decode cX1_takeBack 33 = .ok (.return_, 1) := by decide +kernel
theorem dX1_takeBack_34 : decode cX1_takeBack 34 = .ok (.aload_n 1, 1) := by decide +kernel
theorem dX1_takeBack_35 : decode cX1_takeBack 35 = .ok (.aload_n 3, 1) := by decide +kernel
theorem dX1_takeBack_36 : decode cX1_takeBack 36 = .ok (.invokevirtual 40, 3) := by decide +kernel
theorem dX1_takeBack_39 : decode cX1_takeBack 39 = .ok (.aload_n 0, 1) := by decide +kernel
theorem dX1_takeBack_40 : decode cX1_takeBack 40 = .ok (.iload_n 2, 1) := by decide +kernel
theorem dX1_takeBack_41 : decode cX1_takeBack 41 = .ok (.putfield 33, 3) := by decide +kernel
theorem dX1_takeBack_44 : decode cX1_takeBack 44 = .ok (.aload_n 0, 1) := by decide +kernel
theorem dX1_takeBack_45 : decode cX1_takeBack 45 = .ok (.dup, 1) := by decide +kernel
theorem dX1_takeBack_46 : decode cX1_takeBack 46 = .ok (.getfield 25, 3) := by decide +kernel
theorem dX1_takeBack_49 : decode cX1_takeBack 49 = .ok (.iconst 1, 1) := by decide +kernel
theorem dX1_takeBack_50 : decode cX1_takeBack 50 = .ok (.isub, 1) := by decide +kernel
theorem dX1_takeBack_51 : decode cX1_takeBack 51 = .ok (.putfield 25, 3) := by decide +kernel
theorem dX1_takeBack_54 : decode cX1_takeBack 54 = .ok (.return_, 1) := by decide +kernel
theorem dX1_isStored_0 : decode cX1_isStored 0 = .ok (.aload_n 0, 1) := by decide +kernel
theorem dX1_isStored_1 : decode cX1_isStored 1 = .ok (.getfield 20, 3) := by decide +kernel
theorem dX1_isStored_4 : decode cX1_isStored 4 = .ok (.iload_n 1, 1) := by decide +kernel
theorem dX1_isStored_5 : decode cX1_isStored 5 = .ok (.invokestatic 50, 3) := by decide +kernel
theorem dX1_isStored_8 : decode cX1_isStored 8 = .ok (.iconst 1, 1) := by decide +kernel
theorem dX1_isStored_9 : decode cX1_isStored 9 = .ok (.if_icmp .ne 7, 3) := by decide +kernel
theorem dX1_isStored_12 : decode cX1_isStored 12 = .ok (.iconst 1, 1) := by decide +kernel
theorem dX1_isStored_13 : decode cX1_isStored 13 = .ok (.goto 4, 3) := by decide +kernel
theorem dX1_isStored_16 : decode cX1_isStored 16 = .ok (.iconst 0, 1) := by decide +kernel
theorem dX1_isStored_17 : decode cX1_isStored 17 = .ok (.ireturn, 1) := by decide +kernel
theorem dX1_store_0 : decode cX1_store 0 = .ok (.aload_n 0, 1) := by decide +kernel
theorem dX1_store_1 : decode cX1_store 1 = .ok (.getfield 17, 3) := by decide +kernel
theorem dX1_store_4 : decode cX1_store 4 = .ok (.iload_n 1, 1) := by decide +kernel
theorem dX1_store_5 : decode cX1_store 5 = .ok (.invokestatic 36, 3) := by decide +kernel
theorem dX1_store_8 : decode cX1_store 8 = .ok (.astore_n 3, 1) := by decide +kernel
theorem dX1_store_9 : decode cX1_store 9 = .ok (.aload_n 3, 1) := by decide +kernel
theorem dX1_store_10 : decode cX1_store 10 = .ok (.ifnonnull 4, 3) := by decide +kernel
theorem dX1_store_13 : decode cX1_store 13 = .ok (.return_, 1) := by decide +kernel
theorem dX1_store_14 : decode cX1_store 14 = .ok (.aload_n 3, 1) := by decide +kernel
theorem dX1_store_15 : decode cX1_store 15 = .ok (.aload_n 2, 1) := by decide +kernel
theorem dX1_store_16 : decode cX1_store 16 = .ok (.invokevirtual 40, 3) := by decide +kernel
theorem dX1_store_19 : decode cX1_store 19 = .ok (.aload_n 0, 1) := by decide +kernel
theorem dX1_store_20 : decode cX1_store 20 = .ok (.getfield 20, 3) := by decide +kernel
theorem dX1_store_23 : decode cX1_store 23 = .ok (.iload_n 1, 1) := by decide +kernel
theorem dX1_store_24 : decode cX1_store 24 = .ok (.iconst 1, 1) := by decide +kernel
theorem dX1_store_25 : decode cX1_store 25 = .ok (.invokestatic 29, 3) := by decide +kernel
theorem dX1_store_28 : decode cX1_store 28 = .ok (.return_, 1) := by decide +kernel
theorem dX1_restore_0 : decode cX1_restore 0 = .ok (.aload_n 0, 1) := by decide +kernel
theorem dX1_restore_1 : decode cX1_restore 1 = .ok (.getfield 17, 3) := by decide +kernel
theorem dX1_restore_4 : decode cX1_restore 4 = .ok (.iload_n 1, 1) := by decide +kernel
theorem dX1_restore_5 : decode cX1_restore 5 = .ok (.invokestatic 36, 3) := by decide +kernel
theorem dX1_restore_8 : decode cX1_restore 8 = .ok (.astore_n 3, 1) := by decide +kernel
theorem dX1_restore_9 : decode cX1_restore 9 = .ok (.aload_n 3, 1) := by decide +kernel
theorem dX1_restore_10 : decode cX1_restore 10 = .ok (.ifnonnull 4, 3) := by decide +kernel
theorem dX1_restore_13 : decode cX1_restore 13 = .ok (.return_, 1) := by decide +kernel
theorem dX1_restore_14 : decode cX1_restore 14 = .ok (.aload_n 2, 1) := by decide +kernel
theorem dX1_restore_15 : decode cX1_restore 15 = .ok (.aload_n 3, 1) := by decide +kernel
theorem dX1_restore_16 : decode cX1_restore 16 = .ok (.invokevirtual 40, 3) := by decide +kernel
theorem dX1_restore_19 : decode cX1_restore 19 = .ok (.aload_n 0, 1) := by decide +kernel
theorem dX1_restore_20 : decode cX1_restore 20 = .ok (.iconst 0, 1) := by decide +kernel
theorem dX1_restore_21 : decode cX1_restore 21 = .ok (.putfield 25, 3) := by decide +kernel
theorem dX1_restore_24 : decode cX1_restore 24 = .ok (.return_, 1) := by decide +kernel
theorem dX2_init_0 : decode cX2_init 0 = .ok (.aload_n 0, 1) := by decide +kernel
theorem dX2_init_1 : decode cX2_init 1 = .ok (.invokespecial 3, 3) := by decide +kernel
theorem dX2_init_4 : decode cX2_init 4 = .ok (.aload_n 0, 1) := by decide +kernel
theorem dX2_init_5 : decode cX2_init 5 = .ok (.new 9, 3) := by decide +kernel
theorem dX2_init_8 : decode cX2_init 8 = .ok (.dup, 1) := by decide +kernel
theorem dX2_init_9 : decode cX2_init 9 = .ok (.invokespecial 11, 3) := by decide +kernel
theorem dX2_init_12 : decode cX2_init 12 = .ok (.putfield 12, 3) := by decide +kernel
theorem dX2_init_15 : decode cX2_init 15 = .ok (.aload_n 0, 1) := by decide +kernel
theorem dX2_init_16 : decode cX2_init 16 = .ok (.new 18, 3) := by decide +kernel
theorem dX2_init_19 : decode cX2_init 19 = .ok (.dup, 1) := by decide +kernel
theorem dX2_init_20 : decode cX2_init 20 = .ok (.invokespecial 20, 3) := by decide +kernel
theorem dX2_init_23 : decode cX2_init 23 = .ok (.putfield 21, 3) := by decide +kernel
theorem dX2_init_26 : decode cX2_init 26 = .ok (.return_, 1) := by decide +kernel
theorem dX2_firstFault_0 : decode cX2_firstFault 0 = .ok (.aload_n 0, 1) := by decide +kernel
theorem dX2_firstFault_1 : decode cX2_firstFault 1 = .ok (.getfield 21, 3) := by decide +kernel
theorem dX2_firstFault_4 : decode cX2_firstFault 4 = .ok (.aload_n 1, 1) := by decide +kernel
theorem dX2_firstFault_5 : decode cX2_firstFault 5 = .ok (.invokevirtual 25, 3) := by decide +kernel
theorem dX2_firstFault_8 : decode cX2_firstFault 8 = .ok (.aload_n 0, 1) := by decide +kernel
theorem dX2_firstFault_9 : decode cX2_firstFault 9 = .ok (.getfield 12, 3) := by decide +kernel
theorem dX2_firstFault_12 : decode cX2_firstFault 12 = .ok (.iconst 0, 1) := by decide +kernel
theorem dX2_firstFault_13 : decode cX2_firstFault 13 = .ok (.invokevirtual 29, 3) := by decide +kernel
theorem dX2_firstFault_16 : decode cX2_firstFault 16 = .ok (.aload_n 0, 1) := by decide +kernel
theorem dX2_firstFault_17 : decode cX2_firstFault 17 = .ok (.iconst 1, 1) := by decide +kernel
theorem dX2_firstFault_18 : decode cX2_firstFault 18 = .ok (.putfield 33, 3) := by decide +kernel
theorem dX2_firstFault_21 : decode cX2_firstFault 21 = .ok (.aload_n 0, 1) := by decide +kernel
theorem dX2_firstFault_22 : decode cX2_firstFault 22 = .ok (.getfield 33, 3) := by decide +kernel
theorem dX2_firstFault_25 : decode cX2_firstFault 25 = .ok (.bipush 24, 2) := by decide +kernel
theorem dX2_firstFault_27 : decode cX2_firstFault 27 = .ok (.if_icmp .gt 84, 3) := by decide +kernel
theorem dX2_firstFault_30 : decode cX2_firstFault 30 = .ok (.aload_n 0, 1) := by decide +kernel
theorem dX2_firstFault_31 : decode cX2_firstFault 31 = .ok (.invokevirtual 37, 3) := by decide +kernel
theorem dX2_firstFault_34 : decode cX2_firstFault 34 = .ok (.ifCond .ne 11, 3) := by decide +kernel
theorem dX2_firstFault_37 : decode cX2_firstFault 37 = .ok (.aload_n 0, 1) := by decide +kernel
theorem dX2_firstFault_38 : decode cX2_firstFault 38 = .ok (.getfield 12, 3) := by decide +kernel
theorem dX2_firstFault_41 : decode cX2_firstFault 41 = .ok (.getfield 41, 3) := by decide +kernel
theorem dX2_firstFault_44 : decode cX2_firstFault 44 = .ok (.ireturn, 1) := by decide +kernel
theorem dX2_firstFault_45 : decode cX2_firstFault 45 = .ok (.aload_n 0, 1) := by decide +kernel
theorem dX2_firstFault_46 : decode cX2_firstFault 46 = .ok (.getfield 12, 3) := by decide +kernel
theorem dX2_firstFault_49 : decode cX2_firstFault 49 = .ok (.getfield 44, 3) := by decide +kernel
theorem dX2_firstFault_52 : decode cX2_firstFault 52 = .ok (.ifCond .ne 5, 3) := by decide +kernel
theorem dX2_firstFault_55 : decode cX2_firstFault 55 = .ok (.iconst (-1), 1) := by decide +kernel
theorem dX2_firstFault_56 : decode cX2_firstFault 56 = .ok (.ireturn, 1) := by decide +kernel
theorem dX2_firstFault_57 : decode cX2_firstFault 57 = .ok (.aload_n 0, 1) := by decide +kernel
theorem dX2_firstFault_58 : decode cX2_firstFault 58 = .ok (.getfield 33, 3) := by decide +kernel
theorem dX2_firstFault_61 : decode cX2_firstFault 61 = .ok (.bipush 24, 2) := by decide +kernel
theorem dX2_firstFault_63 : decode cX2_firstFault 63 = .ok (.if_icmp .eq 13, 3) := by decide +kernel
theorem dX2_firstFault_66 : decode cX2_firstFault 66 = .ok (.aload_n 0, 1) := by decide +kernel
theorem dX2_firstFault_67 : decode cX2_firstFault 67 = .ok (.getfield 12, 3) := by decide +kernel
theorem dX2_firstFault_70 : decode cX2_firstFault 70 = .ok (.invokevirtual 47, 3) := by decide +kernel
theorem dX2_firstFault_73 : decode cX2_firstFault 73 = .ok (.ifCond .ne 11, 3) := by decide +kernel
theorem dX2_firstFault_76 : decode cX2_firstFault 76 = .ok (.aload_n 0, 1) := by decide +kernel
theorem dX2_firstFault_77 : decode cX2_firstFault 77 = .ok (.getfield 12, 3) := by decide +kernel
theorem dX2_firstFault_80 : decode cX2_firstFault 80 = .ok (.getfield 41, 3) := by decide +kernel
theorem dX2_firstFault_83 : decode cX2_firstFault 83 = .ok (.ireturn, 1) := by decide +kernel
theorem dX2_firstFault_84 : decode cX2_firstFault 84 = .ok (.aload_n 0, 1) := by decide +kernel
theorem dX2_firstFault_85 : decode cX2_firstFault 85 = .ok (.getfield 12, 3) := by decide +kernel
theorem dX2_firstFault_88 : decode cX2_firstFault 88 = .ok (.aload_n 0, 1) := by decide +kernel
theorem dX2_firstFault_89 : decode cX2_firstFault 89 = .ok (.getfield 12, 3) := by decide +kernel
theorem dX2_firstFault_92 : decode cX2_firstFault 92 = .ok (.getfield 50, 3) := by decide +kernel
theorem dX2_firstFault_95 : decode cX2_firstFault 95 = .ok (.invokevirtual 29, 3) := by decide +kernel
theorem dX2_firstFault_98 : decode cX2_firstFault 98 = .ok (.aload_n 0, 1) := by decide +kernel
theorem dX2_firstFault_99 : decode cX2_firstFault 99 = .ok (.dup, 1) := by decide +kernel
theorem dX2_firstFault_100 : decode cX2_firstFault 100 = .ok (.getfield 33, 3) := by decide +kernel
theorem dX2_firstFault_103 : decode cX2_firstFault 103 = .ok (.iconst 1, 1) := by decide +kernel
theorem dX2_firstFault_104 : decode cX2_firstFault 104 = .ok (.iadd, 1) := by decide +kernel
theorem dX2_firstFault_105 : decode cX2_firstFault 105 = .ok (.putfield 33, 3) := by decide +kernel
theorem dX2_firstFault_108 : decode cX2_firstFault 108 = .ok (.goto (-87), 3) := by decide +kernel
theorem dX2_firstFault_111 : decode cX2_firstFault 111 = .ok (.aload_n 0, 1) := by decide +kernel
theorem dX2_firstFault_112 : decode cX2_firstFault 112 = .ok (.getfield 12, 3) := by decide +kernel
theorem dX2_firstFault_115 : decode cX2_firstFault 115 = .ok (.getfield 41, 3) := by decide +kernel
theorem dX2_firstFault_118 : decode cX2_firstFault 118 = .ok (.ireturn, 1) := by decide +kernel
theorem dX2_readClause_0 : decode cX2_readClause 0 = .ok (.aload_n 0, 1) := by decide +kernel
theorem dX2_readClause_1 : decode cX2_readClause 1 = .ok (.ldc 53, 2) := by decide +kernel
theorem dX2_readClause_3 : decode cX2_readClause 3 = .ok (.invokevirtual 55, 3) := by decide +kernel
theorem dX2_readClause_6 : decode cX2_readClause 6 = .ok (.ifCond .eq 8, 3) := by decide +kernel
theorem dX2_readClause_9 : decode cX2_readClause 9 = .ok (.aload_n 0, 1) := by decide +kernel
theorem dX2_readClause_10 : decode cX2_readClause 10 = .ok (.invokevirtual 59, 3) := by decide +kernel
theorem dX2_readClause_13 : decode cX2_readClause 13 = .ok (.ireturn, 1) := by decide +kernel
theorem dX2_readClause_14 : decode cX2_readClause 14 = .ok (.aload_n 0, 1) := by decide +kernel
theorem dX2_readClause_15 : decode cX2_readClause 15 = .ok (.getfield 21, 3) := by decide +kernel
theorem dX2_readClause_18 : decode cX2_readClause 18 = .ok (.getfield 62, 3) := by decide +kernel
theorem dX2_readClause_21 : decode cX2_readClause 21 = .ok (.bipush 6, 2) := by decide +kernel
theorem dX2_readClause_23 : decode cX2_readClause 23 = .ok (.if_icmp .ge 17, 3) := by decide +kernel
theorem dX2_readClause_26 : decode cX2_readClause 26 = .ok (.aload_n 0, 1) := by decide +kernel
theorem dX2_readClause_27 : decode cX2_readClause 27 = .ok (.ldc 65, 2) := by decide +kernel
theorem dX2_readClause_29 : decode cX2_readClause 29 = .ok (.invokevirtual 55, 3) := by decide +kernel
theorem dX2_readClause_32 : decode cX2_readClause 32 = .ok (.ifCond .eq 8, 3) := by decide +kernel
theorem dX2_readClause_35 : decode cX2_readClause 35 = .ok (.aload_n 0, 1) := by decide +kernel
theorem dX2_readClause_36 : decode cX2_readClause 36 = .ok (.invokevirtual 67, 3) := by decide +kernel
theorem dX2_readClause_39 : decode cX2_readClause 39 = .ok (.ireturn, 1) := by decide +kernel
theorem dX2_readClause_40 : decode cX2_readClause 40 = .ok (.aload_n 0, 1) := by decide +kernel
theorem dX2_readClause_41 : decode cX2_readClause 41 = .ok (.ldc 70, 2) := by decide +kernel
theorem dX2_readClause_43 : decode cX2_readClause 43 = .ok (.invokevirtual 55, 3) := by decide +kernel
theorem dX2_readClause_46 : decode cX2_readClause 46 = .ok (.ifCond .eq 8, 3) := by decide +kernel
theorem dX2_readClause_49 : decode cX2_readClause 49 = .ok (.aload_n 0, 1) := by decide +kernel
theorem dX2_readClause_50 : decode cX2_readClause 50 = .ok (.invokevirtual 72, 3) := by decide +kernel
theorem dX2_readClause_53 : decode cX2_readClause 53 = .ok (.ireturn, 1) := by decide +kernel
theorem dX2_readClause_54 : decode cX2_readClause 54 = .ok (.aload_n 0, 1) := by decide +kernel
theorem dX2_readClause_55 : decode cX2_readClause 55 = .ok (.ldc 75, 2) := by decide +kernel
theorem dX2_readClause_57 : decode cX2_readClause 57 = .ok (.invokevirtual 55, 3) := by decide +kernel
theorem dX2_readClause_60 : decode cX2_readClause 60 = .ok (.ifCond .eq 8, 3) := by decide +kernel
theorem dX2_readClause_63 : decode cX2_readClause 63 = .ok (.aload_n 0, 1) := by decide +kernel
theorem dX2_readClause_64 : decode cX2_readClause 64 = .ok (.invokevirtual 77, 3) := by decide +kernel
theorem dX2_readClause_67 : decode cX2_readClause 67 = .ok (.ireturn, 1) := by decide +kernel
theorem dX2_readClause_68 : decode cX2_readClause 68 = .ok (.aload_n 0, 1) := by decide +kernel
theorem dX2_readClause_69 : decode cX2_readClause 69 = .ok (.ldc 80, 2) := by decide +kernel
theorem dX2_readClause_71 : decode cX2_readClause 71 = .ok (.invokevirtual 55, 3) := by decide +kernel
theorem dX2_readClause_74 : decode cX2_readClause 74 = .ok (.ifCond .eq 14, 3) := by decide +kernel
theorem dX2_readClause_77 : decode cX2_readClause 77 = .ok (.aload_n 0, 1) := by decide +kernel
theorem dX2_readClause_78 : decode cX2_readClause 78 = .ok (.invokevirtual 82, 3) := by decide +kernel
theorem dX2_readClause_81 : decode cX2_readClause 81 = .ok (.ifCond .eq 7, 3) := by decide +kernel
theorem dX2_readClause_84 : decode cX2_readClause 84 = .ok (.iconst 1, 1) := by decide +kernel
theorem dX2_readClause_85 : decode cX2_readClause 85 = .ok (.goto 4, 3) := by decide +kernel
theorem dX2_readClause_88 : decode cX2_readClause 88 = .ok (.iconst 0, 1) := by decide +kernel
theorem dX2_readClause_89 : decode cX2_readClause 89 = .ok (.ireturn, 1) := by decide +kernel
theorem dX2_readWall_0 : decode cX2_readWall 0 = .ok (.aload_n 0, 1) := by decide +kernel
theorem dX2_readWall_1 : decode cX2_readWall 1 = .ok (.iconst 1, 1) := by decide +kernel
theorem dX2_readWall_2 : decode cX2_readWall 2 = .ok (.sipush 999, 3) := by decide +kernel
theorem dX2_readWall_5 : decode cX2_readWall 5 = .ok (.invokevirtual 85, 3) := by decide +kernel
theorem dX2_readWall_8 : decode cX2_readWall 8 = .ok (.istore_n 1, 1) := by decide +kernel
theorem dX2_readWall_9 : decode cX2_readWall 9 = .ok (.iload_n 1, 1) := by decide +kernel
theorem dX2_readWall_10 : decode cX2_readWall 10 = .ok (.iconst (-1), 1) := by decide +kernel
theorem dX2_readWall_11 : decode cX2_readWall 11 = .ok (.if_icmp .ne 5, 3) := by decide +kernel
theorem dX2_readWall_14 : decode cX2_readWall 14 = .ok (.iconst 0, 1) := by decide +kernel
theorem dX2_readWall_15 : decode cX2_readWall 15 = .ok (.ireturn, 1) := by decide +kernel
theorem dX2_readWall_16 : decode cX2_readWall 16 = .ok (.aload_n 0, 1) := by decide +kernel
theorem dX2_readWall_17 : decode cX2_readWall 17 = .ok (.getfield 21, 3) := by decide +kernel
theorem dX2_readWall_20 : decode cX2_readWall 20 = .ok (.iload_n 1, 1) := by decide +kernel
theorem dX2_readWall_21 : decode cX2_readWall 21 = .ok (.invokevirtual 89, 3) := by decide +kernel
theorem dX2_readWall_24 : decode cX2_readWall 24 = .ok (.iconst 1, 1) := by decide +kernel
theorem dX2_readWall_25 : decode cX2_readWall 25 = .ok (.ireturn, 1) := by decide +kernel
theorem dX2_readStuff_0 : decode cX2_readStuff 0 = .ok (.aload_n 0, 1) := by decide +kernel
theorem dX2_readStuff_1 : decode cX2_readStuff 1 = .ok (.getfield 12, 3) := by decide +kernel
theorem dX2_readStuff_4 : decode cX2_readStuff 4 = .ok (.getfield 44, 3) := by decide +kernel
theorem dX2_readStuff_7 : decode cX2_readStuff 7 = .ok (.iconst 1, 1) := by decide +kernel
theorem dX2_readStuff_8 : decode cX2_readStuff 8 = .ok (.if_icmp .ne 15, 3) := by decide +kernel
theorem dX2_readStuff_11 : decode cX2_readStuff 11 = .ok (.aload_n 0, 1) := by decide +kernel
theorem dX2_readStuff_12 : decode cX2_readStuff 12 = .ok (.getfield 12, 3) := by decide +kernel
theorem dX2_readStuff_15 : decode cX2_readStuff 15 = .ok (.invokevirtual 92, 3) := by decide +kernel
theorem dX2_readStuff_18 : decode cX2_readStuff 18 = .ok (.bipush 7, 2) := by decide +kernel
theorem dX2_readStuff_20 : decode cX2_readStuff 20 = .ok (.if_icmp .le 5, 3) := by decide +kernel
theorem dX2_readStuff_23 : decode cX2_readStuff 23 = .ok (.iconst 0, 1) := by decide +kernel
theorem dX2_readStuff_24 : decode cX2_readStuff 24 = .ok (.ireturn, 1) := by decide +kernel
theorem dX2_readStuff_25 : decode cX2_readStuff 25 = .ok (.aload_n 0, 1) := by decide +kernel
theorem dX2_readStuff_26 : decode cX2_readStuff 26 = .ok (.getfield 21, 3) := by decide +kernel
theorem dX2_readStuff_29 : decode cX2_readStuff 29 = .ok (.aload_n 0, 1) := by decide +kernel
theorem dX2_readStuff_30 : decode cX2_readStuff 30 = .ok (.getfield 12, 3) := by decide +kernel
theorem dX2_readStuff_33 : decode cX2_readStuff 33 = .ok (.aload_n 0, 1) := by decide +kernel
theorem dX2_readStuff_34 : decode cX2_readStuff 34 = .ok (.getfield 12, 3) := by decide +kernel
theorem dX2_readStuff_37 : decode cX2_readStuff 37 = .ok (.getfield 41, 3) := by decide +kernel
theorem dX2_readStuff_40 : decode cX2_readStuff 40 = .ok (.aload_n 0, 1) := by decide +kernel
theorem dX2_readStuff_41 : decode cX2_readStuff 41 = .ok (.getfield 12, 3) := by decide +kernel
theorem dX2_readStuff_44 : decode cX2_readStuff 44 = .ok (.getfield 50, 3) := by decide +kernel
theorem dX2_readStuff_47 : decode cX2_readStuff 47 = .ok (.invokevirtual 96, 3) := by decide +kernel
theorem dX2_readStuff_50 : decode cX2_readStuff 50 = .ok (.iconst (-1), 1) := by decide +kernel
theorem dX2_readStuff_51 : decode cX2_readStuff 51 = .ok (.if_icmp .eq 5, 3) := by decide +kernel
theorem dX2_readStuff_54 : decode cX2_readStuff 54 = .ok (.iconst 0, 1) := by decide +kernel
theorem dX2_readStuff_55 : decode cX2_readStuff 55 = .ok (.ireturn, 1) := by decide +kernel
theorem dX2_readStuff_56 : decode cX2_readStuff 56 = .ok (.aload_n 0, 1) := by decide +kernel
theorem dX2_readStuff_57 : decode cX2_readStuff 57 = .ok (.getfield 21, 3) := by decide +kernel
theorem dX2_readStuff_60 : decode cX2_readStuff 60 = .ok (.aload_n 0, 1) := by decide +kernel
theorem dX2_readStuff_61 : decode cX2_readStuff 61 = .ok (.getfield 12, 3) := by decide +kernel
theorem dX2_readStuff_64 : decode cX2_readStuff 64 = .ok (.invokevirtual 100, 3) := by decide +kernel
theorem dX2_readStuff_67 : decode cX2_readStuff 67 = .ok (.aload_n 0, 1) := by decide +kernel
theorem dX2_readStuff_68 : decode cX2_readStuff 68 = .ok (.getfield 12, 3) := by decide +kernel
theorem dX2_readStuff_71 : decode cX2_readStuff 71 = .ok (.aload_n 0, 1) := by decide +kernel
theorem dX2_readStuff_72 : decode cX2_readStuff 72 = .ok (.getfield 12, 3) := by decide +kernel
theorem dX2_readStuff_75 : decode cX2_readStuff 75 = .ok (.getfield 50, 3) := by decide +kernel
theorem dX2_readStuff_78 : decode cX2_readStuff 78 = .ok (.invokevirtual 29, 3) := by decide +kernel
theorem dX2_readStuff_81 : decode cX2_readStuff 81 = .ok (.aload_n 0, 1) := by decide +kernel
theorem dX2_readStuff_82 : decode cX2_readStuff 82 = .ok (.iconst 1, 1) := by decide +kernel
theorem dX2_readStuff_83 : decode cX2_readStuff 83 = .ok (.bipush 20, 2) := by decide +kernel
theorem dX2_readStuff_85 : decode cX2_readStuff 85 = .ok (.invokevirtual 85, 3) := by decide +kernel
theorem dX2_readStuff_88 : decode cX2_readStuff 88 = .ok (.istore_n 1, 1) := by decide +kernel
theorem dX2_readStuff_89 : decode cX2_readStuff 89 = .ok (.iload_n 1, 1) := by decide +kernel
theorem dX2_readStuff_90 : decode cX2_readStuff 90 = .ok (.iconst (-1), 1) := by decide +kernel
theorem dX2_readStuff_91 : decode cX2_readStuff 91 = .ok (.if_icmp .ne 5, 3) := by decide +kernel
theorem dX2_readStuff_94 : decode cX2_readStuff 94 = .ok (.iconst 0, 1) := by decide +kernel
theorem dX2_readStuff_95 : decode cX2_readStuff 95 = .ok (.ireturn, 1) := by decide +kernel
theorem dX2_readStuff_96 : decode cX2_readStuff 96 = .ok (.aload_n 0, 1) := by decide +kernel
theorem dX2_readStuff_97 : decode cX2_readStuff 97 = .ok (.iconst 1, 1) := by decide +kernel
theorem dX2_readStuff_98 : decode cX2_readStuff 98 = .ok (.bipush 20, 2) := by decide +kernel
theorem dX2_readStuff_100 : decode cX2_readStuff 100 = .ok (.invokevirtual 85, 3) := by decide +kernel
theorem dX2_readStuff_103 : decode cX2_readStuff 103 = .ok (.istore_n 2, 1) := by decide +kernel
theorem dX2_readStuff_104 : decode cX2_readStuff 104 = .ok (.iload_n 2, 1) := by decide +kernel
theorem dX2_readStuff_105 : decode cX2_readStuff 105 = .ok (.iconst (-1), 1) := by decide +kernel
theorem dX2_readStuff_106 : decode cX2_readStuff 106 = .ok (.if_icmp .ne 5, 3) := by decide +kernel
theorem dX2_readStuff_109 : decode cX2_readStuff 109 = .ok (.iconst 0, 1) := by decide +kernel
theorem dX2_readStuff_110 : decode cX2_readStuff 110 = .ok (.ireturn, 1) := by decide +kernel
theorem dX2_readStuff_111 : decode cX2_readStuff 111 = .ok (.aload_n 0, 1) := by decide +kernel
theorem dX2_readStuff_112 : decode cX2_readStuff 112 = .ok (.getfield 21, 3) := by decide +kernel
theorem dX2_readStuff_115 : decode cX2_readStuff 115 = .ok (.iload_n 1, 1) := by decide +kernel
theorem dX2_readStuff_116 : decode cX2_readStuff 116 = .ok (.iload_n 2, 1) := by decide +kernel
theorem dX2_readStuff_117 : decode cX2_readStuff 117 = .ok (.invokevirtual 104, 3) := by decide +kernel
theorem dX2_readStuff_120 : decode cX2_readStuff 120 = .ok (.iconst 1, 1) := by decide +kernel
theorem dX2_readStuff_121 : decode cX2_readStuff 121 = .ok (.ireturn, 1) := by decide +kernel
theorem dX2_readLayer_0 : decode cX2_readLayer 0 = .ok (.aload_n 0, 1) := by decide +kernel
theorem dX2_readLayer_1 : decode cX2_readLayer 1 = .ok (.getfield 21, 3) := by decide +kernel
theorem dX2_readLayer_4 : decode cX2_readLayer 4 = .ok (.aload_n 0, 1) := by decide +kernel
theorem dX2_readLayer_5 : decode cX2_readLayer 5 = .ok (.getfield 12, 3) := by decide +kernel
theorem dX2_readLayer_8 : decode cX2_readLayer 8 = .ok (.aload_n 0, 1) := by decide +kernel
theorem dX2_readLayer_9 : decode cX2_readLayer 9 = .ok (.getfield 12, 3) := by decide +kernel
theorem dX2_readLayer_12 : decode cX2_readLayer 12 = .ok (.getfield 41, 3) := by decide +kernel
theorem dX2_readLayer_15 : decode cX2_readLayer 15 = .ok (.aload_n 0, 1) := by decide +kernel
theorem dX2_readLayer_16 : decode cX2_readLayer 16 = .ok (.getfield 12, 3) := by decide +kernel
theorem dX2_readLayer_19 : decode cX2_readLayer 19 = .ok (.getfield 50, 3) := by decide +kernel
theorem dX2_readLayer_22 : decode cX2_readLayer 22 = .ok (.invokevirtual 96, 3) := by decide +kernel
theorem dX2_readLayer_25 : decode cX2_readLayer 25 = .ok (.istore_n 1, 1) := by decide +kernel
theorem dX2_readLayer_26 : decode cX2_readLayer 26 = .ok (.iload_n 1, 1) := by decide +kernel
theorem dX2_readLayer_27 : decode cX2_readLayer 27 = .ok (.iconst (-1), 1) := by decide +kernel
theorem dX2_readLayer_28 : decode cX2_readLayer 28 = .ok (.if_icmp .ne 5, 3) := by decide +kernel
theorem dX2_readLayer_31 : decode cX2_readLayer 31 = .ok (.iconst 0, 1) := by decide +kernel
theorem dX2_readLayer_32 : decode cX2_readLayer 32 = .ok (.ireturn, 1) := by decide +kernel
theorem dX2_readLayer_33 : decode cX2_readLayer 33 = .ok (.aload_n 0, 1) := by decide +kernel
theorem dX2_readLayer_34 : decode cX2_readLayer 34 = .ok (.getfield 12, 3) := by decide +kernel
theorem dX2_readLayer_37 : decode cX2_readLayer 37 = .ok (.aload_n 0, 1) := by decide +kernel
theorem dX2_readLayer_38 : decode cX2_readLayer 38 = .ok (.getfield 12, 3) := by decide +kernel
theorem dX2_readLayer_41 : decode cX2_readLayer 41 = .ok (.getfield 50, 3) := by decide +kernel
theorem dX2_readLayer_44 : decode cX2_readLayer 44 = .ok (.invokevirtual 29, 3) := by decide +kernel
theorem dX2_readLayer_47 : decode cX2_readLayer 47 = .ok (.aload_n 0, 1) := by decide +kernel
theorem dX2_readLayer_48 : decode cX2_readLayer 48 = .ok (.iconst 1, 1) := by decide +kernel
theorem dX2_readLayer_49 : decode cX2_readLayer 49 = .ok (.bipush 9, 2) := by decide +kernel
theorem dX2_readLayer_51 : decode cX2_readLayer 51 = .ok (.bipush 10, 2) := by decide +kernel
theorem dX2_readLayer_53 : decode cX2_readLayer 53 = .ok (.aload_n 0, 1) := by decide +kernel
theorem dX2_readLayer_54 : decode cX2_readLayer 54 = .ok (.getfield 21, 3) := by decide +kernel
theorem dX2_readLayer_57 : decode cX2_readLayer 57 = .ok (.getfield 108, 3) := by decide +kernel
theorem dX2_readLayer_60 : decode cX2_readLayer 60 = .ok (.isub, 1) := by decide +kernel
theorem dX2_readLayer_61 : decode cX2_readLayer 61 = .ok (.invokestatic 111, 3) := by decide +kernel
theorem dX2_readLayer_64 : decode cX2_readLayer 64 = .ok (.invokevirtual 85, 3) := by decide +kernel
theorem dX2_readLayer_67 : decode cX2_readLayer 67 = .ok (.istore_n 2, 1) := by decide +kernel
theorem dX2_readLayer_68 : decode cX2_readLayer 68 = .ok (.iload_n 2, 1) := by decide +kernel
theorem dX2_readLayer_69 : decode cX2_readLayer 69 = .ok (.iconst (-1), 1) := by decide +kernel
theorem dX2_readLayer_70 : decode cX2_readLayer 70 = .ok (.if_icmp .ne 5, 3) := by decide +kernel
theorem dX2_readLayer_73 : decode cX2_readLayer 73 = .ok (.iconst 0, 1) := by decide +kernel
theorem dX2_readLayer_74 : decode cX2_readLayer 74 = .ok (.ireturn, 1) := by decide +kernel
theorem dX2_readLayer_75 : decode cX2_readLayer 75 = .ok (.aload_n 0, 1) := by decide +kernel
theorem dX2_readLayer_76 : decode cX2_readLayer 76 = .ok (.getfield 21, 3) := by decide +kernel
theorem dX2_readLayer_79 : decode cX2_readLayer 79 = .ok (.iload_n 1, 1) := by decide +kernel
theorem dX2_readLayer_80 : decode cX2_readLayer 80 = .ok (.iload_n 2, 1) := by decide +kernel
theorem dX2_readLayer_81 : decode cX2_readLayer 81 = .ok (.invokevirtual 116, 3) := by decide +kernel
theorem dX2_readLayer_84 : decode cX2_readLayer 84 = .ok (.iconst 1, 1) := by decide +kernel
theorem dX2_readLayer_85 : decode cX2_readLayer 85 = .ok (.ireturn, 1) := by decide +kernel
theorem dX2_readAir_0 : decode cX2_readAir 0 = .ok (.aload_n 0, 1) := by decide +kernel
theorem dX2_readAir_1 : decode cX2_readAir 1 = .ok (.iconst 0, 1) := by decide +kernel
theorem dX2_readAir_2 : decode cX2_readAir 2 = .ok (.sipush 999, 3) := by decide +kernel
theorem dX2_readAir_5 : decode cX2_readAir 5 = .ok (.invokevirtual 85, 3) := by decide +kernel
theorem dX2_readAir_8 : decode cX2_readAir 8 = .ok (.istore_n 1, 1) := by decide +kernel
theorem dX2_readAir_9 : decode cX2_readAir 9 = .ok (.iload_n 1, 1) := by decide +kernel
theorem dX2_readAir_10 : decode cX2_readAir 10 = .ok (.iconst (-1), 1) := by decide +kernel
theorem dX2_readAir_11 : decode cX2_readAir 11 = .ok (.if_icmp .ne 5, 3) := by decide +kernel
theorem dX2_readAir_14 : decode cX2_readAir 14 = .ok (.iconst 0, 1) := by decide +kernel
theorem dX2_readAir_15 : decode cX2_readAir 15 = .ok (.ireturn, 1) := by decide +kernel
theorem dX2_readAir_16 : decode cX2_readAir 16 = .ok (.aload_n 0, 1) := by decide +kernel
theorem dX2_readAir_17 : decode cX2_readAir 17 = .ok (.iconst 0, 1) := by decide +kernel
theorem dX2_readAir_18 : decode cX2_readAir 18 = .ok (.sipush 999, 3) := by decide +kernel
theorem dX2_readAir_21 : decode cX2_readAir 21 = .ok (.invokevirtual 85, 3) := by decide +kernel
theorem dX2_readAir_24 : decode cX2_readAir 24 = .ok (.istore_n 2, 1) := by decide +kernel
theorem dX2_readAir_25 : decode cX2_readAir 25 = .ok (.iload_n 2, 1) := by decide +kernel
theorem dX2_readAir_26 : decode cX2_readAir 26 = .ok (.iconst (-1), 1) := by decide +kernel
theorem dX2_readAir_27 : decode cX2_readAir 27 = .ok (.if_icmp .ne 5, 3) := by decide +kernel
theorem dX2_readAir_30 : decode cX2_readAir 30 = .ok (.iconst 0, 1) := by decide +kernel
theorem dX2_readAir_31 : decode cX2_readAir 31 = .ok (.ireturn, 1) := by decide +kernel
theorem dX2_readAir_32 : decode cX2_readAir 32 = .ok (.aload_n 0, 1) := by decide +kernel
theorem dX2_readAir_33 : decode cX2_readAir 33 = .ok (.getfield 21, 3) := by decide +kernel
theorem dX2_readAir_36 : decode cX2_readAir 36 = .ok (.getfield 119, 3) := by decide +kernel
theorem dX2_readAir_39 : decode cX2_readAir 39 = .ok (.iload_n 1, 1) := by decide +kernel
theorem dX2_readAir_40 : decode cX2_readAir 40 = .ok (.putfield 123, 3) := by decide +kernel
theorem dX2_readAir_43 : decode cX2_readAir 43 = .ok (.aload_n 0, 1) := by decide +kernel
theorem dX2_readAir_44 : decode cX2_readAir 44 = .ok (.getfield 21, 3) := by decide +kernel
theorem dX2_readAir_47 : decode cX2_readAir 47 = .ok (.getfield 119, 3) := by decide +kernel
theorem dX2_readAir_50 : decode cX2_readAir 50 = .ok (.iload_n 2, 1) := by decide +kernel
theorem dX2_readAir_51 : decode cX2_readAir 51 = .ok (.putfield 128, 3) := by decide +kernel
theorem dX2_readAir_54 : decode cX2_readAir 54 = .ok (.iconst 1, 1) := by decide +kernel
theorem dX2_readAir_55 : decode cX2_readAir 55 = .ok (.ireturn, 1) := by decide +kernel
theorem dX2_readHeat_0 : decode cX2_readHeat 0 = .ok (.aload_n 0, 1) := by decide +kernel
theorem dX2_readHeat_1 : decode cX2_readHeat 1 = .ok (.iconst 0, 1) := by decide +kernel
theorem dX2_readHeat_2 : decode cX2_readHeat 2 = .ok (.aload_n 0, 1) := by decide +kernel
theorem dX2_readHeat_3 : decode cX2_readHeat 3 = .ok (.getfield 21, 3) := by decide +kernel
theorem dX2_readHeat_6 : decode cX2_readHeat 6 = .ok (.getfield 108, 3) := by decide +kernel
theorem dX2_readHeat_9 : decode cX2_readHeat 9 = .ok (.iconst 1, 1) := by decide +kernel
theorem dX2_readHeat_10 : decode cX2_readHeat 10 = .ok (.isub, 1) := by decide +kernel
theorem dX2_readHeat_11 : decode cX2_readHeat 11 = .ok (.invokevirtual 85, 3) := by decide +kernel
theorem dX2_readHeat_14 : decode cX2_readHeat 14 = .ok (.istore_n 1, 1) := by decide +kernel
theorem dX2_readHeat_15 : decode cX2_readHeat 15 = .ok (.iload_n 1, 1) := by decide +kernel
theorem dX2_readHeat_16 : decode cX2_readHeat 16 = .ok (.iconst (-1), 1) := by decide +kernel
theorem dX2_readHeat_17 : decode cX2_readHeat 17 = .ok (.if_icmp .ne 5, 3) := by decide +kernel
theorem dX2_readHeat_20 : decode cX2_readHeat 20 = .ok (.iconst 0, 1) := by decide +kernel
theorem dX2_readHeat_21 : decode cX2_readHeat 21 = .ok (.ireturn, 1) := by decide +kernel
theorem dX2_readHeat_22 : decode cX2_readHeat 22 = .ok (.aload_n 0, 1) := by decide +kernel
theorem dX2_readHeat_23 : decode cX2_readHeat 23 = .ok (.iconst 0, 1) := by decide +kernel
theorem dX2_readHeat_24 : decode cX2_readHeat 24 = .ok (.sipush 9999, 3) := by decide +kernel
theorem dX2_readHeat_27 : decode cX2_readHeat 27 = .ok (.invokevirtual 85, 3) := by decide +kernel
theorem dX2_readHeat_30 : decode cX2_readHeat 30 = .ok (.istore_n 2, 1) := by decide +kernel
theorem dX2_readHeat_31 : decode cX2_readHeat 31 = .ok (.iload_n 2, 1) := by decide +kernel
theorem dX2_readHeat_32 : decode cX2_readHeat 32 = .ok (.iconst (-1), 1) := by decide +kernel
theorem dX2_readHeat_33 : decode cX2_readHeat 33 = .ok (.if_icmp .ne 5, 3) := by decide +kernel
theorem dX2_readHeat_36 : decode cX2_readHeat 36 = .ok (.iconst 0, 1) := by decide +kernel
theorem dX2_readHeat_37 : decode cX2_readHeat 37 = .ok (.ireturn, 1) := by decide +kernel
theorem dX2_readHeat_38 : decode cX2_readHeat 38 = .ok (.aload_n 0, 1) := by decide +kernel
theorem dX2_readHeat_39 : decode cX2_readHeat 39 = .ok (.getfield 21, 3) := by decide +kernel
theorem dX2_readHeat_42 : decode cX2_readHeat 42 = .ok (.getfield 119, 3) := by decide +kernel
theorem dX2_readHeat_45 : decode cX2_readHeat 45 = .ok (.getfield 131, 3) := by decide +kernel
theorem dX2_readHeat_48 : decode cX2_readHeat 48 = .ok (.iload_n 1, 1) := by decide +kernel
theorem dX2_readHeat_49 : decode cX2_readHeat 49 = .ok (.iload_n 2, 1) := by decide +kernel
theorem dX2_readHeat_50 : decode cX2_readHeat 50 = .ok (.invokestatic 135, 3) := by decide +kernel
theorem dX2_readHeat_53 : decode cX2_readHeat 53 = .ok (.iconst 1, 1) := by decide +kernel
theorem dX2_readHeat_54 : decode cX2_readHeat 54 = .ok (.ireturn, 1) := by decide +kernel
theorem dX2_takeWord_0 : decode cX2_takeWord 0 = .ok (.aload_n 0, 1) := by decide +kernel
theorem dX2_takeWord_1 : decode cX2_takeWord 1 = .ok (.getfield 12, 3) := by decide +kernel
theorem dX2_takeWord_4 : decode cX2_takeWord 4 = .ok (.aload_n 1, 1) := by decide +kernel
theorem dX2_takeWord_5 : decode cX2_takeWord 5 = .ok (.invokevirtual 139, 3) := by decide +kernel
theorem dX2_takeWord_8 : decode cX2_takeWord 8 = .ok (.ifCond .ne 5, 3) := by decide +kernel
theorem dX2_takeWord_11 : decode cX2_takeWord 11 = .ok (.iconst 0, 1) := by decide +kernel
theorem dX2_takeWord_12 : decode cX2_takeWord 12 = .ok (.ireturn, 1) := by decide +kernel
theorem dX2_takeWord_13 : decode cX2_takeWord 13 = .ok (.aload_n 0, 1) := by decide +kernel
theorem dX2_takeWord_14 : decode cX2_takeWord 14 = .ok (.getfield 12, 3) := by decide +kernel
theorem dX2_takeWord_17 : decode cX2_takeWord 17 = .ok (.aload_n 0, 1) := by decide +kernel
theorem dX2_takeWord_18 : decode cX2_takeWord 18 = .ok (.getfield 12, 3) := by decide +kernel
theorem dX2_takeWord_21 : decode cX2_takeWord 21 = .ok (.getfield 50, 3) := by decide +kernel
theorem dX2_takeWord_24 : decode cX2_takeWord 24 = .ok (.invokevirtual 29, 3) := by decide +kernel
theorem dX2_takeWord_27 : decode cX2_takeWord 27 = .ok (.iconst 1, 1) := by decide +kernel
theorem dX2_takeWord_28 : decode cX2_takeWord 28 = .ok (.ireturn, 1) := by decide +kernel
theorem dX2_takeNumber_0 : decode cX2_takeNumber 0 = .ok (.aload_n 0, 1) := by decide +kernel
theorem dX2_takeNumber_1 : decode cX2_takeNumber 1 = .ok (.getfield 12, 3) := by decide +kernel
theorem dX2_takeNumber_4 : decode cX2_takeNumber 4 = .ok (.invokevirtual 142, 3) := by decide +kernel
theorem dX2_takeNumber_7 : decode cX2_takeNumber 7 = .ok (.istore_n 3, 1) := by decide +kernel
theorem dX2_takeNumber_8 : decode cX2_takeNumber 8 = .ok (.iload_n 3, 1) := by decide +kernel
theorem dX2_takeNumber_9 : decode cX2_takeNumber 9 = .ok (.iconst (-1), 1) := by decide +kernel
theorem dX2_takeNumber_10 : decode cX2_takeNumber 10 = .ok (.if_icmp .eq 13, 3) := by decide +kernel
theorem dX2_takeNumber_13 : decode cX2_takeNumber 13 = .ok (.iload_n 3, 1) := by decide +kernel
theorem dX2_takeNumber_14 : decode cX2_takeNumber 14 = .ok (.iload_n 1, 1) := by decide +kernel
theorem dX2_takeNumber_15 : decode cX2_takeNumber 15 = .ok (.if_icmp .lt 8, 3) := by decide +kernel
theorem dX2_takeNumber_18 : decode cX2_takeNumber 18 = .ok (.iload_n 3, 1) := by decide +kernel
theorem dX2_takeNumber_19 : decode cX2_takeNumber 19 = .ok (.iload_n 2, 1) := by decide +kernel
theorem dX2_takeNumber_20 : decode cX2_takeNumber 20 = .ok (.if_icmp .le 5, 3) := by decide +kernel
theorem dX2_takeNumber_23 : decode cX2_takeNumber 23 = .ok (.iconst (-1), 1) := by decide +kernel
theorem dX2_takeNumber_24 : decode cX2_takeNumber 24 = .ok (.ireturn, 1) := by decide +kernel
theorem dX2_takeNumber_25 : decode cX2_takeNumber 25 = .ok (.aload_n 0, 1) := by decide +kernel
theorem dX2_takeNumber_26 : decode cX2_takeNumber 26 = .ok (.getfield 12, 3) := by decide +kernel
theorem dX2_takeNumber_29 : decode cX2_takeNumber 29 = .ok (.aload_n 0, 1) := by decide +kernel
theorem dX2_takeNumber_30 : decode cX2_takeNumber 30 = .ok (.getfield 12, 3) := by decide +kernel
theorem dX2_takeNumber_33 : decode cX2_takeNumber 33 = .ok (.getfield 50, 3) := by decide +kernel
theorem dX2_takeNumber_36 : decode cX2_takeNumber 36 = .ok (.invokevirtual 29, 3) := by decide +kernel
theorem dX2_takeNumber_39 : decode cX2_takeNumber 39 = .ok (.iload_n 3, 1) := by decide +kernel
theorem dX2_takeNumber_40 : decode cX2_takeNumber 40 = .ok (.ireturn, 1) := by decide +kernel
theorem dX3_init_0 : decode cX3_init 0 = .ok (.aload_n 0, 1) := by decide +kernel
theorem dX3_init_1 : decode cX3_init 1 = .ok (.invokespecial 3, 3) := by decide +kernel
theorem dX3_init_4 : decode cX3_init 4 = .ok (.aload_n 0, 1) := by decide +kernel
theorem dX3_init_5 : decode cX3_init 5 = .ok (.sipush 200, 3) := by decide +kernel
theorem dX3_init_8 : decode cX3_init 8 = .ok (.newarray .int, 2) := by decide +kernel
theorem dX3_init_10 : decode cX3_init 10 = .ok (.putfield 9, 3) := by decide +kernel
theorem dX3_init_13 : decode cX3_init 13 = .ok (.return_, 1) := by decide +kernel
theorem dX3_add_0 : decode cX3_add 0 = .ok (.aload_n 0, 1) := by decide +kernel
theorem dX3_add_1 : decode cX3_add 1 = .ok (.getfield 9, 3) := by decide +kernel
theorem dX3_add_4 : decode cX3_add 4 = .ok (.aload_n 0, 1) := by decide +kernel
theorem dX3_add_5 : decode cX3_add 5 = .ok (.getfield 15, 3) := by decide +kernel
theorem dX3_add_8 : decode cX3_add 8 = .ok (.iload_n 1, 1) := by decide +kernel
theorem dX3_add_9 : decode cX3_add 9 = .ok (.invokestatic 19, 3) := by decide +kernel
theorem dX3_add_12 : decode cX3_add 12 = .ok (.aload_n 0, 1) := by decide +kernel
theorem dX3_add_13 : decode cX3_add 13 = .ok (.dup, 1) := by decide +kernel
theorem dX3_add_14 : decode cX3_add 14 = .ok (.getfield 15, 3) := by decide +kernel
theorem dX3_add_17 : decode cX3_add 17 = .ok (.iconst 1, 1) := by decide +kernel
theorem dX3_add_18 : decode cX3_add 18 = .ok (.iadd, 1) := by decide +kernel
theorem dX3_add_19 : decode cX3_add 19 = .ok (.putfield 15, 3) := by decide +kernel
theorem dX3_add_22 : decode cX3_add 22 = .ok (.return_, 1) := by decide +kernel
theorem dX3_lookFrom_0 : decode cX3_lookFrom 0 = .ok (.aload_n 0, 1) := by decide +kernel
theorem dX3_lookFrom_1 : decode cX3_lookFrom 1 = .ok (.iload_n 1, 1) := by decide +kernel
theorem dX3_lookFrom_2 : decode cX3_lookFrom 2 = .ok (.putfield 23, 3) := by decide +kernel
theorem dX3_lookFrom_5 : decode cX3_lookFrom 5 = .ok (.aload_n 0, 1) := by decide +kernel
theorem dX3_lookFrom_6 : decode cX3_lookFrom 6 = .ok (.getfield 23, 3) := by decide +kernel
theorem dX3_lookFrom_9 : decode cX3_lookFrom 9 = .ok (.aload_n 0, 1) := by decide +kernel
theorem dX3_lookFrom_10 : decode cX3_lookFrom 10 = .ok (.getfield 15, 3) := by decide +kernel
theorem dX3_lookFrom_13 : decode cX3_lookFrom 13 = .ok (.if_icmp .ge 32, 3) := by decide +kernel
theorem dX3_lookFrom_16 : decode cX3_lookFrom 16 = .ok (.aload_n 0, 1) := by decide +kernel
theorem dX3_lookFrom_17 : decode cX3_lookFrom 17 = .ok (.getfield 9, 3) := by decide +kernel
theorem dX3_lookFrom_20 : decode cX3_lookFrom 20 = .ok (.aload_n 0, 1) := by decide +kernel
theorem dX3_lookFrom_21 : decode cX3_lookFrom 21 = .ok (.getfield 23, 3) := by decide +kernel
theorem dX3_lookFrom_24 : decode cX3_lookFrom 24 = .ok (.invokestatic 26, 3) := by decide +kernel
theorem dX3_lookFrom_27 : decode cX3_lookFrom 27 = .ok (.bipush 32, 2) := by decide +kernel
theorem dX3_lookFrom_29 : decode cX3_lookFrom 29 = .ok (.if_icmp .ne 16, 3) := by decide +kernel
theorem dX3_lookFrom_32 : decode cX3_lookFrom 32 = .ok (.aload_n 0, 1) := by decide +kernel
theorem dX3_lookFrom_33 : decode cX3_lookFrom 33 = .ok (.dup, 1) := by decide +kernel
theorem dX3_lookFrom_34 : decode cX3_lookFrom 34 = .ok (.getfield 23, 3) := by decide +kernel
theorem dX3_lookFrom_37 : decode cX3_lookFrom 37 = .ok (.iconst 1, 1) := by decide +kernel
theorem dX3_lookFrom_38 : decode cX3_lookFrom 38 = .ok (.iadd, 1) := by decide +kernel
theorem dX3_lookFrom_39 : decode cX3_lookFrom 39 = .ok (.putfield 23, 3) := by decide +kernel
theorem dX3_lookFrom_42 : decode cX3_lookFrom 42 = .ok (.goto (-37), 3) := by decide +kernel
theorem dX3_lookFrom_45 : decode cX3_lookFrom 45 = .ok (.aload_n 0, 1) := by decide +kernel
theorem dX3_lookFrom_46 : decode cX3_lookFrom 46 = .ok (.aload_n 0, 1) := by decide +kernel
theorem dX3_lookFrom_47 : decode cX3_lookFrom 47 = .ok (.getfield 23, 3) := by decide +kernel
theorem dX3_lookFrom_50 : decode cX3_lookFrom 50 = .ok (.putfield 30, 3) := by decide +kernel
theorem dX3_lookFrom_53 : decode cX3_lookFrom 53 = .ok (.aload_n 0, 1) := by decide +kernel
theorem dX3_lookFrom_54 : decode cX3_lookFrom 54 = .ok (.iconst 0, 1) := by decide +kernel
theorem dX3_lookFrom_55 : decode cX3_lookFrom 55 = .ok (.putfield 33, 3) := by decide +kernel
theorem dX3_lookFrom_58 : decode cX3_lookFrom 58 = .ok (.aload_n 0, 1) := by decide +kernel
theorem dX3_lookFrom_59 : decode cX3_lookFrom 59 = .ok (.getfield 23, 3) := by decide +kernel
theorem dX3_lookFrom_62 : decode cX3_lookFrom 62 = .ok (.aload_n 0, 1) := by decide +kernel
theorem dX3_lookFrom_63 : decode cX3_lookFrom 63 = .ok (.getfield 15, 3) := by decide +kernel
theorem dX3_lookFrom_66 : decode cX3_lookFrom 66 = .ok (.if_icmp .lt 4, 3) := by decide +kernel
theorem dX3_lookFrom_69 : decode cX3_lookFrom 69 = .ok (.return_, 1) := by decide +kernel
theorem dX3_lookFrom_70 : decode cX3_lookFrom 70 = .ok (.aload_n 0, 1) := by decide +kernel
theorem dX3_lookFrom_71 : decode cX3_lookFrom 71 = .ok (.aload_n 0, 1) := by decide +kernel
theorem dX3_lookFrom_72 : decode cX3_lookFrom 72 = .ok (.getfield 9, 3) := by decide +kernel
theorem dX3_lookFrom_75 : decode cX3_lookFrom 75 = .ok (.aload_n 0, 1) := by decide +kernel
theorem dX3_lookFrom_76 : decode cX3_lookFrom 76 = .ok (.getfield 23, 3) := by decide +kernel
theorem dX3_lookFrom_79 : decode cX3_lookFrom 79 = .ok (.invokestatic 26, 3) := by decide +kernel
theorem dX3_lookFrom_82 : decode cX3_lookFrom 82 = .ok (.invokestatic 36, 3) := by decide +kernel
theorem dX3_lookFrom_85 : decode cX3_lookFrom 85 = .ok (.putfield 33, 3) := by decide +kernel
theorem dX3_lookFrom_88 : decode cX3_lookFrom 88 = .ok (.aload_n 0, 1) := by decide +kernel
theorem dX3_lookFrom_89 : decode cX3_lookFrom 89 = .ok (.dup, 1) := by decide +kernel
theorem dX3_lookFrom_90 : decode cX3_lookFrom 90 = .ok (.getfield 30, 3) := by decide +kernel
theorem dX3_lookFrom_93 : decode cX3_lookFrom 93 = .ok (.iconst 1, 1) := by decide +kernel
theorem dX3_lookFrom_94 : decode cX3_lookFrom 94 = .ok (.iadd, 1) := by decide +kernel
theorem dX3_lookFrom_95 : decode cX3_lookFrom 95 = .ok (.putfield 30, 3) := by decide +kernel
theorem dX3_lookFrom_98 : decode cX3_lookFrom 98 = .ok (.aload_n 0, 1) := by decide +kernel
theorem dX3_lookFrom_99 : decode cX3_lookFrom 99 = .ok (.getfield 33, 3) := by decide +kernel
theorem dX3_lookFrom_102 : decode cX3_lookFrom 102 = .ok (.iconst 3, 1) := by decide +kernel
theorem dX3_lookFrom_103 : decode cX3_lookFrom 103 = .ok (.if_icmp .eq 48, 3) := by decide +kernel
theorem dX3_lookFrom_106 : decode cX3_lookFrom 106 = .ok (.aload_n 0, 1) := by decide +kernel
theorem dX3_lookFrom_107 : decode cX3_lookFrom 107 = .ok (.getfield 30, 3) := by decide +kernel
theorem dX3_lookFrom_110 : decode cX3_lookFrom 110 = .ok (.aload_n 0, 1) := by decide +kernel
theorem dX3_lookFrom_111 : decode cX3_lookFrom 111 = .ok (.getfield 15, 3) := by decide +kernel
theorem dX3_lookFrom_114 : decode cX3_lookFrom 114 = .ok (.if_icmp .ge 37, 3) := by decide +kernel
theorem dX3_lookFrom_117 : decode cX3_lookFrom 117 = .ok (.aload_n 0, 1) := by decide +kernel
theorem dX3_lookFrom_118 : decode cX3_lookFrom 118 = .ok (.getfield 9, 3) := by decide +kernel
theorem dX3_lookFrom_121 : decode cX3_lookFrom 121 = .ok (.aload_n 0, 1) := by decide +kernel
theorem dX3_lookFrom_122 : decode cX3_lookFrom 122 = .ok (.getfield 30, 3) := by decide +kernel
theorem dX3_lookFrom_125 : decode cX3_lookFrom 125 = .ok (.invokestatic 26, 3) := by decide +kernel
theorem dX3_lookFrom_128 : decode cX3_lookFrom 128 = .ok (.invokestatic 36, 3) := by decide +kernel
theorem dX3_lookFrom_131 : decode cX3_lookFrom 131 = .ok (.aload_n 0, 1) := by decide +kernel
theorem dX3_lookFrom_132 : decode cX3_lookFrom 132 = .ok (.getfield 33, 3) := by decide +kernel
theorem dX3_lookFrom_135 : decode cX3_lookFrom 135 = .ok (.if_icmp .ne 16, 3) := by decide +kernel
theorem dX3_lookFrom_138 : decode cX3_lookFrom 138 = .ok (.aload_n 0, 1) := by decide +kernel
theorem dX3_lookFrom_139 : decode cX3_lookFrom 139 = .ok (.dup, 1) := by decide +kernel
theorem dX3_lookFrom_140 : decode cX3_lookFrom 140 = .ok (.getfield 30, 3) := by decide +kernel
theorem dX3_lookFrom_143 : decode cX3_lookFrom 143 = .ok (.iconst 1, 1) := by decide +kernel
theorem dX3_lookFrom_144 : decode cX3_lookFrom 144 = .ok (.iadd, 1) := by decide +kernel
theorem dX3_lookFrom_145 : decode cX3_lookFrom 145 = .ok (.putfield 30, 3) := by decide +kernel
theorem dX3_lookFrom_148 : decode cX3_lookFrom 148 = .ok (.goto (-50), 3) := by decide +kernel
theorem dX3_lookFrom_151 : decode cX3_lookFrom 151 = .ok (.return_, 1) := by decide +kernel
theorem dX3_kindOf_0 : decode cX3_kindOf 0 = .ok (.iload_n 0, 1) := by decide +kernel
theorem dX3_kindOf_1 : decode cX3_kindOf 1 = .ok (.bipush 97, 2) := by decide +kernel
theorem dX3_kindOf_3 : decode cX3_kindOf 3 = .ok (.if_icmp .lt 11, 3) := by decide +kernel
theorem dX3_kindOf_6 : decode cX3_kindOf 6 = .ok (.iload_n 0, 1) := by decide +kernel
theorem dX3_kindOf_7 : decode cX3_kindOf 7 = .ok (.bipush 122, 2) := by decide +kernel
theorem dX3_kindOf_9 : decode cX3_kindOf 9 = .ok (.if_icmp .gt 5, 3) := by decide +kernel
theorem dX3_kindOf_12 : decode cX3_kindOf 12 = .ok (.iconst 1, 1) := by decide +kernel
theorem dX3_kindOf_13 : decode cX3_kindOf 13 = .ok (.ireturn, 1) := by decide +kernel
theorem dX3_kindOf_14 : decode cX3_kindOf 14 = .ok (.iload_n 0, 1) := by decide +kernel
theorem dX3_kindOf_15 : decode cX3_kindOf 15 = .ok (.bipush 48, 2) := by decide +kernel
theorem dX3_kindOf_17 : decode cX3_kindOf 17 = .ok (.if_icmp .lt 13, 3) := by decide +kernel
theorem dX3_kindOf_20 : decode cX3_kindOf 20 = .ok (.iload_n 0, 1) := by decide +kernel
theorem dX3_kindOf_21 : decode cX3_kindOf 21 = .ok (.bipush 57, 2) := by decide +kernel
theorem dX3_kindOf_23 : decode cX3_kindOf 23 = .ok (.if_icmp .gt 7, 3) := by decide +kernel
theorem dX3_kindOf_26 : decode cX3_kindOf 26 = .ok (.iconst 2, 1) := by decide +kernel
theorem dX3_kindOf_27 : decode cX3_kindOf 27 = .ok (.goto 4, 3) := by decide +kernel
theorem dX3_kindOf_30 : decode cX3_kindOf 30 = .ok (.iconst 3, 1) := by decide +kernel
theorem dX3_kindOf_31 : decode cX3_kindOf 31 = .ok (.ireturn, 1) := by decide +kernel
theorem dX3_tokenLength_0 : decode cX3_tokenLength 0 = .ok (.aload_n 0, 1) := by decide +kernel
theorem dX3_tokenLength_1 : decode cX3_tokenLength 1 = .ok (.getfield 30, 3) := by decide +kernel
theorem dX3_tokenLength_4 : decode cX3_tokenLength 4 = .ok (.aload_n 0, 1) := by decide +kernel
theorem dX3_tokenLength_5 : decode cX3_tokenLength 5 = .ok (.getfield 23, 3) := by decide +kernel
theorem dX3_tokenLength_8 : decode cX3_tokenLength 8 = .ok (.isub, 1) := by decide +kernel
theorem dX3_tokenLength_9 : decode cX3_tokenLength 9 = .ok (.ireturn, 1) := by decide +kernel
theorem dX3_isToken_0 : decode cX3_isToken 0 = .ok (.aload_n 0, 1) := by decide +kernel
theorem dX3_isToken_1 : decode cX3_isToken 1 = .ok (.invokevirtual 40, 3) := by decide +kernel
theorem dX3_isToken_4 : decode cX3_isToken 4 = .ok (.aload_n 1, 1) := by decide +kernel
theorem dX3_isToken_5 : decode cX3_isToken 5 = .ok (.invokevirtual 44, 3) := by decide +kernel
theorem dX3_isToken_8 : decode cX3_isToken 8 = .ok (.if_icmp .eq 5, 3) := by decide +kernel
theorem dX3_isToken_11 : decode cX3_isToken 11 = .ok (.iconst 0, 1) := by decide +kernel
theorem dX3_isToken_12 : decode cX3_isToken 12 = .ok (.ireturn, 1) := by decide +kernel
theorem dX3_isToken_13 : decode cX3_isToken 13 = .ok (.iconst 0, 1) := by decide +kernel
theorem dX3_isToken_14 : decode cX3_isToken 14 = .ok (.istore_n 2, 1) := by decide +kernel
theorem dX3_isToken_15 : decode cX3_isToken 15 = .ok (.iload_n 2, 1) := by decide +kernel
theorem dX3_isToken_16 : decode cX3_isToken 16 = .ok (.aload_n 1, 1) := by decide +kernel
theorem dX3_isToken_17 : decode cX3_isToken 17 = .ok (.invokevirtual 44, 3) := by decide +kernel
theorem dX3_isToken_20 : decode cX3_isToken 20 = .ok (.if_icmp .ge 32, 3) := by decide +kernel
theorem dX3_isToken_23 : decode cX3_isToken 23 = .ok (.aload_n 0, 1) := by decide +kernel
theorem dX3_isToken_24 : decode cX3_isToken 24 = .ok (.getfield 9, 3) := by decide +kernel
theorem dX3_isToken_27 : decode cX3_isToken 27 = .ok (.aload_n 0, 1) := by decide +kernel
theorem dX3_isToken_28 : decode cX3_isToken 28 = .ok (.getfield 23, 3) := by decide +kernel
theorem dX3_isToken_31 : decode cX3_isToken 31 = .ok (.iload_n 2, 1) := by decide +kernel
theorem dX3_isToken_32 : decode cX3_isToken 32 = .ok (.iadd, 1) := by decide +kernel
theorem dX3_isToken_33 : decode cX3_isToken 33 = .ok (.invokestatic 26, 3) := by decide +kernel
theorem dX3_isToken_36 : decode cX3_isToken 36 = .ok (.aload_n 1, 1) := by decide +kernel
theorem dX3_isToken_37 : decode cX3_isToken 37 = .ok (.iload_n 2, 1) := by decide +kernel
theorem dX3_isToken_38 : decode cX3_isToken 38 = .ok (.invokevirtual 49, 3) := by decide +kernel
theorem dX3_isToken_41 : decode cX3_isToken 41 = .ok (.if_icmp .eq 5, 3) := by decide +kernel
theorem dX3_isToken_44 : decode cX3_isToken 44 = .ok (.iconst 0, 1) := by decide +kernel
theorem dX3_isToken_45 : decode cX3_isToken 45 = .ok (.ireturn, 1) := by decide +kernel
theorem dX3_isToken_46 : decode cX3_isToken 46 = .ok (.iinc 2 1, 3) := by decide +kernel
theorem dX3_isToken_49 : decode cX3_isToken 49 = .ok (.goto (-34), 3) := by decide +kernel
theorem dX3_isToken_52 : decode cX3_isToken 52 = .ok (.iconst 1, 1) := by decide +kernel
theorem dX3_isToken_53 : decode cX3_isToken 53 = .ok (.ireturn, 1) := by decide +kernel
theorem dX3_isSemicolon_0 : decode cX3_isSemicolon 0 = .ok (.aload_n 0, 1) := by decide +kernel
theorem dX3_isSemicolon_1 : decode cX3_isSemicolon 1 = .ok (.getfield 33, 3) := by decide +kernel
theorem dX3_isSemicolon_4 : decode cX3_isSemicolon 4 = .ok (.iconst 3, 1) := by decide +kernel
theorem dX3_isSemicolon_5 : decode cX3_isSemicolon 5 = .ok (.if_icmp .ne 23, 3) := by decide +kernel
theorem dX3_isSemicolon_8 : decode cX3_isSemicolon 8 = .ok (.aload_n 0, 1) := by decide +kernel
theorem dX3_isSemicolon_9 : decode cX3_isSemicolon 9 = .ok (.getfield 9, 3) := by decide +kernel
theorem dX3_isSemicolon_12 : decode cX3_isSemicolon 12 = .ok (.aload_n 0, 1) := by decide +kernel
theorem dX3_isSemicolon_13 : decode cX3_isSemicolon 13 = .ok (.getfield 23, 3) := by decide +kernel
theorem dX3_isSemicolon_16 : decode cX3_isSemicolon 16 = .ok (.invokestatic 26, 3) := by decide +kernel
theorem dX3_isSemicolon_19 : decode cX3_isSemicolon 19 = .ok (.bipush 59, 2) := by decide +kernel
theorem dX3_isSemicolon_21 : decode cX3_isSemicolon 21 = .ok (.if_icmp .ne 7, 3) := by decide +kernel
theorem dX3_isSemicolon_24 : decode cX3_isSemicolon 24 = .ok (.iconst 1, 1) := by decide +kernel
theorem dX3_isSemicolon_25 : decode cX3_isSemicolon 25 = .ok (.goto 4, 3) := by decide +kernel
theorem dX3_isSemicolon_28 : decode cX3_isSemicolon 28 = .ok (.iconst 0, 1) := by decide +kernel
theorem dX3_isSemicolon_29 : decode cX3_isSemicolon 29 = .ok (.ireturn, 1) := by decide +kernel
theorem dX3_number_0 : decode cX3_number 0 = .ok (.aload_n 0, 1) := by decide +kernel
theorem dX3_number_1 : decode cX3_number 1 = .ok (.getfield 33, 3) := by decide +kernel
theorem dX3_number_4 : decode cX3_number 4 = .ok (.iconst 2, 1) := by decide +kernel
theorem dX3_number_5 : decode cX3_number 5 = .ok (.if_icmp .ne 11, 3) := by decide +kernel
theorem dX3_number_8 : decode cX3_number 8 = .ok (.aload_n 0, 1) := by decide +kernel
theorem dX3_number_9 : decode cX3_number 9 = .ok (.invokevirtual 40, 3) := by decide +kernel
theorem dX3_number_12 : decode cX3_number 12 = .ok (.iconst 4, 1) := by decide +kernel
theorem dX3_number_13 : decode cX3_number 13 = .ok (.if_icmp .le 5, 3) := by decide +kernel
theorem dX3_number_16 : decode cX3_number 16 = .ok (.iconst (-1), 1) := by decide +kernel
theorem dX3_number_17 : decode cX3_number 17 = .ok (.ireturn, 1) := by decide +kernel
theorem dX3_number_18 : decode cX3_number 18 = .ok (.iconst 0, 1) := by decide +kernel
theorem dX3_number_19 : decode cX3_number 19 = .ok (.istore_n 1, 1) := by decide +kernel
theorem dX3_number_20 : decode cX3_number 20 = .ok (.aload_n 0, 1) := by decide +kernel
theorem dX3_number_21 : decode cX3_number 21 = .ok (.getfield 23, 3) := by decide +kernel
theorem dX3_number_24 : decode cX3_number 24 = .ok (.istore_n 2, 1) := by decide +kernel
theorem dX3_number_25 : decode cX3_number 25 = .ok (.iload_n 2, 1) := by decide +kernel
theorem dX3_number_26 : decode cX3_number 26 = .ok (.aload_n 0, 1) := by decide +kernel
theorem dX3_number_27 : decode cX3_number 27 = .ok (.getfield 30, 3) := by decide +kernel
theorem dX3_number_30 : decode cX3_number 30 = .ok (.if_icmp .ge 26, 3) := by decide +kernel
theorem dX3_number_33 : decode cX3_number 33 = .ok (.bipush 10, 2) := by decide +kernel
theorem dX3_number_35 : decode cX3_number 35 = .ok (.iload_n 1, 1) := by decide +kernel
theorem dX3_number_36 : decode cX3_number 36 = .ok (.imul, 1) := by decide +kernel
theorem dX3_number_37 : decode cX3_number 37 = .ok (.aload_n 0, 1) := by decide +kernel
theorem dX3_number_38 : decode cX3_number 38 = .ok (.getfield 9, 3) := by decide +kernel
theorem dX3_number_41 : decode cX3_number 41 = .ok (.iload_n 2, 1) := by decide +kernel
theorem dX3_number_42 : decode cX3_number 42 = .ok (.invokestatic 26, 3) := by decide +kernel
theorem dX3_number_45 : decode cX3_number 45 = .ok (.iadd, 1) := by decide +kernel
theorem dX3_number_46 : decode cX3_number 46 = .ok (.bipush 48, 2) := by decide +kernel
theorem dX3_number_48 : decode cX3_number 48 = .ok (.isub, 1) := by decide +kernel
theorem dX3_number_49 : decode cX3_number 49 = .ok (.istore_n 1, 1) := by decide +kernel
theorem dX3_number_50 : decode cX3_number 50 = .ok (.iinc 2 1, 3) := by decide +kernel
theorem dX3_number_53 : decode cX3_number 53 = .ok (.goto (-28), 3) := by decide +kernel
theorem dX3_number_56 : decode cX3_number 56 = .ok (.iload_n 1, 1) := by decide +kernel
theorem dX3_number_57 : decode cX3_number 57 = .ok (.ireturn, 1) := by decide +kernel
theorem dX4_init_0 : decode cX4_init 0 = .ok (.aload_n 0, 1) := by decide +kernel
theorem dX4_init_1 : decode cX4_init 1 = .ok (.invokespecial 3, 3) := by decide +kernel
theorem dX4_init_4 : decode cX4_init 4 = .ok (.aload_n 0, 1) := by decide +kernel
theorem dX4_init_5 : decode cX4_init 5 = .ok (.bipush 42, 2) := by decide +kernel
theorem dX4_init_7 : decode cX4_init 7 = .ok (.newarray .int, 2) := by decide +kernel
theorem dX4_init_9 : decode cX4_init 9 = .ok (.putfield 9, 3) := by decide +kernel
theorem dX4_init_12 : decode cX4_init 12 = .ok (.aload_n 0, 1) := by decide +kernel
theorem dX4_init_13 : decode cX4_init 13 = .ok (.bipush 6, 2) := by decide +kernel
theorem dX4_init_15 : decode cX4_init 15 = .ok (.newarray .int, 2) := by decide +kernel
theorem dX4_init_17 : decode cX4_init 17 = .ok (.putfield 15, 3) := by decide +kernel
theorem dX4_init_20 : decode cX4_init 20 = .ok (.aload_n 0, 1) := by decide +kernel
theorem dX4_init_21 : decode cX4_init 21 = .ok (.bipush 6, 2) := by decide +kernel
theorem dX4_init_23 : decode cX4_init 23 = .ok (.newarray .int, 2) := by decide +kernel
theorem dX4_init_25 : decode cX4_init 25 = .ok (.putfield 18, 3) := by decide +kernel
theorem dX4_init_28 : decode cX4_init 28 = .ok (.aload_n 0, 1) := by decide +kernel
theorem dX4_init_29 : decode cX4_init 29 = .ok (.bipush 6, 2) := by decide +kernel
theorem dX4_init_31 : decode cX4_init 31 = .ok (.newarray .int, 2) := by decide +kernel
theorem dX4_init_33 : decode cX4_init 33 = .ok (.putfield 21, 3) := by decide +kernel
theorem dX4_init_36 : decode cX4_init 36 = .ok (.aload_n 0, 1) := by decide +kernel
theorem dX4_init_37 : decode cX4_init 37 = .ok (.bipush 10, 2) := by decide +kernel
theorem dX4_init_39 : decode cX4_init 39 = .ok (.newarray .int, 2) := by decide +kernel
theorem dX4_init_41 : decode cX4_init 41 = .ok (.putfield 24, 3) := by decide +kernel
theorem dX4_init_44 : decode cX4_init 44 = .ok (.aload_n 0, 1) := by decide +kernel
theorem dX4_init_45 : decode cX4_init 45 = .ok (.new 27, 3) := by decide +kernel
theorem dX4_init_48 : decode cX4_init 48 = .ok (.dup, 1) := by decide +kernel
theorem dX4_init_49 : decode cX4_init 49 = .ok (.invokespecial 29, 3) := by decide +kernel
theorem dX4_init_52 : decode cX4_init 52 = .ok (.putfield 30, 3) := by decide +kernel
theorem dX4_init_55 : decode cX4_init 55 = .ok (.aload_n 0, 1) := by decide +kernel
theorem dX4_init_56 : decode cX4_init 56 = .ok (.bipush 11, 2) := by decide +kernel
theorem dX4_init_58 : decode cX4_init 58 = .ok (.newarray .int, 2) := by decide +kernel
theorem dX4_init_60 : decode cX4_init 60 = .ok (.putfield 34, 3) := by decide +kernel
theorem dX4_init_63 : decode cX4_init 63 = .ok (.return_, 1) := by decide +kernel
theorem dX4_become_0 : decode cX4_become 0 = .ok (.aload_n 0, 1) := by decide +kernel
theorem dX4_become_1 : decode cX4_become 1 = .ok (.aload_n 1, 1) := by decide +kernel
theorem dX4_become_2 : decode cX4_become 2 = .ok (.getfield 37, 3) := by decide +kernel
theorem dX4_become_5 : decode cX4_become 5 = .ok (.putfield 37, 3) := by decide +kernel
theorem dX4_become_8 : decode cX4_become 8 = .ok (.aload_n 1, 1) := by decide +kernel
theorem dX4_become_9 : decode cX4_become 9 = .ok (.getfield 9, 3) := by decide +kernel
theorem dX4_become_12 : decode cX4_become 12 = .ok (.aload_n 0, 1) := by decide +kernel
theorem dX4_become_13 : decode cX4_become 13 = .ok (.getfield 9, 3) := by decide +kernel
theorem dX4_become_16 : decode cX4_become 16 = .ok (.invokestatic 41, 3) := by decide +kernel
theorem dX4_become_19 : decode cX4_become 19 = .ok (.aload_n 1, 1) := by decide +kernel
theorem dX4_become_20 : decode cX4_become 20 = .ok (.getfield 15, 3) := by decide +kernel
theorem dX4_become_23 : decode cX4_become 23 = .ok (.aload_n 0, 1) := by decide +kernel
theorem dX4_become_24 : decode cX4_become 24 = .ok (.getfield 15, 3) := by decide +kernel
theorem dX4_become_27 : decode cX4_become 27 = .ok (.invokestatic 41, 3) := by decide +kernel
theorem dX4_become_30 : decode cX4_become 30 = .ok (.aload_n 1, 1) := by decide +kernel
theorem dX4_become_31 : decode cX4_become 31 = .ok (.getfield 18, 3) := by decide +kernel
theorem dX4_become_34 : decode cX4_become 34 = .ok (.aload_n 0, 1) := by decide +kernel
theorem dX4_become_35 : decode cX4_become 35 = .ok (.getfield 18, 3) := by decide +kernel
theorem dX4_become_38 : decode cX4_become 38 = .ok (.invokestatic 41, 3) := by decide +kernel
theorem dX4_become_41 : decode cX4_become 41 = .ok (.aload_n 1, 1) := by decide +kernel
theorem dX4_become_42 : decode cX4_become 42 = .ok (.getfield 21, 3) := by decide +kernel
theorem dX4_become_45 : decode cX4_become 45 = .ok (.aload_n 0, 1) := by decide +kernel
theorem dX4_become_46 : decode cX4_become 46 = .ok (.getfield 21, 3) := by decide +kernel
theorem dX4_become_49 : decode cX4_become 49 = .ok (.invokestatic 41, 3) := by decide +kernel
theorem dX4_become_52 : decode cX4_become 52 = .ok (.aload_n 0, 1) := by decide +kernel
theorem dX4_become_53 : decode cX4_become 53 = .ok (.aload_n 1, 1) := by decide +kernel
theorem dX4_become_54 : decode cX4_become 54 = .ok (.getfield 45, 3) := by decide +kernel
theorem dX4_become_57 : decode cX4_become 57 = .ok (.putfield 45, 3) := by decide +kernel
theorem dX4_become_60 : decode cX4_become 60 = .ok (.aload_n 1, 1) := by decide +kernel
theorem dX4_become_61 : decode cX4_become 61 = .ok (.getfield 24, 3) := by decide +kernel
theorem dX4_become_64 : decode cX4_become 64 = .ok (.aload_n 0, 1) := by decide +kernel
theorem dX4_become_65 : decode cX4_become 65 = .ok (.getfield 24, 3) := by decide +kernel
theorem dX4_become_68 : decode cX4_become 68 = .ok (.invokestatic 41, 3) := by decide +kernel
theorem dX4_become_71 : decode cX4_become 71 = .ok (.aload_n 0, 1) := by decide +kernel
theorem dX4_become_72 : decode cX4_become 72 = .ok (.getfield 30, 3) := by decide +kernel
theorem dX4_become_75 : decode cX4_become 75 = .ok (.aload_n 1, 1) := by decide +kernel
theorem dX4_become_76 : decode cX4_become 76 = .ok (.getfield 30, 3) := by decide +kernel
theorem dX4_become_79 : decode cX4_become 79 = .ok (.invokevirtual 48, 3) := by decide +kernel
theorem dX4_become_82 : decode cX4_become 82 = .ok (.return_, 1) := by decide +kernel
theorem dX4_clear_0 : decode cX4_clear 0 = .ok (.aload_n 0, 1) := by decide +kernel
theorem dX4_clear_1 : decode cX4_clear 1 = .ok (.iconst 0, 1) := by decide +kernel
theorem dX4_clear_2 : decode cX4_clear 2 = .ok (.putfield 37, 3) := by decide +kernel
theorem dX4_clear_5 : decode cX4_clear 5 = .ok (.aload_n 0, 1) := by decide +kernel
theorem dX4_clear_6 : decode cX4_clear 6 = .ok (.iconst 0, 1) := by decide +kernel
theorem dX4_clear_7 : decode cX4_clear 7 = .ok (.putfield 45, 3) := by decide +kernel
theorem dX4_clear_10 : decode cX4_clear 10 = .ok (.aload_n 0, 1) := by decide +kernel
theorem dX4_clear_11 : decode cX4_clear 11 = .ok (.getfield 30, 3) := by decide +kernel
theorem dX4_clear_14 : decode cX4_clear 14 = .ok (.iconst 0, 1) := by decide +kernel
theorem dX4_clear_15 : decode cX4_clear 15 = .ok (.putfield 52, 3) := by decide +kernel
theorem dX4_clear_18 : decode cX4_clear 18 = .ok (.aload_n 0, 1) := by decide +kernel
theorem dX4_clear_19 : decode cX4_clear 19 = .ok (.getfield 30, 3) := by decide +kernel
theorem dX4_clear_22 : decode cX4_clear 22 = .ok (.iconst 0, 1) := by decide +kernel
theorem dX4_clear_23 : decode cX4_clear 23 = .ok (.putfield 55, 3) := by decide +kernel
theorem dX4_clear_26 : decode cX4_clear 26 = .ok (.aload_n 0, 1) := by decide +kernel
theorem dX4_clear_27 : decode cX4_clear 27 = .ok (.getfield 30, 3) := by decide +kernel
theorem dX4_clear_30 : decode cX4_clear 30 = .ok (.iload_n 1, 1) := by decide +kernel
theorem dX4_clear_31 : decode cX4_clear 31 = .ok (.putfield 58, 3) := by decide +kernel
theorem dX4_clear_34 : decode cX4_clear 34 = .ok (.return_, 1) := by decide +kernel
theorem dX4_isStuff_0 : decode cX4_isStuff 0 = .ok (.iload_n 1, 1) := by decide +kernel
theorem dX4_isStuff_1 : decode cX4_isStuff 1 = .ok (.ifCond .lt 15, 3) := by decide +kernel
theorem dX4_isStuff_4 : decode cX4_isStuff 4 = .ok (.iload_n 1, 1) := by decide +kernel
theorem dX4_isStuff_5 : decode cX4_isStuff 5 = .ok (.aload_n 0, 1) := by decide +kernel
theorem dX4_isStuff_6 : decode cX4_isStuff 6 = .ok (.getfield 37, 3) := by decide +kernel
theorem dX4_isStuff_9 : decode cX4_isStuff 9 = .ok (.if_icmp .ge 7, 3) := by decide +kernel
theorem dX4_isStuff_12 : decode cX4_isStuff 12 = .ok (.iconst 1, 1) := by decide +kernel
theorem dX4_isStuff_13 : decode cX4_isStuff 13 = .ok (.goto 4, 3) := by decide +kernel
theorem dX4_isStuff_16 : decode cX4_isStuff 16 = .ok (.iconst 0, 1) := by decide +kernel
theorem dX4_isStuff_17 : decode cX4_isStuff 17 = .ok (.ireturn, 1) := by decide +kernel
theorem dX4_isCell_0 : decode cX4_isCell 0 = .ok (.iload_n 1, 1) := by decide +kernel
theorem dX4_isCell_1 : decode cX4_isCell 1 = .ok (.ifCond .lt 15, 3) := by decide +kernel
theorem dX4_isCell_4 : decode cX4_isCell 4 = .ok (.iload_n 1, 1) := by decide +kernel
theorem dX4_isCell_5 : decode cX4_isCell 5 = .ok (.aload_n 0, 1) := by decide +kernel
theorem dX4_isCell_6 : decode cX4_isCell 6 = .ok (.getfield 45, 3) := by decide +kernel
theorem dX4_isCell_9 : decode cX4_isCell 9 = .ok (.if_icmp .ge 7, 3) := by decide +kernel
theorem dX4_isCell_12 : decode cX4_isCell 12 = .ok (.iconst 1, 1) := by decide +kernel
theorem dX4_isCell_13 : decode cX4_isCell 13 = .ok (.goto 4, 3) := by decide +kernel
theorem dX4_isCell_16 : decode cX4_isCell 16 = .ok (.iconst 0, 1) := by decide +kernel
theorem dX4_isCell_17 : decode cX4_isCell 17 = .ok (.ireturn, 1) := by decide +kernel
theorem dX4_passesAt_0 : decode cX4_passesAt 0 = .ok (.aload_n 0, 1) := by decide +kernel
theorem dX4_passesAt_1 : decode cX4_passesAt 1 = .ok (.getfield 18, 3) := by decide +kernel
theorem dX4_passesAt_4 : decode cX4_passesAt 4 = .ok (.aload_n 0, 1) := by decide +kernel
theorem dX4_passesAt_5 : decode cX4_passesAt 5 = .ok (.getfield 24, 3) := by decide +kernel
theorem dX4_passesAt_8 : decode cX4_passesAt 8 = .ok (.iload_n 1, 1) := by decide +kernel
theorem dX4_passesAt_9 : decode cX4_passesAt 9 = .ok (.invokestatic 61, 3) := by decide +kernel
theorem dX4_passesAt_12 : decode cX4_passesAt 12 = .ok (.invokestatic 61, 3) := by decide +kernel
theorem dX4_passesAt_15 : decode cX4_passesAt 15 = .ok (.ireturn, 1) := by decide +kernel
theorem dX4_holdsAt_0 : decode cX4_holdsAt 0 = .ok (.aload_n 0, 1) := by decide +kernel
theorem dX4_holdsAt_1 : decode cX4_holdsAt 1 = .ok (.getfield 21, 3) := by decide +kernel
theorem dX4_holdsAt_4 : decode cX4_holdsAt 4 = .ok (.aload_n 0, 1) := by decide +kernel
theorem dX4_holdsAt_5 : decode cX4_holdsAt 5 = .ok (.getfield 24, 3) := by decide +kernel
theorem dX4_holdsAt_8 : decode cX4_holdsAt 8 = .ok (.iload_n 1, 1) := by decide +kernel
theorem dX4_holdsAt_9 : decode cX4_holdsAt 9 = .ok (.invokestatic 61, 3) := by decide +kernel
theorem dX4_holdsAt_12 : decode cX4_holdsAt 12 = .ok (.invokestatic 61, 3) := by decide +kernel
theorem dX4_holdsAt_15 : decode cX4_holdsAt 15 = .ok (.ireturn, 1) := by decide +kernel
theorem dX4_cellsOf_0 : decode cX4_cellsOf 0 = .ok (.iconst 0, 1) := by decide +kernel
theorem dX4_cellsOf_1 : decode cX4_cellsOf 1 = .ok (.istore_n 2, 1) := by decide +kernel
theorem dX4_cellsOf_2 : decode cX4_cellsOf 2 = .ok (.iconst 0, 1) := by decide +kernel
theorem dX4_cellsOf_3 : decode cX4_cellsOf 3 = .ok (.istore_n 3, 1) := by decide +kernel
theorem dX4_cellsOf_4 : decode cX4_cellsOf 4 = .ok (.iload_n 3, 1) := by decide +kernel
theorem dX4_cellsOf_5 : decode cX4_cellsOf 5 = .ok (.aload_n 0, 1) := by decide +kernel
theorem dX4_cellsOf_6 : decode cX4_cellsOf 6 = .ok (.getfield 45, 3) := by decide +kernel
theorem dX4_cellsOf_9 : decode cX4_cellsOf 9 = .ok (.if_icmp .ge 27, 3) := by decide +kernel
theorem dX4_cellsOf_12 : decode cX4_cellsOf 12 = .ok (.aload_n 0, 1) := by decide +kernel
theorem dX4_cellsOf_13 : decode cX4_cellsOf 13 = .ok (.getfield 24, 3) := by decide +kernel
theorem dX4_cellsOf_16 : decode cX4_cellsOf 16 = .ok (.iload_n 3, 1) := by decide +kernel
theorem dX4_cellsOf_17 : decode cX4_cellsOf 17 = .ok (.invokestatic 61, 3) := by decide +kernel
theorem dX4_cellsOf_20 : decode cX4_cellsOf 20 = .ok (.iload_n 1, 1) := by decide +kernel
theorem dX4_cellsOf_21 : decode cX4_cellsOf 21 = .ok (.if_icmp .ne 9, 3) := by decide +kernel
theorem dX4_cellsOf_24 : decode cX4_cellsOf 24 = .ok (.iload_n 2, 1) := by decide +kernel
theorem dX4_cellsOf_25 : decode cX4_cellsOf 25 = .ok (.iconst 1, 1) := by decide +kernel
theorem dX4_cellsOf_26 : decode cX4_cellsOf 26 = .ok (.iload_n 3, 1) := by decide +kernel
theorem dX4_cellsOf_27 : decode cX4_cellsOf 27 = .ok (.ishl, 1) := by decide +kernel
theorem dX4_cellsOf_28 : decode cX4_cellsOf 28 = .ok (.ior, 1) := by decide +kernel
theorem dX4_cellsOf_29 : decode cX4_cellsOf 29 = .ok (.istore_n 2, 1) := by decide +kernel
theorem dX4_cellsOf_30 : decode cX4_cellsOf 30 = .ok (.iinc 3 1, 3) := by decide +kernel
theorem dX4_cellsOf_33 : decode cX4_cellsOf 33 = .ok (.goto (-29), 3) := by decide +kernel
theorem dX4_cellsOf_36 : decode cX4_cellsOf 36 = .ok (.iload_n 2, 1) := by decide +kernel
theorem dX4_cellsOf_37 : decode cX4_cellsOf 37 = .ok (.ireturn, 1) := by decide +kernel
theorem dX4_nameNext_0 : decode cX4_nameNext 0 = .ok (.aload_n 0, 1) := by decide +kernel
theorem dX4_nameNext_1 : decode cX4_nameNext 1 = .ok (.getfield 15, 3) := by decide +kernel
theorem dX4_nameNext_4 : decode cX4_nameNext 4 = .ok (.aload_n 0, 1) := by decide +kernel
theorem dX4_nameNext_5 : decode cX4_nameNext 5 = .ok (.getfield 37, 3) := by decide +kernel
theorem dX4_nameNext_8 : decode cX4_nameNext 8 = .ok (.aload_n 1, 1) := by decide +kernel
theorem dX4_nameNext_9 : decode cX4_nameNext 9 = .ok (.invokevirtual 65, 3) := by decide +kernel
theorem dX4_nameNext_12 : decode cX4_nameNext 12 = .ok (.invokestatic 71, 3) := by decide +kernel
theorem dX4_nameNext_15 : decode cX4_nameNext 15 = .ok (.iconst 0, 1) := by decide +kernel
theorem dX4_nameNext_16 : decode cX4_nameNext 16 = .ok (.istore_n 2, 1) := by decide +kernel
theorem dX4_nameNext_17 : decode cX4_nameNext 17 = .ok (.iload_n 2, 1) := by decide +kernel
theorem dX4_nameNext_18 : decode cX4_nameNext 18 = .ok (.aload_n 1, 1) := by decide +kernel
theorem dX4_nameNext_19 : decode cX4_nameNext 19 = .ok (.invokevirtual 65, 3) := by decide +kernel
theorem dX4_nameNext_22 : decode cX4_nameNext 22 = .ok (.if_icmp .ge 38, 3) := by decide +kernel
theorem dX4_nameNext_25 : decode cX4_nameNext 25 = .ok (.aload_n 0, 1) := by decide +kernel
theorem dX4_nameNext_26 : decode cX4_nameNext 26 = .ok (.getfield 9, 3) := by decide +kernel
theorem dX4_nameNext_29 : decode cX4_nameNext 29 = .ok (.aload_n 0, 1) := by decide +kernel
theorem dX4_nameNext_30 : decode cX4_nameNext 30 = .ok (.getfield 37, 3) := by decide +kernel
theorem dX4_nameNext_33 : decode cX4_nameNext 33 = .ok (.bipush 7, 2) := by decide +kernel
theorem dX4_nameNext_35 : decode cX4_nameNext 35 = .ok (.imul, 1) := by decide +kernel
theorem dX4_nameNext_36 : decode cX4_nameNext 36 = .ok (.iload_n 2, 1) := by decide +kernel
theorem dX4_nameNext_37 : decode cX4_nameNext 37 = .ok (.iadd, 1) := by decide +kernel
theorem dX4_nameNext_38 : decode cX4_nameNext 38 = .ok (.aload_n 1, 1) := by decide +kernel
theorem dX4_nameNext_39 : decode cX4_nameNext 39 = .ok (.getfield 75, 3) := by decide +kernel
theorem dX4_nameNext_42 : decode cX4_nameNext 42 = .ok (.aload_n 1, 1) := by decide +kernel
theorem dX4_nameNext_43 : decode cX4_nameNext 43 = .ok (.getfield 78, 3) := by decide +kernel
theorem dX4_nameNext_46 : decode cX4_nameNext 46 = .ok (.iload_n 2, 1) := by decide +kernel
theorem dX4_nameNext_47 : decode cX4_nameNext 47 = .ok (.iadd, 1) := by decide +kernel
theorem dX4_nameNext_48 : decode cX4_nameNext 48 = .ok (.invokestatic 61, 3) := by decide +kernel
theorem dX4_nameNext_51 : decode cX4_nameNext 51 = .ok (.invokestatic 71, 3) := by decide +kernel
theorem dX4_nameNext_54 : decode cX4_nameNext 54 = .ok (.iinc 2 1, 3) := by decide +kernel
theorem dX4_nameNext_57 : decode cX4_nameNext 57 = .ok (.goto (-40), 3) := by decide +kernel
theorem dX4_nameNext_60 : decode cX4_nameNext 60 = .ok (.return_, 1) := by decide +kernel
theorem dX4_addStuff_0 : decode cX4_addStuff 0 = .ok (.aload_n 0, 1) := by decide +kernel
theorem dX4_addStuff_1 : decode cX4_addStuff 1 = .ok (.getfield 18, 3) := by decide +kernel
theorem dX4_addStuff_4 : decode cX4_addStuff 4 = .ok (.aload_n 0, 1) := by decide +kernel
theorem dX4_addStuff_5 : decode cX4_addStuff 5 = .ok (.getfield 37, 3) := by decide +kernel
theorem dX4_addStuff_8 : decode cX4_addStuff 8 = .ok (.iload_n 1, 1) := by decide +kernel
theorem dX4_addStuff_9 : decode cX4_addStuff 9 = .ok (.invokestatic 71, 3) := by decide +kernel
theorem dX4_addStuff_12 : decode cX4_addStuff 12 = .ok (.aload_n 0, 1) := by decide +kernel
theorem dX4_addStuff_13 : decode cX4_addStuff 13 = .ok (.getfield 21, 3) := by decide +kernel
theorem dX4_addStuff_16 : decode cX4_addStuff 16 = .ok (.aload_n 0, 1) := by decide +kernel
theorem dX4_addStuff_17 : decode cX4_addStuff 17 = .ok (.getfield 37, 3) := by decide +kernel
theorem dX4_addStuff_20 : decode cX4_addStuff 20 = .ok (.iload_n 2, 1) := by decide +kernel
theorem dX4_addStuff_21 : decode cX4_addStuff 21 = .ok (.invokestatic 71, 3) := by decide +kernel
theorem dX4_addStuff_24 : decode cX4_addStuff 24 = .ok (.aload_n 0, 1) := by decide +kernel
theorem dX4_addStuff_25 : decode cX4_addStuff 25 = .ok (.dup, 1) := by decide +kernel
theorem dX4_addStuff_26 : decode cX4_addStuff 26 = .ok (.getfield 37, 3) := by decide +kernel
theorem dX4_addStuff_29 : decode cX4_addStuff 29 = .ok (.iconst 1, 1) := by decide +kernel
theorem dX4_addStuff_30 : decode cX4_addStuff 30 = .ok (.iadd, 1) := by decide +kernel
theorem dX4_addStuff_31 : decode cX4_addStuff 31 = .ok (.putfield 37, 3) := by decide +kernel
theorem dX4_addStuff_34 : decode cX4_addStuff 34 = .ok (.return_, 1) := by decide +kernel
theorem dX4_addCells_0 : decode cX4_addCells 0 = .ok (.iconst 0, 1) := by decide +kernel
theorem dX4_addCells_1 : decode cX4_addCells 1 = .ok (.istore_n 3, 1) := by decide +kernel
theorem dX4_addCells_2 : decode cX4_addCells 2 = .ok (.iload_n 3, 1) := by decide +kernel
theorem dX4_addCells_3 : decode cX4_addCells 3 = .ok (.iload_n 2, 1) := by decide +kernel
theorem dX4_addCells_4 : decode cX4_addCells 4 = .ok (.if_icmp .ge 46, 3) := by decide +kernel
theorem dX4_addCells_7 : decode cX4_addCells 7 = .ok (.aload_n 0, 1) := by decide +kernel
theorem dX4_addCells_8 : decode cX4_addCells 8 = .ok (.getfield 24, 3) := by decide +kernel
theorem dX4_addCells_11 : decode cX4_addCells 11 = .ok (.aload_n 0, 1) := by decide +kernel
theorem dX4_addCells_12 : decode cX4_addCells 12 = .ok (.getfield 45, 3) := by decide +kernel
theorem dX4_addCells_15 : decode cX4_addCells 15 = .ok (.iload_n 1, 1) := by decide +kernel
theorem dX4_addCells_16 : decode cX4_addCells 16 = .ok (.invokestatic 71, 3) := by decide +kernel
theorem dX4_addCells_19 : decode cX4_addCells 19 = .ok (.aload_n 0, 1) := by decide +kernel
theorem dX4_addCells_20 : decode cX4_addCells 20 = .ok (.getfield 30, 3) := by decide +kernel
theorem dX4_addCells_23 : decode cX4_addCells 23 = .ok (.getfield 81, 3) := by decide +kernel
theorem dX4_addCells_26 : decode cX4_addCells 26 = .ok (.aload_n 0, 1) := by decide +kernel
theorem dX4_addCells_27 : decode cX4_addCells 27 = .ok (.getfield 45, 3) := by decide +kernel
theorem dX4_addCells_30 : decode cX4_addCells 30 = .ok (.iconst 0, 1) := by decide +kernel
theorem dX4_addCells_31 : decode cX4_addCells 31 = .ok (.invokestatic 71, 3) := by decide +kernel
theorem dX4_addCells_34 : decode cX4_addCells 34 = .ok (.aload_n 0, 1) := by decide +kernel
theorem dX4_addCells_35 : decode cX4_addCells 35 = .ok (.dup, 1) := by decide +kernel
theorem dX4_addCells_36 : decode cX4_addCells 36 = .ok (.getfield 45, 3) := by decide +kernel
theorem dX4_addCells_39 : decode cX4_addCells 39 = .ok (.iconst 1, 1) := by decide +kernel
theorem dX4_addCells_40 : decode cX4_addCells 40 = .ok (.iadd, 1) := by decide +kernel
theorem dX4_addCells_41 : decode cX4_addCells 41 = .ok (.putfield 45, 3) := by decide +kernel
theorem dX4_addCells_44 : decode cX4_addCells 44 = .ok (.iinc 3 1, 3) := by decide +kernel
theorem dX4_addCells_47 : decode cX4_addCells 47 = .ok (.goto (-45), 3) := by decide +kernel
theorem dX4_addCells_50 : decode cX4_addCells 50 = .ok (.return_, 1) := by decide +kernel
theorem dX4_stuffNamed_0 : decode cX4_stuffNamed 0 = .ok (.iconst 0, 1) := by decide +kernel
theorem dX4_stuffNamed_1 : decode cX4_stuffNamed 1 = .ok (.istore 4, 2) := by decide +kernel
theorem dX4_stuffNamed_3 : decode cX4_stuffNamed 3 = .ok (.iload 4, 2) := by decide +kernel
theorem dX4_stuffNamed_5 : decode cX4_stuffNamed 5 = .ok (.aload_n 0, 1) := by decide +kernel
theorem dX4_stuffNamed_6 : decode cX4_stuffNamed 6 = .ok (.getfield 37, 3) := by decide +kernel
theorem dX4_stuffNamed_9 : decode cX4_stuffNamed 9 = .ok (.if_icmp .ge 24, 3) := by decide +kernel
theorem dX4_stuffNamed_12 : decode cX4_stuffNamed 12 = .ok (.aload_n 0, 1) := by decide +kernel
theorem dX4_stuffNamed_13 : decode cX4_stuffNamed 13 = .ok (.iload 4, 2) := by decide +kernel
theorem dX4_stuffNamed_15 : decode cX4_stuffNamed 15 = .ok (.aload_n 1, 1) := by decide +kernel
theorem dX4_stuffNamed_16 : decode cX4_stuffNamed 16 = .ok (.iload_n 2, 1) := by decide +kernel
theorem dX4_stuffNamed_17 : decode cX4_stuffNamed 17 = .ok (.iload_n 3, 1) := by decide +kernel
theorem dX4_stuffNamed_18 : decode cX4_stuffNamed 18 = .ok (.invokevirtual 84, 3) := by decide +kernel
theorem dX4_stuffNamed_21 : decode cX4_stuffNamed 21 = .ok (.ifCond .eq 6, 3) := by decide +kernel
theorem dX4_stuffNamed_24 : decode cX4_stuffNamed 24 = .ok (.iload 4, 2) := by decide +kernel
theorem dX4_stuffNamed_26 : decode cX4_stuffNamed 26 = .ok (.ireturn, 1) := by decide +kernel
theorem dX4_stuffNamed_27 : decode cX4_stuffNamed 27 = .ok (.iinc 4 1, 3) := by decide +kernel
theorem dX4_stuffNamed_30 : decode cX4_stuffNamed 30 = .ok (.goto (-27), 3) := by decide +kernel
theorem dX4_stuffNamed_33 : decode cX4_stuffNamed 33 = .ok (.iconst (-1), 1) := by decide +kernel
theorem dX4_stuffNamed_34 : decode cX4_stuffNamed 34 = .ok (.ireturn, 1) := by decide +kernel
theorem dX4_isNamed_0 : decode cX4_isNamed 0 = .ok (.aload_n 0, 1) := by decide +kernel
theorem dX4_isNamed_1 : decode cX4_isNamed 1 = .ok (.getfield 15, 3) := by decide +kernel
theorem dX4_isNamed_4 : decode cX4_isNamed 4 = .ok (.iload_n 1, 1) := by decide +kernel
theorem dX4_isNamed_5 : decode cX4_isNamed 5 = .ok (.invokestatic 61, 3) := by decide +kernel
theorem dX4_isNamed_8 : decode cX4_isNamed 8 = .ok (.istore 5, 2) := by decide +kernel
theorem dX4_isNamed_10 : decode cX4_isNamed 10 = .ok (.iconst 0, 1) := by decide +kernel
theorem dX4_isNamed_11 : decode cX4_isNamed 11 = .ok (.istore 6, 2) := by decide +kernel
theorem dX4_isNamed_13 : decode cX4_isNamed 13 = .ok (.iload_n 3, 1) := by decide +kernel
theorem dX4_isNamed_14 : decode cX4_isNamed 14 = .ok (.istore 7, 2) := by decide +kernel
theorem dX4_isNamed_16 : decode cX4_isNamed 16 = .ok (.iload 7, 2) := by decide +kernel
theorem dX4_isNamed_18 : decode cX4_isNamed 18 = .ok (.iload 4, 2) := by decide +kernel
theorem dX4_isNamed_20 : decode cX4_isNamed 20 = .ok (.if_icmp .ge 61, 3) := by decide +kernel
theorem dX4_isNamed_23 : decode cX4_isNamed 23 = .ok (.aload_n 2, 1) := by decide +kernel
theorem dX4_isNamed_24 : decode cX4_isNamed 24 = .ok (.getfield 75, 3) := by decide +kernel
theorem dX4_isNamed_27 : decode cX4_isNamed 27 = .ok (.iload 7, 2) := by decide +kernel
theorem dX4_isNamed_29 : decode cX4_isNamed 29 = .ok (.invokestatic 61, 3) := by decide +kernel
theorem dX4_isNamed_32 : decode cX4_isNamed 32 = .ok (.istore 8, 2) := by decide +kernel
theorem dX4_isNamed_34 : decode cX4_isNamed 34 = .ok (.iload 8, 2) := by decide +kernel
theorem dX4_isNamed_36 : decode cX4_isNamed 36 = .ok (.bipush 32, 2) := by decide +kernel
theorem dX4_isNamed_38 : decode cX4_isNamed 38 = .ok (.if_icmp .ne 6, 3) := by decide +kernel
theorem dX4_isNamed_41 : decode cX4_isNamed 41 = .ok (.goto 34, 3) := by decide +kernel
theorem dX4_isNamed_44 : decode cX4_isNamed 44 = .ok (.iload 6, 2) := by decide +kernel
theorem dX4_isNamed_46 : decode cX4_isNamed 46 = .ok (.iload 5, 2) := by decide +kernel
theorem dX4_isNamed_48 : decode cX4_isNamed 48 = .ok (.if_icmp .ge 22, 3) := by decide +kernel
theorem dX4_isNamed_51 : decode cX4_isNamed 51 = .ok (.iload 8, 2) := by decide +kernel
theorem dX4_isNamed_53 : decode cX4_isNamed 53 = .ok (.aload_n 0, 1) := by decide +kernel
theorem dX4_isNamed_54 : decode cX4_isNamed 54 = .ok (.getfield 9, 3) := by decide +kernel
theorem dX4_isNamed_57 : decode cX4_isNamed 57 = .ok (.iload_n 1, 1) := by decide +kernel
theorem dX4_isNamed_58 : decode cX4_isNamed 58 = .ok (.bipush 7, 2) := by decide +kernel
theorem dX4_isNamed_60 : decode cX4_isNamed 60 = .ok (.imul, 1) := by decide +kernel
theorem dX4_isNamed_61 : decode cX4_isNamed 61 = .ok (.iload 6, 2) := by decide +kernel
theorem dX4_isNamed_63 : decode cX4_isNamed 63 = .ok (.iadd, 1) := by decide +kernel
theorem dX4_isNamed_64 : decode cX4_isNamed 64 = .ok (.invokestatic 61, 3) := by decide +kernel
theorem dX4_isNamed_67 : decode cX4_isNamed 67 = .ok (.if_icmp .eq 5, 3) := by decide +kernel
theorem dX4_isNamed_70 : decode cX4_isNamed 70 = .ok (.iconst 0, 1) := by decide +kernel
theorem dX4_isNamed_71 : decode cX4_isNamed 71 = .ok (.ireturn, 1) := by decide +kernel
theorem dX4_isNamed_72 : decode cX4_isNamed 72 = .ok (.iinc 6 1, 3) := by decide +kernel
theorem dX4_isNamed_75 : decode cX4_isNamed 75 = .ok (.iinc 7 1, 3) := by decide +kernel
theorem dX4_isNamed_78 : decode cX4_isNamed 78 = .ok (.goto (-62), 3) := by decide +kernel
theorem dX4_isNamed_81 : decode cX4_isNamed 81 = .ok (.iload 6, 2) := by decide +kernel
theorem dX4_isNamed_83 : decode cX4_isNamed 83 = .ok (.iload 5, 2) := by decide +kernel
theorem dX4_isNamed_85 : decode cX4_isNamed 85 = .ok (.if_icmp .ne 7, 3) := by decide +kernel
theorem dX4_isNamed_88 : decode cX4_isNamed 88 = .ok (.iconst 1, 1) := by decide +kernel
theorem dX4_isNamed_89 : decode cX4_isNamed 89 = .ok (.goto 4, 3) := by decide +kernel
theorem dX4_isNamed_92 : decode cX4_isNamed 92 = .ok (.iconst 0, 1) := by decide +kernel
theorem dX4_isNamed_93 : decode cX4_isNamed 93 = .ok (.ireturn, 1) := by decide +kernel
theorem dX4_advance_0 : decode cX4_advance 0 = .ok (.iconst 0, 1) := by decide +kernel
theorem dX4_advance_1 : decode cX4_advance 1 = .ok (.istore_n 2, 1) := by decide +kernel
theorem dX4_advance_2 : decode cX4_advance 2 = .ok (.iload_n 2, 1) := by decide +kernel
theorem dX4_advance_3 : decode cX4_advance 3 = .ok (.aload_n 0, 1) := by decide +kernel
theorem dX4_advance_4 : decode cX4_advance 4 = .ok (.getfield 45, 3) := by decide +kernel
theorem dX4_advance_7 : decode cX4_advance 7 = .ok (.if_icmp .gt 23, 3) := by decide +kernel
theorem dX4_advance_10 : decode cX4_advance 10 = .ok (.aload_n 0, 1) := by decide +kernel
theorem dX4_advance_11 : decode cX4_advance 11 = .ok (.getfield 34, 3) := by decide +kernel
theorem dX4_advance_14 : decode cX4_advance 14 = .ok (.iload_n 2, 1) := by decide +kernel
theorem dX4_advance_15 : decode cX4_advance 15 = .ok (.aload_n 0, 1) := by decide +kernel
theorem dX4_advance_16 : decode cX4_advance 16 = .ok (.aload_n 1, 1) := by decide +kernel
theorem dX4_advance_17 : decode cX4_advance 17 = .ok (.iload_n 2, 1) := by decide +kernel
theorem dX4_advance_18 : decode cX4_advance 18 = .ok (.invokevirtual 88, 3) := by decide +kernel
theorem dX4_advance_21 : decode cX4_advance 21 = .ok (.invokestatic 71, 3) := by decide +kernel
theorem dX4_advance_24 : decode cX4_advance 24 = .ok (.iinc 2 1, 3) := by decide +kernel
theorem dX4_advance_27 : decode cX4_advance 27 = .ok (.goto (-25), 3) := by decide +kernel
theorem dX4_advance_30 : decode cX4_advance 30 = .ok (.iconst 0, 1) := by decide +kernel
theorem dX4_advance_31 : decode cX4_advance 31 = .ok (.istore_n 2, 1) := by decide +kernel
theorem dX4_advance_32 : decode cX4_advance 32 = .ok (.iload_n 2, 1) := by decide +kernel
theorem dX4_advance_33 : decode cX4_advance 33 = .ok (.aload_n 0, 1) := by decide +kernel
theorem dX4_advance_34 : decode cX4_advance 34 = .ok (.getfield 45, 3) := by decide +kernel
theorem dX4_advance_37 : decode cX4_advance 37 = .ok (.if_icmp .ge 23, 3) := by decide +kernel
theorem dX4_advance_40 : decode cX4_advance 40 = .ok (.aload_n 0, 1) := by decide +kernel
theorem dX4_advance_41 : decode cX4_advance 41 = .ok (.aload_n 1, 1) := by decide +kernel
theorem dX4_advance_42 : decode cX4_advance 42 = .ok (.iload_n 2, 1) := by decide +kernel
theorem dX4_advance_43 : decode cX4_advance 43 = .ok (.invokevirtual 92, 3) := by decide +kernel
theorem dX4_advance_46 : decode cX4_advance 46 = .ok (.invokestatic 95, 3) := by decide +kernel
theorem dX4_advance_49 : decode cX4_advance 49 = .ok (.ifCond .ne 5, 3) := by decide +kernel
theorem dX4_advance_52 : decode cX4_advance 52 = .ok (.iconst 0, 1) := by decide +kernel
theorem dX4_advance_53 : decode cX4_advance 53 = .ok (.ireturn, 1) := by decide +kernel
theorem dX4_advance_54 : decode cX4_advance 54 = .ok (.iinc 2 1, 3) := by decide +kernel
theorem dX4_advance_57 : decode cX4_advance 57 = .ok (.goto (-25), 3) := by decide +kernel
theorem dX4_advance_60 : decode cX4_advance 60 = .ok (.iconst 0, 1) := by decide +kernel
theorem dX4_advance_61 : decode cX4_advance 61 = .ok (.istore_n 2, 1) := by decide +kernel
theorem dX4_advance_62 : decode cX4_advance 62 = .ok (.iload_n 2, 1) := by decide +kernel
theorem dX4_advance_63 : decode cX4_advance 63 = .ok (.aload_n 0, 1) := by decide +kernel
theorem dX4_advance_64 : decode cX4_advance 64 = .ok (.getfield 45, 3) := by decide +kernel
theorem dX4_advance_67 : decode cX4_advance 67 = .ok (.if_icmp .ge 23, 3) := by decide +kernel
theorem dX4_advance_70 : decode cX4_advance 70 = .ok (.aload_n 1, 1) := by decide +kernel
theorem dX4_advance_71 : decode cX4_advance 71 = .ok (.getfield 81, 3) := by decide +kernel
theorem dX4_advance_74 : decode cX4_advance 74 = .ok (.iload_n 2, 1) := by decide +kernel
theorem dX4_advance_75 : decode cX4_advance 75 = .ok (.aload_n 0, 1) := by decide +kernel
theorem dX4_advance_76 : decode cX4_advance 76 = .ok (.aload_n 1, 1) := by decide +kernel
theorem dX4_advance_77 : decode cX4_advance 77 = .ok (.iload_n 2, 1) := by decide +kernel
theorem dX4_advance_78 : decode cX4_advance 78 = .ok (.invokevirtual 92, 3) := by decide +kernel
theorem dX4_advance_81 : decode cX4_advance 81 = .ok (.invokestatic 71, 3) := by decide +kernel
theorem dX4_advance_84 : decode cX4_advance 84 = .ok (.iinc 2 1, 3) := by decide +kernel
theorem dX4_advance_87 : decode cX4_advance 87 = .ok (.goto (-25), 3) := by decide +kernel
theorem dX4_advance_90 : decode cX4_advance 90 = .ok (.aload_n 1, 1) := by decide +kernel
theorem dX4_advance_91 : decode cX4_advance 91 = .ok (.dup, 1) := by decide +kernel
theorem dX4_advance_92 : decode cX4_advance 92 = .ok (.getfield 99, 3) := by decide +kernel
theorem dX4_advance_95 : decode cX4_advance 95 = .ok (.aload_n 0, 1) := by decide +kernel
theorem dX4_advance_96 : decode cX4_advance 96 = .ok (.getfield 34, 3) := by decide +kernel
theorem dX4_advance_99 : decode cX4_advance 99 = .ok (.iconst 0, 1) := by decide +kernel
theorem dX4_advance_100 : decode cX4_advance 100 = .ok (.invokestatic 61, 3) := by decide +kernel
theorem dX4_advance_103 : decode cX4_advance 103 = .ok (.iadd, 1) := by decide +kernel
theorem dX4_advance_104 : decode cX4_advance 104 = .ok (.putfield 99, 3) := by decide +kernel
theorem dX4_advance_107 : decode cX4_advance 107 = .ok (.aload_n 1, 1) := by decide +kernel
theorem dX4_advance_108 : decode cX4_advance 108 = .ok (.dup, 1) := by decide +kernel
theorem dX4_advance_109 : decode cX4_advance 109 = .ok (.getfield 102, 3) := by decide +kernel
theorem dX4_advance_112 : decode cX4_advance 112 = .ok (.aload_n 0, 1) := by decide +kernel
theorem dX4_advance_113 : decode cX4_advance 113 = .ok (.getfield 34, 3) := by decide +kernel
theorem dX4_advance_116 : decode cX4_advance 116 = .ok (.aload_n 0, 1) := by decide +kernel
theorem dX4_advance_117 : decode cX4_advance 117 = .ok (.getfield 45, 3) := by decide +kernel
theorem dX4_advance_120 : decode cX4_advance 120 = .ok (.invokestatic 61, 3) := by decide +kernel
theorem dX4_advance_123 : decode cX4_advance 123 = .ok (.iadd, 1) := by decide +kernel
theorem dX4_advance_124 : decode cX4_advance 124 = .ok (.putfield 102, 3) := by decide +kernel
theorem dX4_advance_127 : decode cX4_advance 127 = .ok (.aload_n 1, 1) := by decide +kernel
theorem dX4_advance_128 : decode cX4_advance 128 = .ok (.dup, 1) := by decide +kernel
theorem dX4_advance_129 : decode cX4_advance 129 = .ok (.getfield 105, 3) := by decide +kernel
theorem dX4_advance_132 : decode cX4_advance 132 = .ok (.iconst 1, 1) := by decide +kernel
theorem dX4_advance_133 : decode cX4_advance 133 = .ok (.iadd, 1) := by decide +kernel
theorem dX4_advance_134 : decode cX4_advance 134 = .ok (.putfield 105, 3) := by decide +kernel
theorem dX4_advance_137 : decode cX4_advance 137 = .ok (.iconst 1, 1) := by decide +kernel
theorem dX4_advance_138 : decode cX4_advance 138 = .ok (.ireturn, 1) := by decide +kernel
theorem dX4_heatBehind_0 : decode cX4_heatBehind 0 = .ok (.aload_n 1, 1) := by decide +kernel
theorem dX4_heatBehind_1 : decode cX4_heatBehind 1 = .ok (.getfield 81, 3) := by decide +kernel
theorem dX4_heatBehind_4 : decode cX4_heatBehind 4 = .ok (.iload_n 2, 1) := by decide +kernel
theorem dX4_heatBehind_5 : decode cX4_heatBehind 5 = .ok (.invokestatic 61, 3) := by decide +kernel
theorem dX4_heatBehind_8 : decode cX4_heatBehind 8 = .ok (.aload_n 0, 1) := by decide +kernel
theorem dX4_heatBehind_9 : decode cX4_heatBehind 9 = .ok (.getfield 34, 3) := by decide +kernel
theorem dX4_heatBehind_12 : decode cX4_heatBehind 12 = .ok (.iload_n 2, 1) := by decide +kernel
theorem dX4_heatBehind_13 : decode cX4_heatBehind 13 = .ok (.invokestatic 61, 3) := by decide +kernel
theorem dX4_heatBehind_16 : decode cX4_heatBehind 16 = .ok (.iadd, 1) := by decide +kernel
theorem dX4_heatBehind_17 : decode cX4_heatBehind 17 = .ok (.aload_n 0, 1) := by decide +kernel
theorem dX4_heatBehind_18 : decode cX4_heatBehind 18 = .ok (.getfield 34, 3) := by decide +kernel
theorem dX4_heatBehind_21 : decode cX4_heatBehind 21 = .ok (.iload_n 2, 1) := by decide +kernel
theorem dX4_heatBehind_22 : decode cX4_heatBehind 22 = .ok (.iconst 1, 1) := by decide +kernel
theorem dX4_heatBehind_23 : decode cX4_heatBehind 23 = .ok (.iadd, 1) := by decide +kernel
theorem dX4_heatBehind_24 : decode cX4_heatBehind 24 = .ok (.invokestatic 61, 3) := by decide +kernel
theorem dX4_heatBehind_27 : decode cX4_heatBehind 27 = .ok (.isub, 1) := by decide +kernel
theorem dX4_heatBehind_28 : decode cX4_heatBehind 28 = .ok (.ireturn, 1) := by decide +kernel
theorem dX4_flowAt_0 : decode cX4_flowAt 0 = .ok (.aload_n 0, 1) := by decide +kernel
theorem dX4_flowAt_1 : decode cX4_flowAt 1 = .ok (.iload_n 2, 1) := by decide +kernel
theorem dX4_flowAt_2 : decode cX4_flowAt 2 = .ok (.iconst 1, 1) := by decide +kernel
theorem dX4_flowAt_3 : decode cX4_flowAt 3 = .ok (.isub, 1) := by decide +kernel
theorem dX4_flowAt_4 : decode cX4_flowAt 4 = .ok (.invokevirtual 108, 3) := by decide +kernel
theorem dX4_flowAt_7 : decode cX4_flowAt 7 = .ok (.lstore_n 3, 1) := by decide +kernel
theorem dX4_flowAt_8 : decode cX4_flowAt 8 = .ok (.aload_n 0, 1) := by decide +kernel
theorem dX4_flowAt_9 : decode cX4_flowAt 9 = .ok (.iload_n 2, 1) := by decide +kernel
theorem dX4_flowAt_10 : decode cX4_flowAt 10 = .ok (.invokevirtual 108, 3) := by decide +kernel
theorem dX4_flowAt_13 : decode cX4_flowAt 13 = .ok (.lstore 5, 2) := by decide +kernel
theorem dX4_flowAt_15 : decode cX4_flowAt 15 = .ok (.aload_n 0, 1) := by decide +kernel
theorem dX4_flowAt_16 : decode cX4_flowAt 16 = .ok (.aload_n 1, 1) := by decide +kernel
theorem dX4_flowAt_17 : decode cX4_flowAt 17 = .ok (.iload_n 2, 1) := by decide +kernel
theorem dX4_flowAt_18 : decode cX4_flowAt 18 = .ok (.iconst 1, 1) := by decide +kernel
theorem dX4_flowAt_19 : decode cX4_flowAt 19 = .ok (.isub, 1) := by decide +kernel
theorem dX4_flowAt_20 : decode cX4_flowAt 20 = .ok (.invokevirtual 112, 3) := by decide +kernel
theorem dX4_flowAt_23 : decode cX4_flowAt 23 = .ok (.lload 5, 2) := by decide +kernel
theorem dX4_flowAt_25 : decode cX4_flowAt 25 = .ok (.lmul, 1) := by decide +kernel
theorem dX4_flowAt_26 : decode cX4_flowAt 26 = .ok (.aload_n 0, 1) := by decide +kernel
theorem dX4_flowAt_27 : decode cX4_flowAt 27 = .ok (.aload_n 1, 1) := by decide +kernel
theorem dX4_flowAt_28 : decode cX4_flowAt 28 = .ok (.iload_n 2, 1) := by decide +kernel
theorem dX4_flowAt_29 : decode cX4_flowAt 29 = .ok (.invokevirtual 112, 3) := by decide +kernel
theorem dX4_flowAt_32 : decode cX4_flowAt 32 = .ok (.lload_n 3, 1) := by decide +kernel
theorem dX4_flowAt_33 : decode cX4_flowAt 33 = .ok (.lmul, 1) := by decide +kernel
theorem dX4_flowAt_34 : decode cX4_flowAt 34 = .ok (.lsub, 1) := by decide +kernel
theorem dX4_flowAt_35 : decode cX4_flowAt 35 = .ok (.lstore 7, 2) := by decide +kernel
theorem dX4_flowAt_37 : decode cX4_flowAt 37 = .ok (.lload 7, 2) := by decide +kernel
theorem dX4_flowAt_39 : decode cX4_flowAt 39 = .ok (.aload_n 0, 1) := by decide +kernel
theorem dX4_flowAt_40 : decode cX4_flowAt 40 = .ok (.iload_n 2, 1) := by decide +kernel
theorem dX4_flowAt_41 : decode cX4_flowAt 41 = .ok (.invokevirtual 116, 3) := by decide +kernel
theorem dX4_flowAt_44 : decode cX4_flowAt 44 = .ok (.lmul, 1) := by decide +kernel
theorem dX4_flowAt_45 : decode cX4_flowAt 45 = .ok (.lload_n 3, 1) := by decide +kernel
theorem dX4_flowAt_46 : decode cX4_flowAt 46 = .ok (.lload 5, 2) := by decide +kernel
theorem dX4_flowAt_48 : decode cX4_flowAt 48 = .ok (.lmul, 1) := by decide +kernel
theorem dX4_flowAt_49 : decode cX4_flowAt 49 = .ok (.aload_n 0, 1) := by decide +kernel
theorem dX4_flowAt_50 : decode cX4_flowAt 50 = .ok (.iload_n 2, 1) := by decide +kernel
theorem dX4_flowAt_51 : decode cX4_flowAt 51 = .ok (.invokevirtual 119, 3) := by decide +kernel
theorem dX4_flowAt_54 : decode cX4_flowAt 54 = .ok (.lmul, 1) := by decide +kernel
theorem dX4_flowAt_55 : decode cX4_flowAt 55 = .ok (.aload_n 1, 1) := by decide +kernel
theorem dX4_flowAt_56 : decode cX4_flowAt 56 = .ok (.getfield 58, 3) := by decide +kernel
theorem dX4_flowAt_59 : decode cX4_flowAt 59 = .ok (.i2l, 1) := by decide +kernel
theorem dX4_flowAt_60 : decode cX4_flowAt 60 = .ok (.lmul, 1) := by decide +kernel
theorem dX4_flowAt_61 : decode cX4_flowAt 61 = .ok (.invokestatic 122, 3) := by decide +kernel
theorem dX4_flowAt_64 : decode cX4_flowAt 64 = .ok (.l2i, 1) := by decide +kernel
theorem dX4_flowAt_65 : decode cX4_flowAt 65 = .ok (.ireturn, 1) := by decide +kernel
theorem dX4_degreesAbove_0 : decode cX4_degreesAbove 0 = .ok (.iload_n 2, 1) := by decide +kernel
theorem dX4_degreesAbove_1 : decode cX4_degreesAbove 1 = .ok (.ifCond .ge 9, 3) := by decide +kernel
theorem dX4_degreesAbove_4 : decode cX4_degreesAbove 4 = .ok (.aload_n 1, 1) := by decide +kernel
theorem dX4_degreesAbove_5 : decode cX4_degreesAbove 5 = .ok (.getfield 52, 3) := by decide +kernel
theorem dX4_degreesAbove_8 : decode cX4_degreesAbove 8 = .ok (.i2l, 1) := by decide +kernel
theorem dX4_degreesAbove_9 : decode cX4_degreesAbove 9 = .ok (.lreturn, 1) := by decide +kernel
theorem dX4_degreesAbove_10 : decode cX4_degreesAbove 10 = .ok (.iload_n 2, 1) := by decide +kernel
theorem dX4_degreesAbove_11 : decode cX4_degreesAbove 11 = .ok (.aload_n 0, 1) := by decide +kernel
theorem dX4_degreesAbove_12 : decode cX4_degreesAbove 12 = .ok (.getfield 45, 3) := by decide +kernel
theorem dX4_degreesAbove_15 : decode cX4_degreesAbove 15 = .ok (.if_icmp .ge 15, 3) := by decide +kernel
theorem dX4_degreesAbove_18 : decode cX4_degreesAbove 18 = .ok (.aload_n 1, 1) := by decide +kernel
theorem dX4_degreesAbove_19 : decode cX4_degreesAbove 19 = .ok (.getfield 81, 3) := by decide +kernel
theorem dX4_degreesAbove_22 : decode cX4_degreesAbove 22 = .ok (.iload_n 2, 1) := by decide +kernel
theorem dX4_degreesAbove_23 : decode cX4_degreesAbove 23 = .ok (.invokestatic 61, 3) := by decide +kernel
theorem dX4_degreesAbove_26 : decode cX4_degreesAbove 26 = .ok (.i2l, 1) := by decide +kernel
theorem dX4_degreesAbove_27 : decode cX4_degreesAbove 27 = .ok (.goto 8, 3) := by decide +kernel
theorem dX4_degreesAbove_30 : decode cX4_degreesAbove 30 = .ok (.aload_n 1, 1) := by decide +kernel
theorem dX4_degreesAbove_31 : decode cX4_degreesAbove 31 = .ok (.getfield 55, 3) := by decide +kernel
theorem dX4_degreesAbove_34 : decode cX4_degreesAbove 34 = .ok (.i2l, 1) := by decide +kernel
theorem dX4_degreesAbove_35 : decode cX4_degreesAbove 35 = .ok (.lreturn, 1) := by decide +kernel
theorem dX4_degreesBelow_0 : decode cX4_degreesBelow 0 = .ok (.aload_n 0, 1) := by decide +kernel
theorem dX4_degreesBelow_1 : decode cX4_degreesBelow 1 = .ok (.iload_n 1, 1) := by decide +kernel
theorem dX4_degreesBelow_2 : decode cX4_degreesBelow 2 = .ok (.invokevirtual 126, 3) := by decide +kernel
theorem dX4_degreesBelow_5 : decode cX4_degreesBelow 5 = .ok (.ifCond .eq 12, 3) := by decide +kernel
theorem dX4_degreesBelow_8 : decode cX4_degreesBelow 8 = .ok (.aload_n 0, 1) := by decide +kernel
theorem dX4_degreesBelow_9 : decode cX4_degreesBelow 9 = .ok (.iload_n 1, 1) := by decide +kernel
theorem dX4_degreesBelow_10 : decode cX4_degreesBelow 10 = .ok (.invokevirtual 129, 3) := by decide +kernel
theorem dX4_degreesBelow_13 : decode cX4_degreesBelow 13 = .ok (.i2l, 1) := by decide +kernel
theorem dX4_degreesBelow_14 : decode cX4_degreesBelow 14 = .ok (.goto 4, 3) := by decide +kernel
theorem dX4_degreesBelow_17 : decode cX4_degreesBelow 17 = .ok (.lconst 1, 1) := by decide +kernel
theorem dX4_degreesBelow_18 : decode cX4_degreesBelow 18 = .ok (.lreturn, 1) := by decide +kernel
theorem dX4_betweenAbove_0 : decode cX4_betweenAbove 0 = .ok (.iload_n 1, 1) := by decide +kernel
theorem dX4_betweenAbove_1 : decode cX4_betweenAbove 1 = .ok (.ifCond .ne 14, 3) := by decide +kernel
theorem dX4_betweenAbove_4 : decode cX4_betweenAbove 4 = .ok (.ldc2_w 133, 3) := by decide +kernel
theorem dX4_betweenAbove_7 : decode cX4_betweenAbove 7 = .ok (.aload_n 0, 1) := by decide +kernel
theorem dX4_betweenAbove_8 : decode cX4_betweenAbove 8 = .ok (.iconst 0, 1) := by decide +kernel
theorem dX4_betweenAbove_9 : decode cX4_betweenAbove 9 = .ok (.invokevirtual 135, 3) := by decide +kernel
theorem dX4_betweenAbove_12 : decode cX4_betweenAbove 12 = .ok (.i2l, 1) := by decide +kernel
theorem dX4_betweenAbove_13 : decode cX4_betweenAbove 13 = .ok (.lmul, 1) := by decide +kernel
theorem dX4_betweenAbove_14 : decode cX4_betweenAbove 14 = .ok (.lreturn, 1) := by decide +kernel
theorem dX4_betweenAbove_15 : decode cX4_betweenAbove 15 = .ok (.iload_n 1, 1) := by decide +kernel
theorem dX4_betweenAbove_16 : decode cX4_betweenAbove 16 = .ok (.aload_n 0, 1) := by decide +kernel
theorem dX4_betweenAbove_17 : decode cX4_betweenAbove 17 = .ok (.getfield 45, 3) := by decide +kernel
theorem dX4_betweenAbove_20 : decode cX4_betweenAbove 20 = .ok (.if_icmp .ne 19, 3) := by decide +kernel
theorem dX4_betweenAbove_23 : decode cX4_betweenAbove 23 = .ok (.ldc2_w 133, 3) := by decide +kernel
theorem dX4_betweenAbove_26 : decode cX4_betweenAbove 26 = .ok (.aload_n 0, 1) := by decide +kernel
theorem dX4_betweenAbove_27 : decode cX4_betweenAbove 27 = .ok (.aload_n 0, 1) := by decide +kernel
theorem dX4_betweenAbove_28 : decode cX4_betweenAbove 28 = .ok (.getfield 45, 3) := by decide +kernel
theorem dX4_betweenAbove_31 : decode cX4_betweenAbove 31 = .ok (.iconst 1, 1) := by decide +kernel
theorem dX4_betweenAbove_32 : decode cX4_betweenAbove 32 = .ok (.isub, 1) := by decide +kernel
theorem dX4_betweenAbove_33 : decode cX4_betweenAbove 33 = .ok (.invokevirtual 135, 3) := by decide +kernel
theorem dX4_betweenAbove_36 : decode cX4_betweenAbove 36 = .ok (.i2l, 1) := by decide +kernel
theorem dX4_betweenAbove_37 : decode cX4_betweenAbove 37 = .ok (.lmul, 1) := by decide +kernel
theorem dX4_betweenAbove_38 : decode cX4_betweenAbove 38 = .ok (.lreturn, 1) := by decide +kernel
theorem dX4_betweenAbove_39 : decode cX4_betweenAbove 39 = .ok (.ldc2_w 133, 3) := by decide +kernel
theorem dX4_betweenAbove_42 : decode cX4_betweenAbove 42 = .ok (.aload_n 0, 1) := by decide +kernel
theorem dX4_betweenAbove_43 : decode cX4_betweenAbove 43 = .ok (.iload_n 1, 1) := by decide +kernel
theorem dX4_betweenAbove_44 : decode cX4_betweenAbove 44 = .ok (.iconst 1, 1) := by decide +kernel
theorem dX4_betweenAbove_45 : decode cX4_betweenAbove 45 = .ok (.isub, 1) := by decide +kernel
theorem dX4_betweenAbove_46 : decode cX4_betweenAbove 46 = .ok (.invokevirtual 135, 3) := by decide +kernel
theorem dX4_betweenAbove_49 : decode cX4_betweenAbove 49 = .ok (.i2l, 1) := by decide +kernel
theorem dX4_betweenAbove_50 : decode cX4_betweenAbove 50 = .ok (.lmul, 1) := by decide +kernel
theorem dX4_betweenAbove_51 : decode cX4_betweenAbove 51 = .ok (.aload_n 0, 1) := by decide +kernel
theorem dX4_betweenAbove_52 : decode cX4_betweenAbove 52 = .ok (.iload_n 1, 1) := by decide +kernel
theorem dX4_betweenAbove_53 : decode cX4_betweenAbove 53 = .ok (.invokevirtual 135, 3) := by decide +kernel
theorem dX4_betweenAbove_56 : decode cX4_betweenAbove 56 = .ok (.i2l, 1) := by decide +kernel
theorem dX4_betweenAbove_57 : decode cX4_betweenAbove 57 = .ok (.lmul, 1) := by decide +kernel
theorem dX4_betweenAbove_58 : decode cX4_betweenAbove 58 = .ok (.lreturn, 1) := by decide +kernel
theorem dX4_betweenBelow_0 : decode cX4_betweenBelow 0 = .ok (.iload_n 1, 1) := by decide +kernel
theorem dX4_betweenBelow_1 : decode cX4_betweenBelow 1 = .ok (.ifCond .eq 11, 3) := by decide +kernel
theorem dX4_betweenBelow_4 : decode cX4_betweenBelow 4 = .ok (.iload_n 1, 1) := by decide +kernel
theorem dX4_betweenBelow_5 : decode cX4_betweenBelow 5 = .ok (.aload_n 0, 1) := by decide +kernel
theorem dX4_betweenBelow_6 : decode cX4_betweenBelow 6 = .ok (.getfield 45, 3) := by decide +kernel
theorem dX4_betweenBelow_9 : decode cX4_betweenBelow 9 = .ok (.if_icmp .ne 7, 3) := by decide +kernel
theorem dX4_betweenBelow_12 : decode cX4_betweenBelow 12 = .ok (.lconst 1, 1) := by decide +kernel
theorem dX4_betweenBelow_13 : decode cX4_betweenBelow 13 = .ok (.goto 17, 3) := by decide +kernel
theorem dX4_betweenBelow_16 : decode cX4_betweenBelow 16 = .ok (.aload_n 0, 1) := by decide +kernel
theorem dX4_betweenBelow_17 : decode cX4_betweenBelow 17 = .ok (.iload_n 1, 1) := by decide +kernel
theorem dX4_betweenBelow_18 : decode cX4_betweenBelow 18 = .ok (.iconst 1, 1) := by decide +kernel
theorem dX4_betweenBelow_19 : decode cX4_betweenBelow 19 = .ok (.isub, 1) := by decide +kernel
theorem dX4_betweenBelow_20 : decode cX4_betweenBelow 20 = .ok (.invokevirtual 135, 3) := by decide +kernel
theorem dX4_betweenBelow_23 : decode cX4_betweenBelow 23 = .ok (.aload_n 0, 1) := by decide +kernel
theorem dX4_betweenBelow_24 : decode cX4_betweenBelow 24 = .ok (.iload_n 1, 1) := by decide +kernel
theorem dX4_betweenBelow_25 : decode cX4_betweenBelow 25 = .ok (.invokevirtual 135, 3) := by decide +kernel
theorem dX4_betweenBelow_28 : decode cX4_betweenBelow 28 = .ok (.iadd, 1) := by decide +kernel
theorem dX4_betweenBelow_29 : decode cX4_betweenBelow 29 = .ok (.i2l, 1) := by decide +kernel
theorem dX4_betweenBelow_30 : decode cX4_betweenBelow 30 = .ok (.lreturn, 1) := by decide +kernel
theorem dX4_safe_0 : decode cX4_safe 0 = .ok (.lconst 1, 1) := by decide +kernel
theorem dX4_safe_1 : decode cX4_safe 1 = .ok (.lstore_n 1, 1) := by decide +kernel
theorem dX4_safe_2 : decode cX4_safe 2 = .ok (.iconst 0, 1) := by decide +kernel
theorem dX4_safe_3 : decode cX4_safe 3 = .ok (.istore_n 3, 1) := by decide +kernel
theorem dX4_safe_4 : decode cX4_safe 4 = .ok (.iload_n 3, 1) := by decide +kernel
theorem dX4_safe_5 : decode cX4_safe 5 = .ok (.aload_n 0, 1) := by decide +kernel
theorem dX4_safe_6 : decode cX4_safe 6 = .ok (.getfield 45, 3) := by decide +kernel
theorem dX4_safe_9 : decode cX4_safe 9 = .ok (.if_icmp .ge 77, 3) := by decide +kernel
theorem dX4_safe_12 : decode cX4_safe 12 = .ok (.aload_n 0, 1) := by decide +kernel
theorem dX4_safe_13 : decode cX4_safe 13 = .ok (.iload_n 3, 1) := by decide +kernel
theorem dX4_safe_14 : decode cX4_safe 14 = .ok (.invokevirtual 116, 3) := by decide +kernel
theorem dX4_safe_17 : decode cX4_safe 17 = .ok (.aload_n 0, 1) := by decide +kernel
theorem dX4_safe_18 : decode cX4_safe 18 = .ok (.iload_n 3, 1) := by decide +kernel
theorem dX4_safe_19 : decode cX4_safe 19 = .ok (.iconst 1, 1) := by decide +kernel
theorem dX4_safe_20 : decode cX4_safe 20 = .ok (.iadd, 1) := by decide +kernel
theorem dX4_safe_21 : decode cX4_safe 21 = .ok (.invokevirtual 119, 3) := by decide +kernel
theorem dX4_safe_24 : decode cX4_safe 24 = .ok (.lmul, 1) := by decide +kernel
theorem dX4_safe_25 : decode cX4_safe 25 = .ok (.aload_n 0, 1) := by decide +kernel
theorem dX4_safe_26 : decode cX4_safe 26 = .ok (.iload_n 3, 1) := by decide +kernel
theorem dX4_safe_27 : decode cX4_safe 27 = .ok (.iconst 1, 1) := by decide +kernel
theorem dX4_safe_28 : decode cX4_safe 28 = .ok (.iadd, 1) := by decide +kernel
theorem dX4_safe_29 : decode cX4_safe 29 = .ok (.invokevirtual 116, 3) := by decide +kernel
theorem dX4_safe_32 : decode cX4_safe 32 = .ok (.aload_n 0, 1) := by decide +kernel
theorem dX4_safe_33 : decode cX4_safe 33 = .ok (.iload_n 3, 1) := by decide +kernel
theorem dX4_safe_34 : decode cX4_safe 34 = .ok (.invokevirtual 119, 3) := by decide +kernel
theorem dX4_safe_37 : decode cX4_safe 37 = .ok (.lmul, 1) := by decide +kernel
theorem dX4_safe_38 : decode cX4_safe 38 = .ok (.ladd, 1) := by decide +kernel
theorem dX4_safe_39 : decode cX4_safe 39 = .ok (.lstore 4, 2) := by decide +kernel
theorem dX4_safe_41 : decode cX4_safe 41 = .ok (.aload_n 0, 1) := by decide +kernel
theorem dX4_safe_42 : decode cX4_safe 42 = .ok (.iload_n 3, 1) := by decide +kernel
theorem dX4_safe_43 : decode cX4_safe 43 = .ok (.invokevirtual 119, 3) := by decide +kernel
theorem dX4_safe_46 : decode cX4_safe 46 = .ok (.aload_n 0, 1) := by decide +kernel
theorem dX4_safe_47 : decode cX4_safe 47 = .ok (.iload_n 3, 1) := by decide +kernel
theorem dX4_safe_48 : decode cX4_safe 48 = .ok (.iconst 1, 1) := by decide +kernel
theorem dX4_safe_49 : decode cX4_safe 49 = .ok (.iadd, 1) := by decide +kernel
theorem dX4_safe_50 : decode cX4_safe 50 = .ok (.invokevirtual 119, 3) := by decide +kernel
theorem dX4_safe_53 : decode cX4_safe 53 = .ok (.lmul, 1) := by decide +kernel
theorem dX4_safe_54 : decode cX4_safe 54 = .ok (.aload_n 0, 1) := by decide +kernel
theorem dX4_safe_55 : decode cX4_safe 55 = .ok (.iload_n 3, 1) := by decide +kernel
theorem dX4_safe_56 : decode cX4_safe 56 = .ok (.invokevirtual 129, 3) := by decide +kernel
theorem dX4_safe_59 : decode cX4_safe 59 = .ok (.i2l, 1) := by decide +kernel
theorem dX4_safe_60 : decode cX4_safe 60 = .ok (.lmul, 1) := by decide +kernel
theorem dX4_safe_61 : decode cX4_safe 61 = .ok (.lstore 6, 2) := by decide +kernel
theorem dX4_safe_63 : decode cX4_safe 63 = .ok (.lload_n 1, 1) := by decide +kernel
theorem dX4_safe_64 : decode cX4_safe 64 = .ok (.lload 4, 2) := by decide +kernel
theorem dX4_safe_66 : decode cX4_safe 66 = .ok (.lload 6, 2) := by decide +kernel
theorem dX4_safe_68 : decode cX4_safe 68 = .ok (.ladd, 1) := by decide +kernel
theorem dX4_safe_69 : decode cX4_safe 69 = .ok (.lconst 1, 1) := by decide +kernel
theorem dX4_safe_70 : decode cX4_safe 70 = .ok (.lsub, 1) := by decide +kernel
theorem dX4_safe_71 : decode cX4_safe 71 = .ok (.lload 6, 2) := by decide +kernel
theorem dX4_safe_73 : decode cX4_safe 73 = .ok (.invokestatic 122, 3) := by decide +kernel
theorem dX4_safe_76 : decode cX4_safe 76 = .ok (.invokestatic 138, 3) := by decide +kernel
theorem dX4_safe_79 : decode cX4_safe 79 = .ok (.lstore_n 1, 1) := by decide +kernel
theorem dX4_safe_80 : decode cX4_safe 80 = .ok (.iinc 3 1, 3) := by decide +kernel
theorem dX4_safe_83 : decode cX4_safe 83 = .ok (.goto (-79), 3) := by decide +kernel
theorem dX4_safe_86 : decode cX4_safe 86 = .ok (.lload_n 1, 1) := by decide +kernel
theorem dX4_safe_87 : decode cX4_safe 87 = .ok (.l2i, 1) := by decide +kernel
theorem dX4_safe_88 : decode cX4_safe 88 = .ok (.ireturn, 1) := by decide +kernel
theorem dX4_resistsInAll_0 : decode cX4_resistsInAll 0 = .ok (.lconst 0, 1) := by decide +kernel
theorem dX4_resistsInAll_1 : decode cX4_resistsInAll 1 = .ok (.lstore_n 1, 1) := by decide +kernel
theorem dX4_resistsInAll_2 : decode cX4_resistsInAll 2 = .ok (.iconst 0, 1) := by decide +kernel
theorem dX4_resistsInAll_3 : decode cX4_resistsInAll 3 = .ok (.istore_n 3, 1) := by decide +kernel
theorem dX4_resistsInAll_4 : decode cX4_resistsInAll 4 = .ok (.iload_n 3, 1) := by decide +kernel
theorem dX4_resistsInAll_5 : decode cX4_resistsInAll 5 = .ok (.aload_n 0, 1) := by decide +kernel
theorem dX4_resistsInAll_6 : decode cX4_resistsInAll 6 = .ok (.getfield 45, 3) := by decide +kernel
theorem dX4_resistsInAll_9 : decode cX4_resistsInAll 9 = .ok (.if_icmp .ge 24, 3) := by decide +kernel
theorem dX4_resistsInAll_12 : decode cX4_resistsInAll 12 = .ok (.lload_n 1, 1) := by decide +kernel
theorem dX4_resistsInAll_13 : decode cX4_resistsInAll 13 = .ok (.ldc2_w 133, 3) := by decide +kernel
theorem dX4_resistsInAll_16 : decode cX4_resistsInAll 16 = .ok (.aload_n 0, 1) := by decide +kernel
theorem dX4_resistsInAll_17 : decode cX4_resistsInAll 17 = .ok (.iload_n 3, 1) := by decide +kernel
theorem dX4_resistsInAll_18 : decode cX4_resistsInAll 18 = .ok (.invokevirtual 135, 3) := by decide +kernel
theorem dX4_resistsInAll_21 : decode cX4_resistsInAll 21 = .ok (.invokestatic 143, 3) := by decide +kernel
theorem dX4_resistsInAll_24 : decode cX4_resistsInAll 24 = .ok (.lmul, 1) := by decide +kernel
theorem dX4_resistsInAll_25 : decode cX4_resistsInAll 25 = .ok (.ladd, 1) := by decide +kernel
theorem dX4_resistsInAll_26 : decode cX4_resistsInAll 26 = .ok (.lstore_n 1, 1) := by decide +kernel
theorem dX4_resistsInAll_27 : decode cX4_resistsInAll 27 = .ok (.iinc 3 1, 3) := by decide +kernel
theorem dX4_resistsInAll_30 : decode cX4_resistsInAll 30 = .ok (.goto (-26), 3) := by decide +kernel
theorem dX4_resistsInAll_33 : decode cX4_resistsInAll 33 = .ok (.lload_n 1, 1) := by decide +kernel
theorem dX4_resistsInAll_34 : decode cX4_resistsInAll 34 = .ok (.lreturn, 1) := by decide +kernel
theorem dX4_resistsRightOf_0 : decode cX4_resistsRightOf 0 = .ok (.aload_n 0, 1) := by decide +kernel
theorem dX4_resistsRightOf_1 : decode cX4_resistsRightOf 1 = .ok (.iload_n 1, 1) := by decide +kernel
theorem dX4_resistsRightOf_2 : decode cX4_resistsRightOf 2 = .ok (.invokevirtual 135, 3) := by decide +kernel
theorem dX4_resistsRightOf_5 : decode cX4_resistsRightOf 5 = .ok (.invokestatic 143, 3) := by decide +kernel
theorem dX4_resistsRightOf_8 : decode cX4_resistsRightOf 8 = .ok (.lstore_n 2, 1) := by decide +kernel
theorem dX4_resistsRightOf_9 : decode cX4_resistsRightOf 9 = .ok (.iload_n 1, 1) := by decide +kernel
theorem dX4_resistsRightOf_10 : decode cX4_resistsRightOf 10 = .ok (.iconst 1, 1) := by decide +kernel
theorem dX4_resistsRightOf_11 : decode cX4_resistsRightOf 11 = .ok (.iadd, 1) := by decide +kernel
theorem dX4_resistsRightOf_12 : decode cX4_resistsRightOf 12 = .ok (.istore 4, 2) := by decide +kernel
theorem dX4_resistsRightOf_14 : decode cX4_resistsRightOf 14 = .ok (.iload 4, 2) := by decide +kernel
theorem dX4_resistsRightOf_16 : decode cX4_resistsRightOf 16 = .ok (.aload_n 0, 1) := by decide +kernel
theorem dX4_resistsRightOf_17 : decode cX4_resistsRightOf 17 = .ok (.getfield 45, 3) := by decide +kernel
theorem dX4_resistsRightOf_20 : decode cX4_resistsRightOf 20 = .ok (.if_icmp .ge 25, 3) := by decide +kernel
theorem dX4_resistsRightOf_23 : decode cX4_resistsRightOf 23 = .ok (.lload_n 2, 1) := by decide +kernel
theorem dX4_resistsRightOf_24 : decode cX4_resistsRightOf 24 = .ok (.ldc2_w 133, 3) := by decide +kernel
theorem dX4_resistsRightOf_27 : decode cX4_resistsRightOf 27 = .ok (.aload_n 0, 1) := by decide +kernel
theorem dX4_resistsRightOf_28 : decode cX4_resistsRightOf 28 = .ok (.iload 4, 2) := by decide +kernel
theorem dX4_resistsRightOf_30 : decode cX4_resistsRightOf 30 = .ok (.invokevirtual 135, 3) := by decide +kernel
theorem dX4_resistsRightOf_33 : decode cX4_resistsRightOf 33 = .ok (.invokestatic 143, 3) := by decide +kernel
theorem dX4_resistsRightOf_36 : decode cX4_resistsRightOf 36 = .ok (.lmul, 1) := by decide +kernel
theorem dX4_resistsRightOf_37 : decode cX4_resistsRightOf 37 = .ok (.ladd, 1) := by decide +kernel
theorem dX4_resistsRightOf_38 : decode cX4_resistsRightOf 38 = .ok (.lstore_n 2, 1) := by decide +kernel
theorem dX4_resistsRightOf_39 : decode cX4_resistsRightOf 39 = .ok (.iinc 4 1, 3) := by decide +kernel
theorem dX4_resistsRightOf_42 : decode cX4_resistsRightOf 42 = .ok (.goto (-28), 3) := by decide +kernel
theorem dX4_resistsRightOf_45 : decode cX4_resistsRightOf 45 = .ok (.lload_n 2, 1) := by decide +kernel
theorem dX4_resistsRightOf_46 : decode cX4_resistsRightOf 46 = .ok (.lreturn, 1) := by decide +kernel
theorem dX4_mostOf_0 : decode cX4_mostOf 0 = .ok (.iconst (-1), 1) := by decide +kernel
theorem dX4_mostOf_1 : decode cX4_mostOf 1 = .ok (.istore_n 2, 1) := by decide +kernel
theorem dX4_mostOf_2 : decode cX4_mostOf 2 = .ok (.iconst 0, 1) := by decide +kernel
theorem dX4_mostOf_3 : decode cX4_mostOf 3 = .ok (.istore_n 3, 1) := by decide +kernel
theorem dX4_mostOf_4 : decode cX4_mostOf 4 = .ok (.iload_n 3, 1) := by decide +kernel
theorem dX4_mostOf_5 : decode cX4_mostOf 5 = .ok (.aload_n 0, 1) := by decide +kernel
theorem dX4_mostOf_6 : decode cX4_mostOf 6 = .ok (.getfield 45, 3) := by decide +kernel
theorem dX4_mostOf_9 : decode cX4_mostOf 9 = .ok (.if_icmp .ge 27, 3) := by decide +kernel
theorem dX4_mostOf_12 : decode cX4_mostOf 12 = .ok (.iload_n 2, 1) := by decide +kernel
theorem dX4_mostOf_13 : decode cX4_mostOf 13 = .ok (.iconst (-1), 1) := by decide +kernel
theorem dX4_mostOf_14 : decode cX4_mostOf 14 = .ok (.if_icmp .eq 14, 3) := by decide +kernel
theorem dX4_mostOf_17 : decode cX4_mostOf 17 = .ok (.iload_n 1, 1) := by decide +kernel
theorem dX4_mostOf_18 : decode cX4_mostOf 18 = .ok (.aload_n 0, 1) := by decide +kernel
theorem dX4_mostOf_19 : decode cX4_mostOf 19 = .ok (.iload_n 3, 1) := by decide +kernel
theorem dX4_mostOf_20 : decode cX4_mostOf 20 = .ok (.iload_n 2, 1) := by decide +kernel
theorem dX4_mostOf_21 : decode cX4_mostOf 21 = .ok (.invokevirtual 146, 3) := by decide +kernel
theorem dX4_mostOf_24 : decode cX4_mostOf 24 = .ok (.imul, 1) := by decide +kernel
theorem dX4_mostOf_25 : decode cX4_mostOf 25 = .ok (.ifCond .le 5, 3) := by decide +kernel
theorem dX4_mostOf_28 : decode cX4_mostOf 28 = .ok (.iload_n 3, 1) := by decide +kernel
theorem dX4_mostOf_29 : decode cX4_mostOf 29 = .ok (.istore_n 2, 1) := by decide +kernel
theorem dX4_mostOf_30 : decode cX4_mostOf 30 = .ok (.iinc 3 1, 3) := by decide +kernel
theorem dX4_mostOf_33 : decode cX4_mostOf 33 = .ok (.goto (-29), 3) := by decide +kernel
theorem dX4_mostOf_36 : decode cX4_mostOf 36 = .ok (.iload_n 2, 1) := by decide +kernel
theorem dX4_mostOf_37 : decode cX4_mostOf 37 = .ok (.ireturn, 1) := by decide +kernel
theorem dX4_compareDegrees_0 : decode cX4_compareDegrees 0 = .ok (.aload_n 0, 1) := by decide +kernel
theorem dX4_compareDegrees_1 : decode cX4_compareDegrees 1 = .ok (.getfield 30, 3) := by decide +kernel
theorem dX4_compareDegrees_4 : decode cX4_compareDegrees 4 = .ok (.getfield 81, 3) := by decide +kernel
theorem dX4_compareDegrees_7 : decode cX4_compareDegrees 7 = .ok (.iload_n 1, 1) := by decide +kernel
theorem dX4_compareDegrees_8 : decode cX4_compareDegrees 8 = .ok (.invokestatic 61, 3) := by decide +kernel
theorem dX4_compareDegrees_11 : decode cX4_compareDegrees 11 = .ok (.aload_n 0, 1) := by decide +kernel
theorem dX4_compareDegrees_12 : decode cX4_compareDegrees 12 = .ok (.iload_n 2, 1) := by decide +kernel
theorem dX4_compareDegrees_13 : decode cX4_compareDegrees 13 = .ok (.invokevirtual 129, 3) := by decide +kernel
theorem dX4_compareDegrees_16 : decode cX4_compareDegrees 16 = .ok (.imul, 1) := by decide +kernel
theorem dX4_compareDegrees_17 : decode cX4_compareDegrees 17 = .ok (.aload_n 0, 1) := by decide +kernel
theorem dX4_compareDegrees_18 : decode cX4_compareDegrees 18 = .ok (.getfield 30, 3) := by decide +kernel
theorem dX4_compareDegrees_21 : decode cX4_compareDegrees 21 = .ok (.getfield 81, 3) := by decide +kernel
theorem dX4_compareDegrees_24 : decode cX4_compareDegrees 24 = .ok (.iload_n 2, 1) := by decide +kernel
theorem dX4_compareDegrees_25 : decode cX4_compareDegrees 25 = .ok (.invokestatic 61, 3) := by decide +kernel
theorem dX4_compareDegrees_28 : decode cX4_compareDegrees 28 = .ok (.aload_n 0, 1) := by decide +kernel
theorem dX4_compareDegrees_29 : decode cX4_compareDegrees 29 = .ok (.iload_n 1, 1) := by decide +kernel
theorem dX4_compareDegrees_30 : decode cX4_compareDegrees 30 = .ok (.invokevirtual 129, 3) := by decide +kernel
theorem dX4_compareDegrees_33 : decode cX4_compareDegrees 33 = .ok (.imul, 1) := by decide +kernel
theorem dX4_compareDegrees_34 : decode cX4_compareDegrees 34 = .ok (.invokestatic 150, 3) := by decide +kernel
theorem dX4_compareDegrees_37 : decode cX4_compareDegrees 37 = .ok (.ireturn, 1) := by decide +kernel
theorem dX4_alikePairs_0 : decode cX4_alikePairs 0 = .ok (.iconst 0, 1) := by decide +kernel
theorem dX4_alikePairs_1 : decode cX4_alikePairs 1 = .ok (.istore_n 1, 1) := by decide +kernel
theorem dX4_alikePairs_2 : decode cX4_alikePairs 2 = .ok (.iconst 0, 1) := by decide +kernel
theorem dX4_alikePairs_3 : decode cX4_alikePairs 3 = .ok (.istore_n 2, 1) := by decide +kernel
theorem dX4_alikePairs_4 : decode cX4_alikePairs 4 = .ok (.iload_n 2, 1) := by decide +kernel
theorem dX4_alikePairs_5 : decode cX4_alikePairs 5 = .ok (.aload_n 0, 1) := by decide +kernel
theorem dX4_alikePairs_6 : decode cX4_alikePairs 6 = .ok (.getfield 45, 3) := by decide +kernel
theorem dX4_alikePairs_9 : decode cX4_alikePairs 9 = .ok (.if_icmp .ge 39, 3) := by decide +kernel
theorem dX4_alikePairs_12 : decode cX4_alikePairs 12 = .ok (.iload_n 2, 1) := by decide +kernel
theorem dX4_alikePairs_13 : decode cX4_alikePairs 13 = .ok (.iconst 1, 1) := by decide +kernel
theorem dX4_alikePairs_14 : decode cX4_alikePairs 14 = .ok (.iadd, 1) := by decide +kernel
theorem dX4_alikePairs_15 : decode cX4_alikePairs 15 = .ok (.istore_n 3, 1) := by decide +kernel
theorem dX4_alikePairs_16 : decode cX4_alikePairs 16 = .ok (.iload_n 3, 1) := by decide +kernel
theorem dX4_alikePairs_17 : decode cX4_alikePairs 17 = .ok (.aload_n 0, 1) := by decide +kernel
theorem dX4_alikePairs_18 : decode cX4_alikePairs 18 = .ok (.getfield 45, 3) := by decide +kernel
theorem dX4_alikePairs_21 : decode cX4_alikePairs 21 = .ok (.if_icmp .ge 21, 3) := by decide +kernel
theorem dX4_alikePairs_24 : decode cX4_alikePairs 24 = .ok (.aload_n 0, 1) := by decide +kernel
theorem dX4_alikePairs_25 : decode cX4_alikePairs 25 = .ok (.iload_n 2, 1) := by decide +kernel
theorem dX4_alikePairs_26 : decode cX4_alikePairs 26 = .ok (.iload_n 3, 1) := by decide +kernel
theorem dX4_alikePairs_27 : decode cX4_alikePairs 27 = .ok (.invokevirtual 155, 3) := by decide +kernel
theorem dX4_alikePairs_30 : decode cX4_alikePairs 30 = .ok (.ifCond .eq 6, 3) := by decide +kernel
theorem dX4_alikePairs_33 : decode cX4_alikePairs 33 = .ok (.iinc 1 1, 3) := by decide +kernel
theorem dX4_alikePairs_36 : decode cX4_alikePairs 36 = .ok (.iinc 3 1, 3) := by decide +kernel
theorem dX4_alikePairs_39 : decode cX4_alikePairs 39 = .ok (.goto (-23), 3) := by decide +kernel
theorem dX4_alikePairs_42 : decode cX4_alikePairs 42 = .ok (.iinc 2 1, 3) := by decide +kernel
theorem dX4_alikePairs_45 : decode cX4_alikePairs 45 = .ok (.goto (-41), 3) := by decide +kernel
theorem dX4_alikePairs_48 : decode cX4_alikePairs 48 = .ok (.iload_n 1, 1) := by decide +kernel
theorem dX4_alikePairs_49 : decode cX4_alikePairs 49 = .ok (.ireturn, 1) := by decide +kernel
theorem dX4_isAlike_0 : decode cX4_isAlike 0 = .ok (.aload_n 0, 1) := by decide +kernel
theorem dX4_isAlike_1 : decode cX4_isAlike 1 = .ok (.getfield 24, 3) := by decide +kernel
theorem dX4_isAlike_4 : decode cX4_isAlike 4 = .ok (.iload_n 1, 1) := by decide +kernel
theorem dX4_isAlike_5 : decode cX4_isAlike 5 = .ok (.invokestatic 61, 3) := by decide +kernel
theorem dX4_isAlike_8 : decode cX4_isAlike 8 = .ok (.aload_n 0, 1) := by decide +kernel
theorem dX4_isAlike_9 : decode cX4_isAlike 9 = .ok (.getfield 24, 3) := by decide +kernel
theorem dX4_isAlike_12 : decode cX4_isAlike 12 = .ok (.iload_n 2, 1) := by decide +kernel
theorem dX4_isAlike_13 : decode cX4_isAlike 13 = .ok (.invokestatic 61, 3) := by decide +kernel
theorem dX4_isAlike_16 : decode cX4_isAlike 16 = .ok (.if_icmp .ne 32, 3) := by decide +kernel
theorem dX4_isAlike_19 : decode cX4_isAlike 19 = .ok (.aload_n 0, 1) := by decide +kernel
theorem dX4_isAlike_20 : decode cX4_isAlike 20 = .ok (.getfield 30, 3) := by decide +kernel
theorem dX4_isAlike_23 : decode cX4_isAlike 23 = .ok (.getfield 81, 3) := by decide +kernel
theorem dX4_isAlike_26 : decode cX4_isAlike 26 = .ok (.iload_n 1, 1) := by decide +kernel
theorem dX4_isAlike_27 : decode cX4_isAlike 27 = .ok (.invokestatic 61, 3) := by decide +kernel
theorem dX4_isAlike_30 : decode cX4_isAlike 30 = .ok (.aload_n 0, 1) := by decide +kernel
theorem dX4_isAlike_31 : decode cX4_isAlike 31 = .ok (.getfield 30, 3) := by decide +kernel
theorem dX4_isAlike_34 : decode cX4_isAlike 34 = .ok (.getfield 81, 3) := by decide +kernel
theorem dX4_isAlike_37 : decode cX4_isAlike 37 = .ok (.iload_n 2, 1) := by decide +kernel
theorem dX4_isAlike_38 : decode cX4_isAlike 38 = .ok (.invokestatic 61, 3) := by decide +kernel
theorem dX4_isAlike_41 : decode cX4_isAlike 41 = .ok (.if_icmp .ne 7, 3) := by decide +kernel
theorem dX4_isAlike_44 : decode cX4_isAlike 44 = .ok (.iconst 1, 1) := by decide +kernel
theorem dX4_isAlike_45 : decode cX4_isAlike 45 = .ok (.goto 4, 3) := by decide +kernel
theorem dX4_isAlike_48 : decode cX4_isAlike 48 = .ok (.iconst 0, 1) := by decide +kernel
theorem dX4_isAlike_49 : decode cX4_isAlike 49 = .ok (.ireturn, 1) := by decide +kernel
theorem dX5_init_0 : decode cX5_init 0 = .ok (.aload_n 0, 1) := by decide +kernel
theorem dX5_init_1 : decode cX5_init 1 = .ok (.invokespecial 3, 3) := by decide +kernel
theorem dX5_init_4 : decode cX5_init 4 = .ok (.aload_n 0, 1) := by decide +kernel
theorem dX5_init_5 : decode cX5_init 5 = .ok (.bipush 10, 2) := by decide +kernel
theorem dX5_init_7 : decode cX5_init 7 = .ok (.newarray .int, 2) := by decide +kernel
theorem dX5_init_9 : decode cX5_init 9 = .ok (.putfield 9, 3) := by decide +kernel
theorem dX5_init_12 : decode cX5_init 12 = .ok (.aload_n 0, 1) := by decide +kernel
theorem dX5_init_13 : decode cX5_init 13 = .ok (.bipush 40, 2) := by decide +kernel
theorem dX5_init_15 : decode cX5_init 15 = .ok (.putfield 15, 3) := by decide +kernel
theorem dX5_init_18 : decode cX5_init 18 = .ok (.return_, 1) := by decide +kernel
theorem dX5_become_0 : decode cX5_become 0 = .ok (.aload_n 1, 1) := by decide +kernel
theorem dX5_become_1 : decode cX5_become 1 = .ok (.getfield 9, 3) := by decide +kernel
theorem dX5_become_4 : decode cX5_become 4 = .ok (.aload_n 0, 1) := by decide +kernel
theorem dX5_become_5 : decode cX5_become 5 = .ok (.getfield 9, 3) := by decide +kernel
theorem dX5_become_8 : decode cX5_become 8 = .ok (.invokestatic 19, 3) := by decide +kernel
theorem dX5_become_11 : decode cX5_become 11 = .ok (.aload_n 0, 1) := by decide +kernel
theorem dX5_become_12 : decode cX5_become 12 = .ok (.aload_n 1, 1) := by decide +kernel
theorem dX5_become_13 : decode cX5_become 13 = .ok (.getfield 23, 3) := by decide +kernel
theorem dX5_become_16 : decode cX5_become 16 = .ok (.putfield 23, 3) := by decide +kernel
theorem dX5_become_19 : decode cX5_become 19 = .ok (.aload_n 0, 1) := by decide +kernel
theorem dX5_become_20 : decode cX5_become 20 = .ok (.aload_n 1, 1) := by decide +kernel
theorem dX5_become_21 : decode cX5_become 21 = .ok (.getfield 26, 3) := by decide +kernel
theorem dX5_become_24 : decode cX5_become 24 = .ok (.putfield 26, 3) := by decide +kernel
theorem dX5_become_27 : decode cX5_become 27 = .ok (.aload_n 0, 1) := by decide +kernel
theorem dX5_become_28 : decode cX5_become 28 = .ok (.aload_n 1, 1) := by decide +kernel
theorem dX5_become_29 : decode cX5_become 29 = .ok (.getfield 15, 3) := by decide +kernel
theorem dX5_become_32 : decode cX5_become 32 = .ok (.putfield 15, 3) := by decide +kernel
theorem dX5_become_35 : decode cX5_become 35 = .ok (.aload_n 0, 1) := by decide +kernel
theorem dX5_become_36 : decode cX5_become 36 = .ok (.aload_n 1, 1) := by decide +kernel
theorem dX5_become_37 : decode cX5_become 37 = .ok (.getfield 29, 3) := by decide +kernel
theorem dX5_become_40 : decode cX5_become 40 = .ok (.putfield 29, 3) := by decide +kernel
theorem dX5_become_43 : decode cX5_become 43 = .ok (.aload_n 0, 1) := by decide +kernel
theorem dX5_become_44 : decode cX5_become 44 = .ok (.aload_n 1, 1) := by decide +kernel
theorem dX5_become_45 : decode cX5_become 45 = .ok (.getfield 32, 3) := by decide +kernel
theorem dX5_become_48 : decode cX5_become 48 = .ok (.putfield 32, 3) := by decide +kernel
theorem dX5_become_51 : decode cX5_become 51 = .ok (.aload_n 0, 1) := by decide +kernel
theorem dX5_become_52 : decode cX5_become 52 = .ok (.aload_n 1, 1) := by decide +kernel
theorem dX5_become_53 : decode cX5_become 53 = .ok (.getfield 35, 3) := by decide +kernel
theorem dX5_become_56 : decode cX5_become 56 = .ok (.putfield 35, 3) := by decide +kernel
theorem dX5_become_59 : decode cX5_become 59 = .ok (.return_, 1) := by decide +kernel
theorem dX5_forget_0 : decode cX5_forget 0 = .ok (.aload_n 0, 1) := by decide +kernel
theorem dX5_forget_1 : decode cX5_forget 1 = .ok (.iconst 0, 1) := by decide +kernel
theorem dX5_forget_2 : decode cX5_forget 2 = .ok (.putfield 29, 3) := by decide +kernel
theorem dX5_forget_5 : decode cX5_forget 5 = .ok (.aload_n 0, 1) := by decide +kernel
theorem dX5_forget_6 : decode cX5_forget 6 = .ok (.iconst 0, 1) := by decide +kernel
theorem dX5_forget_7 : decode cX5_forget 7 = .ok (.putfield 32, 3) := by decide +kernel
theorem dX5_forget_10 : decode cX5_forget 10 = .ok (.aload_n 0, 1) := by decide +kernel
theorem dX5_forget_11 : decode cX5_forget 11 = .ok (.iconst 0, 1) := by decide +kernel
theorem dX5_forget_12 : decode cX5_forget 12 = .ok (.putfield 35, 3) := by decide +kernel
theorem dX5_forget_15 : decode cX5_forget 15 = .ok (.return_, 1) := by decide +kernel
theorem dX5_allHeat_0 : decode cX5_allHeat 0 = .ok (.aload_n 0, 1) := by decide +kernel
theorem dX5_allHeat_1 : decode cX5_allHeat 1 = .ok (.getfield 9, 3) := by decide +kernel
theorem dX5_allHeat_4 : decode cX5_allHeat 4 = .ok (.iload_n 1, 1) := by decide +kernel
theorem dX5_allHeat_5 : decode cX5_allHeat 5 = .ok (.invokestatic 38, 3) := by decide +kernel
theorem dX5_allHeat_8 : decode cX5_allHeat 8 = .ok (.ireturn, 1) := by decide +kernel
theorem dX6_init_0 : decode cX6_init 0 = .ok (.aload_n 0, 1) := by decide +kernel
theorem dX6_init_1 : decode cX6_init 1 = .ok (.invokespecial 1, 3) := by decide +kernel
theorem dX6_init_4 : decode cX6_init 4 = .ok (.aload_n 0, 1) := by decide +kernel
theorem dX6_init_5 : decode cX6_init 5 = .ok (.new 7, 3) := by decide +kernel
theorem dX6_init_8 : decode cX6_init 8 = .ok (.dup, 1) := by decide +kernel
theorem dX6_init_9 : decode cX6_init 9 = .ok (.invokespecial 9, 3) := by decide +kernel
theorem dX6_init_12 : decode cX6_init 12 = .ok (.putfield 10, 3) := by decide +kernel
theorem dX6_init_15 : decode cX6_init 15 = .ok (.aload_n 0, 1) := by decide +kernel
theorem dX6_init_16 : decode cX6_init 16 = .ok (.new 16, 3) := by decide +kernel
theorem dX6_init_19 : decode cX6_init 19 = .ok (.dup, 1) := by decide +kernel
theorem dX6_init_20 : decode cX6_init 20 = .ok (.invokespecial 18, 3) := by decide +kernel
theorem dX6_init_23 : decode cX6_init 23 = .ok (.putfield 19, 3) := by decide +kernel
theorem dX6_init_26 : decode cX6_init 26 = .ok (.aload_n 0, 1) := by decide +kernel
theorem dX6_init_27 : decode cX6_init 27 = .ok (.new 23, 3) := by decide +kernel
theorem dX6_init_30 : decode cX6_init 30 = .ok (.dup, 1) := by decide +kernel
theorem dX6_init_31 : decode cX6_init 31 = .ok (.invokespecial 25, 3) := by decide +kernel
theorem dX6_init_34 : decode cX6_init 34 = .ok (.putfield 26, 3) := by decide +kernel
theorem dX6_init_37 : decode cX6_init 37 = .ok (.aload_n 0, 1) := by decide +kernel
theorem dX6_init_38 : decode cX6_init 38 = .ok (.new 30, 3) := by decide +kernel
theorem dX6_init_41 : decode cX6_init 41 = .ok (.dup, 1) := by decide +kernel
theorem dX6_init_42 : decode cX6_init 42 = .ok (.invokespecial 32, 3) := by decide +kernel
theorem dX6_init_45 : decode cX6_init 45 = .ok (.putfield 33, 3) := by decide +kernel
theorem dX6_init_48 : decode cX6_init 48 = .ok (.aload_n 0, 1) := by decide +kernel
theorem dX6_init_49 : decode cX6_init 49 = .ok (.iconst 3, 1) := by decide +kernel
theorem dX6_init_50 : decode cX6_init 50 = .ok (.anewarray 37, 3) := by decide +kernel
theorem dX6_init_53 : decode cX6_init 53 = .ok (.putfield 39, 3) := by decide +kernel
theorem dX6_init_56 : decode cX6_init 56 = .ok (.iconst 0, 1) := by decide +kernel
theorem dX6_init_57 : decode cX6_init 57 = .ok (.istore_n 1, 1) := by decide +kernel
theorem dX6_init_58 : decode cX6_init 58 = .ok (.iload_n 1, 1) := by decide +kernel
theorem dX6_init_59 : decode cX6_init 59 = .ok (.aload_n 0, 1) := by decide +kernel
theorem dX6_init_60 : decode cX6_init 60 = .ok (.getfield 39, 3) := by decide +kernel
theorem dX6_init_63 : decode cX6_init 63 = .ok (.arraylength, 1) := by decide +kernel
theorem dX6_init_64 : decode cX6_init 64 = .ok (.if_icmp .ge 22, 3) := by decide +kernel
theorem dX6_init_67 : decode cX6_init 67 = .ok (.aload_n 0, 1) := by decide +kernel
theorem dX6_init_68 : decode cX6_init 68 = .ok (.getfield 39, 3) := by decide +kernel
theorem dX6_init_71 : decode cX6_init 71 = .ok (.iload_n 1, 1) := by decide +kernel
theorem dX6_init_72 : decode cX6_init 72 = .ok (.new 37, 3) := by decide +kernel
theorem dX6_init_75 : decode cX6_init 75 = .ok (.dup, 1) := by decide +kernel
theorem dX6_init_76 : decode cX6_init 76 = .ok (.invokespecial 43, 3) := by decide +kernel
theorem dX6_init_79 : decode cX6_init 79 = .ok (.aastore, 1) := by decide +kernel
theorem dX6_init_80 : decode cX6_init 80 = .ok (.iinc 1 1, 3) := by decide +kernel
theorem dX6_init_83 : decode cX6_init 83 = .ok (.goto (-25), 3) := by decide +kernel
theorem dX6_init_86 : decode cX6_init 86 = .ok (.return_, 1) := by decide +kernel
theorem dX6_write_0 : decode cX6_write 0 = .ok (.iload_n 1, 1) := by decide +kernel
theorem dX6_write_1 : decode cX6_write 1 = .ok (.ifCond .lt 10, 3) := by decide +kernel
theorem dX6_write_4 : decode cX6_write 4 = .ok (.iload_n 1, 1) := by decide +kernel
theorem dX6_write_5 : decode cX6_write 5 = .ok (.sipush 255, 3) := by decide +kernel
theorem dX6_write_8 : decode cX6_write 8 = .ok (.if_icmp .le 6, 3) := by decide +kernel
theorem dX6_write_11 : decode cX6_write 11 = .ok (.ldc 44, 2) := by decide +kernel
theorem dX6_write_13 : decode cX6_write 13 = .ok (.ireturn, 1) := by decide +kernel
theorem dX6_write_14 : decode cX6_write 14 = .ok (.aload_n 0, 1) := by decide +kernel
theorem dX6_write_15 : decode cX6_write 15 = .ok (.getfield 10, 3) := by decide +kernel
theorem dX6_write_18 : decode cX6_write 18 = .ok (.getfield 45, 3) := by decide +kernel
theorem dX6_write_21 : decode cX6_write 21 = .ok (.getfield 49, 3) := by decide +kernel
theorem dX6_write_24 : decode cX6_write 24 = .ok (.sipush 200, 3) := by decide +kernel
theorem dX6_write_27 : decode cX6_write 27 = .ok (.if_icmp .lt 6, 3) := by decide +kernel
theorem dX6_write_30 : decode cX6_write 30 = .ok (.ldc 55, 2) := by decide +kernel
theorem dX6_write_32 : decode cX6_write 32 = .ok (.ireturn, 1) := by decide +kernel
theorem dX6_write_33 : decode cX6_write 33 = .ok (.aload_n 0, 1) := by decide +kernel
theorem dX6_write_34 : decode cX6_write 34 = .ok (.getfield 10, 3) := by decide +kernel
theorem dX6_write_37 : decode cX6_write 37 = .ok (.getfield 45, 3) := by decide +kernel
theorem dX6_write_40 : decode cX6_write 40 = .ok (.iload_n 1, 1) := by decide +kernel
theorem dX6_write_41 : decode cX6_write 41 = .ok (.invokevirtual 56, 3) := by decide +kernel
theorem dX6_write_44 : decode cX6_write 44 = .ok (.aload_n 0, 1) := by decide +kernel
theorem dX6_write_45 : decode cX6_write 45 = .ok (.getfield 10, 3) := by decide +kernel
theorem dX6_write_48 : decode cX6_write 48 = .ok (.getfield 45, 3) := by decide +kernel
theorem dX6_write_51 : decode cX6_write 51 = .ok (.getfield 49, 3) := by decide +kernel
theorem dX6_write_54 : decode cX6_write 54 = .ok (.ireturn, 1) := by decide +kernel
theorem dX6_erase_0 : decode cX6_erase 0 = .ok (.aload_n 0, 1) := by decide +kernel
theorem dX6_erase_1 : decode cX6_erase 1 = .ok (.getfield 10, 3) := by decide +kernel
theorem dX6_erase_4 : decode cX6_erase 4 = .ok (.getfield 45, 3) := by decide +kernel
theorem dX6_erase_7 : decode cX6_erase 7 = .ok (.getfield 49, 3) := by decide +kernel
theorem dX6_erase_10 : decode cX6_erase 10 = .ok (.istore_n 1, 1) := by decide +kernel
theorem dX6_erase_11 : decode cX6_erase 11 = .ok (.aload_n 0, 1) := by decide +kernel
theorem dX6_erase_12 : decode cX6_erase 12 = .ok (.getfield 10, 3) := by decide +kernel
theorem dX6_erase_15 : decode cX6_erase 15 = .ok (.getfield 45, 3) := by decide +kernel
theorem dX6_erase_18 : decode cX6_erase 18 = .ok (.iconst 0, 1) := by decide +kernel
theorem dX6_erase_19 : decode cX6_erase 19 = .ok (.putfield 49, 3) := by decide +kernel
theorem dX6_erase_22 : decode cX6_erase 22 = .ok (.iload_n 1, 1) := by decide +kernel
theorem dX6_erase_23 : decode cX6_erase 23 = .ok (.ireturn, 1) := by decide +kernel
theorem dX6_fault_0 : decode cX6_fault 0 = .ok (.aload_n 0, 1) := by decide +kernel
theorem dX6_fault_1 : decode cX6_fault 1 = .ok (.getfield 10, 3) := by decide +kernel
theorem dX6_fault_4 : decode cX6_fault 4 = .ok (.aload_n 0, 1) := by decide +kernel
theorem dX6_fault_5 : decode cX6_fault 5 = .ok (.getfield 19, 3) := by decide +kernel
theorem dX6_fault_8 : decode cX6_fault 8 = .ok (.invokevirtual 60, 3) := by decide +kernel
theorem dX6_fault_11 : decode cX6_fault 11 = .ok (.ireturn, 1) := by decide +kernel
theorem dX6_wall_0 : decode cX6_wall 0 = .ok (.aload_n 0, 1) := by decide +kernel
theorem dX6_wall_1 : decode cX6_wall 1 = .ok (.getfield 10, 3) := by decide +kernel
theorem dX6_wall_4 : decode cX6_wall 4 = .ok (.aload_n 0, 1) := by decide +kernel
theorem dX6_wall_5 : decode cX6_wall 5 = .ok (.getfield 19, 3) := by decide +kernel
theorem dX6_wall_8 : decode cX6_wall 8 = .ok (.invokevirtual 60, 3) := by decide +kernel
theorem dX6_wall_11 : decode cX6_wall 11 = .ok (.iconst (-1), 1) := by decide +kernel
theorem dX6_wall_12 : decode cX6_wall 12 = .ok (.if_icmp .eq 6, 3) := by decide +kernel
theorem dX6_wall_15 : decode cX6_wall 15 = .ok (.ldc 64, 2) := by decide +kernel
theorem dX6_wall_17 : decode cX6_wall 17 = .ok (.ireturn, 1) := by decide +kernel
theorem dX6_wall_18 : decode cX6_wall 18 = .ok (.aload_n 0, 1) := by decide +kernel
theorem dX6_wall_19 : decode cX6_wall 19 = .ok (.getfield 19, 3) := by decide +kernel
theorem dX6_wall_22 : decode cX6_wall 22 = .ok (.aload_n 0, 1) := by decide +kernel
theorem dX6_wall_23 : decode cX6_wall 23 = .ok (.getfield 10, 3) := by decide +kernel
theorem dX6_wall_26 : decode cX6_wall 26 = .ok (.getfield 65, 3) := by decide +kernel
theorem dX6_wall_29 : decode cX6_wall 29 = .ok (.invokevirtual 68, 3) := by decide +kernel
theorem dX6_wall_32 : decode cX6_wall 32 = .ok (.aload_n 0, 1) := by decide +kernel
theorem dX6_wall_33 : decode cX6_wall 33 = .ok (.getfield 19, 3) := by decide +kernel
theorem dX6_wall_36 : decode cX6_wall 36 = .ok (.getfield 72, 3) := by decide +kernel
theorem dX6_wall_39 : decode cX6_wall 39 = .ok (.invokevirtual 75, 3) := by decide +kernel
theorem dX6_wall_42 : decode cX6_wall 42 = .ok (.aload_n 0, 1) := by decide +kernel
theorem dX6_wall_43 : decode cX6_wall 43 = .ok (.getfield 33, 3) := by decide +kernel
theorem dX6_wall_46 : decode cX6_wall 46 = .ok (.invokevirtual 78, 3) := by decide +kernel
theorem dX6_wall_49 : decode cX6_wall 49 = .ok (.iconst 0, 1) := by decide +kernel
theorem dX6_wall_50 : decode cX6_wall 50 = .ok (.istore_n 1, 1) := by decide +kernel
theorem dX6_wall_51 : decode cX6_wall 51 = .ok (.iload_n 1, 1) := by decide +kernel
theorem dX6_wall_52 : decode cX6_wall 52 = .ok (.iconst 3, 1) := by decide +kernel
theorem dX6_wall_53 : decode cX6_wall 53 = .ok (.if_icmp .ge 14, 3) := by decide +kernel
theorem dX6_wall_56 : decode cX6_wall 56 = .ok (.aload_n 0, 1) := by decide +kernel
theorem dX6_wall_57 : decode cX6_wall 57 = .ok (.iload_n 1, 1) := by decide +kernel
theorem dX6_wall_58 : decode cX6_wall 58 = .ok (.invokevirtual 79, 3) := by decide +kernel
theorem dX6_wall_61 : decode cX6_wall 61 = .ok (.iinc 1 1, 3) := by decide +kernel
theorem dX6_wall_64 : decode cX6_wall 64 = .ok (.goto (-13), 3) := by decide +kernel
theorem dX6_wall_67 : decode cX6_wall 67 = .ok (.aload_n 0, 1) := by decide +kernel
theorem dX6_wall_68 : decode cX6_wall 68 = .ok (.getfield 10, 3) := by decide +kernel
theorem dX6_wall_71 : decode cX6_wall 71 = .ok (.getfield 45, 3) := by decide +kernel
theorem dX6_wall_74 : decode cX6_wall 74 = .ok (.iconst 0, 1) := by decide +kernel
theorem dX6_wall_75 : decode cX6_wall 75 = .ok (.putfield 49, 3) := by decide +kernel
theorem dX6_wall_78 : decode cX6_wall 78 = .ok (.aload_n 0, 1) := by decide +kernel
theorem dX6_wall_79 : decode cX6_wall 79 = .ok (.getfield 10, 3) := by decide +kernel
theorem dX6_wall_82 : decode cX6_wall 82 = .ok (.getfield 82, 3) := by decide +kernel
theorem dX6_wall_85 : decode cX6_wall 85 = .ok (.ireturn, 1) := by decide +kernel
theorem dX6_find_0 : decode cX6_find 0 = .ok (.aload_n 0, 1) := by decide +kernel
theorem dX6_find_1 : decode cX6_find 1 = .ok (.getfield 19, 3) := by decide +kernel
theorem dX6_find_4 : decode cX6_find 4 = .ok (.aload_n 0, 1) := by decide +kernel
theorem dX6_find_5 : decode cX6_find 5 = .ok (.getfield 10, 3) := by decide +kernel
theorem dX6_find_8 : decode cX6_find 8 = .ok (.getfield 45, 3) := by decide +kernel
theorem dX6_find_11 : decode cX6_find 11 = .ok (.iconst 0, 1) := by decide +kernel
theorem dX6_find_12 : decode cX6_find 12 = .ok (.aload_n 0, 1) := by decide +kernel
theorem dX6_find_13 : decode cX6_find 13 = .ok (.getfield 10, 3) := by decide +kernel
theorem dX6_find_16 : decode cX6_find 16 = .ok (.getfield 45, 3) := by decide +kernel
theorem dX6_find_19 : decode cX6_find 19 = .ok (.getfield 49, 3) := by decide +kernel
theorem dX6_find_22 : decode cX6_find 22 = .ok (.invokevirtual 85, 3) := by decide +kernel
theorem dX6_find_25 : decode cX6_find 25 = .ok (.ireturn, 1) := by decide +kernel
theorem dX6_stuff_0 : decode cX6_stuff 0 = .ok (.aload_n 0, 1) := by decide +kernel
theorem dX6_stuff_1 : decode cX6_stuff 1 = .ok (.getfield 19, 3) := by decide +kernel
theorem dX6_stuff_4 : decode cX6_stuff 4 = .ok (.iload_n 1, 1) := by decide +kernel
theorem dX6_stuff_5 : decode cX6_stuff 5 = .ok (.invokevirtual 89, 3) := by decide +kernel
theorem dX6_stuff_8 : decode cX6_stuff 8 = .ok (.ifCond .ne 6, 3) := by decide +kernel
theorem dX6_stuff_11 : decode cX6_stuff 11 = .ok (.ldc 93, 2) := by decide +kernel
theorem dX6_stuff_13 : decode cX6_stuff 13 = .ok (.ireturn, 1) := by decide +kernel
theorem dX6_stuff_14 : decode cX6_stuff 14 = .ok (.iload_n 2, 1) := by decide +kernel
theorem dX6_stuff_15 : decode cX6_stuff 15 = .ok (.tableswitch 74 0 3 #[29, 41, 53, 65], 29) := by decide +kernel
theorem dX6_stuff_44 : decode cX6_stuff 44 = .ok (.aload_n 0, 1) := by decide +kernel
theorem dX6_stuff_45 : decode cX6_stuff 45 = .ok (.getfield 19, 3) := by decide +kernel
theorem dX6_stuff_48 : decode cX6_stuff 48 = .ok (.getfield 94, 3) := by decide +kernel
theorem dX6_stuff_51 : decode cX6_stuff 51 = .ok (.iload_n 1, 1) := by decide +kernel
theorem dX6_stuff_52 : decode cX6_stuff 52 = .ok (.invokestatic 98, 3) := by decide +kernel
theorem dX6_stuff_55 : decode cX6_stuff 55 = .ok (.ireturn, 1) := by decide +kernel
theorem dX6_stuff_56 : decode cX6_stuff 56 = .ok (.aload_n 0, 1) := by decide +kernel
theorem dX6_stuff_57 : decode cX6_stuff 57 = .ok (.getfield 19, 3) := by decide +kernel
theorem dX6_stuff_60 : decode cX6_stuff 60 = .ok (.getfield 102, 3) := by decide +kernel
theorem dX6_stuff_63 : decode cX6_stuff 63 = .ok (.iload_n 1, 1) := by decide +kernel
theorem dX6_stuff_64 : decode cX6_stuff 64 = .ok (.invokestatic 98, 3) := by decide +kernel
theorem dX6_stuff_67 : decode cX6_stuff 67 = .ok (.ireturn, 1) := by decide +kernel
theorem dX6_stuff_68 : decode cX6_stuff 68 = .ok (.aload_n 0, 1) := by decide +kernel
theorem dX6_stuff_69 : decode cX6_stuff 69 = .ok (.getfield 19, 3) := by decide +kernel
theorem dX6_stuff_72 : decode cX6_stuff 72 = .ok (.getfield 105, 3) := by decide +kernel
theorem dX6_stuff_75 : decode cX6_stuff 75 = .ok (.iload_n 1, 1) := by decide +kernel
theorem dX6_stuff_76 : decode cX6_stuff 76 = .ok (.invokestatic 98, 3) := by decide +kernel
theorem dX6_stuff_79 : decode cX6_stuff 79 = .ok (.ireturn, 1) := by decide +kernel
theorem dX6_stuff_80 : decode cX6_stuff 80 = .ok (.aload_n 0, 1) := by decide +kernel
theorem dX6_stuff_81 : decode cX6_stuff 81 = .ok (.getfield 19, 3) := by decide +kernel
theorem dX6_stuff_84 : decode cX6_stuff 84 = .ok (.iload_n 1, 1) := by decide +kernel
theorem dX6_stuff_85 : decode cX6_stuff 85 = .ok (.invokevirtual 108, 3) := by decide +kernel
theorem dX6_stuff_88 : decode cX6_stuff 88 = .ok (.ireturn, 1) := by decide +kernel
theorem dX6_stuff_89 : decode cX6_stuff 89 = .ok (.ldc 44, 2) := by decide +kernel
theorem dX6_stuff_91 : decode cX6_stuff 91 = .ok (.ireturn, 1) := by decide +kernel
theorem dX6_cell_0 : decode cX6_cell 0 = .ok (.aload_n 0, 1) := by decide +kernel
theorem dX6_cell_1 : decode cX6_cell 1 = .ok (.getfield 19, 3) := by decide +kernel
theorem dX6_cell_4 : decode cX6_cell 4 = .ok (.iload_n 1, 1) := by decide +kernel
theorem dX6_cell_5 : decode cX6_cell 5 = .ok (.invokevirtual 112, 3) := by decide +kernel
theorem dX6_cell_8 : decode cX6_cell 8 = .ok (.ifCond .ne 6, 3) := by decide +kernel
theorem dX6_cell_11 : decode cX6_cell 11 = .ok (.ldc 93, 2) := by decide +kernel
theorem dX6_cell_13 : decode cX6_cell 13 = .ok (.ireturn, 1) := by decide +kernel
theorem dX6_cell_14 : decode cX6_cell 14 = .ok (.aload_n 0, 1) := by decide +kernel
theorem dX6_cell_15 : decode cX6_cell 15 = .ok (.getfield 19, 3) := by decide +kernel
theorem dX6_cell_18 : decode cX6_cell 18 = .ok (.getfield 72, 3) := by decide +kernel
theorem dX6_cell_21 : decode cX6_cell 21 = .ok (.getfield 115, 3) := by decide +kernel
theorem dX6_cell_24 : decode cX6_cell 24 = .ok (.iload_n 1, 1) := by decide +kernel
theorem dX6_cell_25 : decode cX6_cell 25 = .ok (.invokestatic 98, 3) := by decide +kernel
theorem dX6_cell_28 : decode cX6_cell 28 = .ok (.istore_n 3, 1) := by decide +kernel
theorem dX6_cell_29 : decode cX6_cell 29 = .ok (.iload_n 2, 1) := by decide +kernel
theorem dX6_cell_30 : decode cX6_cell 30 = .ok (.tableswitch 78 0 3 #[30, 42, 44, 61], 30) := by decide +kernel
theorem dX6_cell_60 : decode cX6_cell 60 = .ok (.aload_n 0, 1) := by decide +kernel
theorem dX6_cell_61 : decode cX6_cell 61 = .ok (.getfield 19, 3) := by decide +kernel
theorem dX6_cell_64 : decode cX6_cell 64 = .ok (.getfield 118, 3) := by decide +kernel
theorem dX6_cell_67 : decode cX6_cell 67 = .ok (.iload_n 1, 1) := by decide +kernel
theorem dX6_cell_68 : decode cX6_cell 68 = .ok (.invokestatic 98, 3) := by decide +kernel
theorem dX6_cell_71 : decode cX6_cell 71 = .ok (.ireturn, 1) := by decide +kernel
theorem dX6_cell_72 : decode cX6_cell 72 = .ok (.iload_n 3, 1) := by decide +kernel
theorem dX6_cell_73 : decode cX6_cell 73 = .ok (.ireturn, 1) := by decide +kernel
theorem dX6_cell_74 : decode cX6_cell 74 = .ok (.iload_n 3, 1) := by decide +kernel
theorem dX6_cell_75 : decode cX6_cell 75 = .ok (.i2l, 1) := by decide +kernel
theorem dX6_cell_76 : decode cX6_cell 76 = .ok (.aload_n 0, 1) := by decide +kernel
theorem dX6_cell_77 : decode cX6_cell 77 = .ok (.getfield 19, 3) := by decide +kernel
theorem dX6_cell_80 : decode cX6_cell 80 = .ok (.iload_n 1, 1) := by decide +kernel
theorem dX6_cell_81 : decode cX6_cell 81 = .ok (.invokevirtual 121, 3) := by decide +kernel
theorem dX6_cell_84 : decode cX6_cell 84 = .ok (.i2l, 1) := by decide +kernel
theorem dX6_cell_85 : decode cX6_cell 85 = .ok (.iconst 0, 1) := by decide +kernel
theorem dX6_cell_86 : decode cX6_cell 86 = .ok (.invokestatic 124, 3) := by decide +kernel
theorem dX6_cell_89 : decode cX6_cell 89 = .ok (.l2i, 1) := by decide +kernel
theorem dX6_cell_90 : decode cX6_cell 90 = .ok (.ireturn, 1) := by decide +kernel
theorem dX6_cell_91 : decode cX6_cell 91 = .ok (.iload_n 3, 1) := by decide +kernel
theorem dX6_cell_92 : decode cX6_cell 92 = .ok (.i2l, 1) := by decide +kernel
theorem dX6_cell_93 : decode cX6_cell 93 = .ok (.aload_n 0, 1) := by decide +kernel
theorem dX6_cell_94 : decode cX6_cell 94 = .ok (.getfield 19, 3) := by decide +kernel
theorem dX6_cell_97 : decode cX6_cell 97 = .ok (.iload_n 1, 1) := by decide +kernel
theorem dX6_cell_98 : decode cX6_cell 98 = .ok (.invokevirtual 121, 3) := by decide +kernel
theorem dX6_cell_101 : decode cX6_cell 101 = .ok (.i2l, 1) := by decide +kernel
theorem dX6_cell_102 : decode cX6_cell 102 = .ok (.iconst 1, 1) := by decide +kernel
theorem dX6_cell_103 : decode cX6_cell 103 = .ok (.invokestatic 124, 3) := by decide +kernel
theorem dX6_cell_106 : decode cX6_cell 106 = .ok (.l2i, 1) := by decide +kernel
theorem dX6_cell_107 : decode cX6_cell 107 = .ok (.ireturn, 1) := by decide +kernel
theorem dX6_cell_108 : decode cX6_cell 108 = .ok (.ldc 44, 2) := by decide +kernel
theorem dX6_cell_110 : decode cX6_cell 110 = .ok (.ireturn, 1) := by decide +kernel
theorem dX6_rest_0 : decode cX6_rest 0 = .ok (.aload_n 0, 1) := by decide +kernel
theorem dX6_rest_1 : decode cX6_rest 1 = .ok (.getfield 19, 3) := by decide +kernel
theorem dX6_rest_4 : decode cX6_rest 4 = .ok (.iload_n 1, 1) := by decide +kernel
theorem dX6_rest_5 : decode cX6_rest 5 = .ok (.invokevirtual 112, 3) := by decide +kernel
theorem dX6_rest_8 : decode cX6_rest 8 = .ok (.ifCond .ne 7, 3) := by decide +kernel
theorem dX6_rest_11 : decode cX6_rest 11 = .ok (.ldc2_w 128, 3) := by decide +kernel
theorem dX6_rest_14 : decode cX6_rest 14 = .ok (.lreturn, 1) := by decide +kernel
theorem dX6_rest_15 : decode cX6_rest 15 = .ok (.iload_n 2, 1) := by decide +kernel
theorem dX6_rest_16 : decode cX6_rest 16 = .ok (.invokestatic 130, 3) := by decide +kernel
theorem dX6_rest_19 : decode cX6_rest 19 = .ok (.ifCond .ne 7, 3) := by decide +kernel
theorem dX6_rest_22 : decode cX6_rest 22 = .ok (.ldc2_w 133, 3) := by decide +kernel
theorem dX6_rest_25 : decode cX6_rest 25 = .ok (.lreturn, 1) := by decide +kernel
theorem dX6_rest_26 : decode cX6_rest 26 = .ok (.aload_n 0, 1) := by decide +kernel
theorem dX6_rest_27 : decode cX6_rest 27 = .ok (.getfield 19, 3) := by decide +kernel
theorem dX6_rest_30 : decode cX6_rest 30 = .ok (.iload_n 1, 1) := by decide +kernel
theorem dX6_rest_31 : decode cX6_rest 31 = .ok (.invokevirtual 135, 3) := by decide +kernel
theorem dX6_rest_34 : decode cX6_rest 34 = .ok (.lstore_n 3, 1) := by decide +kernel
theorem dX6_rest_35 : decode cX6_rest 35 = .ok (.aload_n 0, 1) := by decide +kernel
theorem dX6_rest_36 : decode cX6_rest 36 = .ok (.getfield 19, 3) := by decide +kernel
theorem dX6_rest_39 : decode cX6_rest 39 = .ok (.invokevirtual 139, 3) := by decide +kernel
theorem dX6_rest_42 : decode cX6_rest 42 = .ok (.lstore 5, 2) := by decide +kernel
theorem dX6_rest_44 : decode cX6_rest 44 = .ok (.aload_n 0, 1) := by decide +kernel
theorem dX6_rest_45 : decode cX6_rest 45 = .ok (.getfield 19, 3) := by decide +kernel
theorem dX6_rest_48 : decode cX6_rest 48 = .ok (.getfield 72, 3) := by decide +kernel
theorem dX6_rest_51 : decode cX6_rest 51 = .ok (.getfield 143, 3) := by decide +kernel
theorem dX6_rest_54 : decode cX6_rest 54 = .ok (.i2l, 1) := by decide +kernel
theorem dX6_rest_55 : decode cX6_rest 55 = .ok (.lload 5, 2) := by decide +kernel
theorem dX6_rest_57 : decode cX6_rest 57 = .ok (.lload_n 3, 1) := by decide +kernel
theorem dX6_rest_58 : decode cX6_rest 58 = .ok (.lsub, 1) := by decide +kernel
theorem dX6_rest_59 : decode cX6_rest 59 = .ok (.lmul, 1) := by decide +kernel
theorem dX6_rest_60 : decode cX6_rest 60 = .ok (.aload_n 0, 1) := by decide +kernel
theorem dX6_rest_61 : decode cX6_rest 61 = .ok (.getfield 19, 3) := by decide +kernel
theorem dX6_rest_64 : decode cX6_rest 64 = .ok (.getfield 72, 3) := by decide +kernel
theorem dX6_rest_67 : decode cX6_rest 67 = .ok (.getfield 146, 3) := by decide +kernel
theorem dX6_rest_70 : decode cX6_rest 70 = .ok (.i2l, 1) := by decide +kernel
theorem dX6_rest_71 : decode cX6_rest 71 = .ok (.lload_n 3, 1) := by decide +kernel
theorem dX6_rest_72 : decode cX6_rest 72 = .ok (.lmul, 1) := by decide +kernel
theorem dX6_rest_73 : decode cX6_rest 73 = .ok (.ladd, 1) := by decide +kernel
theorem dX6_rest_74 : decode cX6_rest 74 = .ok (.lstore 7, 2) := by decide +kernel
theorem dX6_rest_76 : decode cX6_rest 76 = .ok (.lload 7, 2) := by decide +kernel
theorem dX6_rest_78 : decode cX6_rest 78 = .ok (.lload 5, 2) := by decide +kernel
theorem dX6_rest_80 : decode cX6_rest 80 = .ok (.iload_n 2, 1) := by decide +kernel
theorem dX6_rest_81 : decode cX6_rest 81 = .ok (.invokestatic 124, 3) := by decide +kernel
theorem dX6_rest_84 : decode cX6_rest 84 = .ok (.lreturn, 1) := by decide +kernel
theorem dX6_step_0 : decode cX6_step 0 = .ok (.iload_n 1, 1) := by decide +kernel
theorem dX6_step_1 : decode cX6_step 1 = .ok (.iconst 1, 1) := by decide +kernel
theorem dX6_step_2 : decode cX6_step 2 = .ok (.if_icmp .lt 9, 3) := by decide +kernel
theorem dX6_step_5 : decode cX6_step 5 = .ok (.iload_n 1, 1) := by decide +kernel
theorem dX6_step_6 : decode cX6_step 6 = .ok (.bipush 50, 2) := by decide +kernel
theorem dX6_step_8 : decode cX6_step 8 = .ok (.if_icmp .le 6, 3) := by decide +kernel
theorem dX6_step_11 : decode cX6_step 11 = .ok (.ldc 44, 2) := by decide +kernel
theorem dX6_step_13 : decode cX6_step 13 = .ok (.ireturn, 1) := by decide +kernel
theorem dX6_step_14 : decode cX6_step 14 = .ok (.aload_n 0, 1) := by decide +kernel
theorem dX6_step_15 : decode cX6_step 15 = .ok (.getfield 19, 3) := by decide +kernel
theorem dX6_step_18 : decode cX6_step 18 = .ok (.getfield 149, 3) := by decide +kernel
theorem dX6_step_21 : decode cX6_step 21 = .ok (.ifCond .ne 6, 3) := by decide +kernel
theorem dX6_step_24 : decode cX6_step 24 = .ok (.ldc 64, 2) := by decide +kernel
theorem dX6_step_26 : decode cX6_step 26 = .ok (.ireturn, 1) := by decide +kernel
theorem dX6_step_27 : decode cX6_step 27 = .ok (.aload_n 0, 1) := by decide +kernel
theorem dX6_step_28 : decode cX6_step 28 = .ok (.getfield 33, 3) := by decide +kernel
theorem dX6_step_31 : decode cX6_step 31 = .ok (.aload_n 0, 1) := by decide +kernel
theorem dX6_step_32 : decode cX6_step 32 = .ok (.getfield 19, 3) := by decide +kernel
theorem dX6_step_35 : decode cX6_step 35 = .ok (.getfield 72, 3) := by decide +kernel
theorem dX6_step_38 : decode cX6_step 38 = .ok (.invokevirtual 152, 3) := by decide +kernel
theorem dX6_step_41 : decode cX6_step 41 = .ok (.iconst 0, 1) := by decide +kernel
theorem dX6_step_42 : decode cX6_step 42 = .ok (.istore_n 2, 1) := by decide +kernel
theorem dX6_step_43 : decode cX6_step 43 = .ok (.iload_n 2, 1) := by decide +kernel
theorem dX6_step_44 : decode cX6_step 44 = .ok (.iload_n 1, 1) := by decide +kernel
theorem dX6_step_45 : decode cX6_step 45 = .ok (.if_icmp .ge 26, 3) := by decide +kernel
theorem dX6_step_48 : decode cX6_step 48 = .ok (.aload_n 0, 1) := by decide +kernel
theorem dX6_step_49 : decode cX6_step 49 = .ok (.getfield 19, 3) := by decide +kernel
theorem dX6_step_52 : decode cX6_step 52 = .ok (.aload_n 0, 1) := by decide +kernel
theorem dX6_step_53 : decode cX6_step 53 = .ok (.getfield 19, 3) := by decide +kernel
theorem dX6_step_56 : decode cX6_step 56 = .ok (.getfield 72, 3) := by decide +kernel
theorem dX6_step_59 : decode cX6_step 59 = .ok (.invokevirtual 156, 3) := by decide +kernel
theorem dX6_step_62 : decode cX6_step 62 = .ok (.ifCond .eq 9, 3) := by decide +kernel
theorem dX6_step_65 : decode cX6_step 65 = .ok (.iinc 2 1, 3) := by decide +kernel
theorem dX6_step_68 : decode cX6_step 68 = .ok (.goto (-25), 3) := by decide +kernel
theorem dX6_step_71 : decode cX6_step 71 = .ok (.iload_n 2, 1) := by decide +kernel
theorem dX6_step_72 : decode cX6_step 72 = .ok (.ireturn, 1) := by decide +kernel
theorem dX6_heat_0 : decode cX6_heat 0 = .ok (.aload_n 0, 1) := by decide +kernel
theorem dX6_heat_1 : decode cX6_heat 1 = .ok (.getfield 19, 3) := by decide +kernel
theorem dX6_heat_4 : decode cX6_heat 4 = .ok (.iload_n 1, 1) := by decide +kernel
theorem dX6_heat_5 : decode cX6_heat 5 = .ok (.invokevirtual 112, 3) := by decide +kernel
theorem dX6_heat_8 : decode cX6_heat 8 = .ok (.ifCond .ne 6, 3) := by decide +kernel
theorem dX6_heat_11 : decode cX6_heat 11 = .ok (.ldc 93, 2) := by decide +kernel
theorem dX6_heat_13 : decode cX6_heat 13 = .ok (.ireturn, 1) := by decide +kernel
theorem dX6_heat_14 : decode cX6_heat 14 = .ok (.iload_n 2, 1) := by decide +kernel
theorem dX6_heat_15 : decode cX6_heat 15 = .ok (.sipush (-9999), 3) := by decide +kernel
theorem dX6_heat_18 : decode cX6_heat 18 = .ok (.if_icmp .lt 10, 3) := by decide +kernel
theorem dX6_heat_21 : decode cX6_heat 21 = .ok (.iload_n 2, 1) := by decide +kernel
theorem dX6_heat_22 : decode cX6_heat 22 = .ok (.sipush 9999, 3) := by decide +kernel
theorem dX6_heat_25 : decode cX6_heat 25 = .ok (.if_icmp .le 6, 3) := by decide +kernel
theorem dX6_heat_28 : decode cX6_heat 28 = .ok (.ldc 44, 2) := by decide +kernel
theorem dX6_heat_30 : decode cX6_heat 30 = .ok (.ireturn, 1) := by decide +kernel
theorem dX6_heat_31 : decode cX6_heat 31 = .ok (.aload_n 0, 1) := by decide +kernel
theorem dX6_heat_32 : decode cX6_heat 32 = .ok (.getfield 19, 3) := by decide +kernel
theorem dX6_heat_35 : decode cX6_heat 35 = .ok (.getfield 72, 3) := by decide +kernel
theorem dX6_heat_38 : decode cX6_heat 38 = .ok (.getfield 115, 3) := by decide +kernel
theorem dX6_heat_41 : decode cX6_heat 41 = .ok (.iload_n 1, 1) := by decide +kernel
theorem dX6_heat_42 : decode cX6_heat 42 = .ok (.invokestatic 98, 3) := by decide +kernel
theorem dX6_heat_45 : decode cX6_heat 45 = .ok (.iload_n 2, 1) := by decide +kernel
theorem dX6_heat_46 : decode cX6_heat 46 = .ok (.iadd, 1) := by decide +kernel
theorem dX6_heat_47 : decode cX6_heat 47 = .ok (.istore_n 3, 1) := by decide +kernel
theorem dX6_heat_48 : decode cX6_heat 48 = .ok (.iload_n 3, 1) := by decide +kernel
theorem dX6_heat_49 : decode cX6_heat 49 = .ok (.invokestatic 160, 3) := by decide +kernel
theorem dX6_heat_52 : decode cX6_heat 52 = .ok (.ifCond .ne 6, 3) := by decide +kernel
theorem dX6_heat_55 : decode cX6_heat 55 = .ok (.ldc 64, 2) := by decide +kernel
theorem dX6_heat_57 : decode cX6_heat 57 = .ok (.ireturn, 1) := by decide +kernel
theorem dX6_heat_58 : decode cX6_heat 58 = .ok (.aload_n 0, 1) := by decide +kernel
theorem dX6_heat_59 : decode cX6_heat 59 = .ok (.getfield 33, 3) := by decide +kernel
theorem dX6_heat_62 : decode cX6_heat 62 = .ok (.aload_n 0, 1) := by decide +kernel
theorem dX6_heat_63 : decode cX6_heat 63 = .ok (.getfield 19, 3) := by decide +kernel
theorem dX6_heat_66 : decode cX6_heat 66 = .ok (.getfield 72, 3) := by decide +kernel
theorem dX6_heat_69 : decode cX6_heat 69 = .ok (.invokevirtual 152, 3) := by decide +kernel
theorem dX6_heat_72 : decode cX6_heat 72 = .ok (.aload_n 0, 1) := by decide +kernel
theorem dX6_heat_73 : decode cX6_heat 73 = .ok (.getfield 19, 3) := by decide +kernel
theorem dX6_heat_76 : decode cX6_heat 76 = .ok (.getfield 72, 3) := by decide +kernel
theorem dX6_heat_79 : decode cX6_heat 79 = .ok (.getfield 115, 3) := by decide +kernel
theorem dX6_heat_82 : decode cX6_heat 82 = .ok (.iload_n 1, 1) := by decide +kernel
theorem dX6_heat_83 : decode cX6_heat 83 = .ok (.iload_n 3, 1) := by decide +kernel
theorem dX6_heat_84 : decode cX6_heat 84 = .ok (.invokestatic 163, 3) := by decide +kernel
theorem dX6_heat_87 : decode cX6_heat 87 = .ok (.iload_n 3, 1) := by decide +kernel
theorem dX6_heat_88 : decode cX6_heat 88 = .ok (.ireturn, 1) := by decide +kernel
theorem dX6_air_0 : decode cX6_air 0 = .ok (.iload_n 1, 1) := by decide +kernel
theorem dX6_air_1 : decode cX6_air 1 = .ok (.ifCond .lt 15, 3) := by decide +kernel
theorem dX6_air_4 : decode cX6_air 4 = .ok (.iload_n 1, 1) := by decide +kernel
theorem dX6_air_5 : decode cX6_air 5 = .ok (.iconst 1, 1) := by decide +kernel
theorem dX6_air_6 : decode cX6_air 6 = .ok (.if_icmp .gt 10, 3) := by decide +kernel
theorem dX6_air_9 : decode cX6_air 9 = .ok (.iload_n 2, 1) := by decide +kernel
theorem dX6_air_10 : decode cX6_air 10 = .ok (.invokestatic 167, 3) := by decide +kernel
theorem dX6_air_13 : decode cX6_air 13 = .ok (.ifCond .ne 6, 3) := by decide +kernel
theorem dX6_air_16 : decode cX6_air 16 = .ok (.ldc 44, 2) := by decide +kernel
theorem dX6_air_18 : decode cX6_air 18 = .ok (.ireturn, 1) := by decide +kernel
theorem dX6_air_19 : decode cX6_air 19 = .ok (.aload_n 0, 1) := by decide +kernel
theorem dX6_air_20 : decode cX6_air 20 = .ok (.getfield 33, 3) := by decide +kernel
theorem dX6_air_23 : decode cX6_air 23 = .ok (.aload_n 0, 1) := by decide +kernel
theorem dX6_air_24 : decode cX6_air 24 = .ok (.getfield 19, 3) := by decide +kernel
theorem dX6_air_27 : decode cX6_air 27 = .ok (.getfield 72, 3) := by decide +kernel
theorem dX6_air_30 : decode cX6_air 30 = .ok (.invokevirtual 152, 3) := by decide +kernel
theorem dX6_air_33 : decode cX6_air 33 = .ok (.iload_n 1, 1) := by decide +kernel
theorem dX6_air_34 : decode cX6_air 34 = .ok (.ifCond .ne 16, 3) := by decide +kernel
theorem dX6_air_37 : decode cX6_air 37 = .ok (.aload_n 0, 1) := by decide +kernel
theorem dX6_air_38 : decode cX6_air 38 = .ok (.getfield 19, 3) := by decide +kernel
theorem dX6_air_41 : decode cX6_air 41 = .ok (.getfield 72, 3) := by decide +kernel
theorem dX6_air_44 : decode cX6_air 44 = .ok (.getfield 146, 3) := by decide +kernel
theorem dX6_air_47 : decode cX6_air 47 = .ok (.goto 13, 3) := by decide +kernel
theorem dX6_air_50 : decode cX6_air 50 = .ok (.aload_n 0, 1) := by decide +kernel
theorem dX6_air_51 : decode cX6_air 51 = .ok (.getfield 19, 3) := by decide +kernel
theorem dX6_air_54 : decode cX6_air 54 = .ok (.getfield 72, 3) := by decide +kernel
theorem dX6_air_57 : decode cX6_air 57 = .ok (.getfield 143, 3) := by decide +kernel
theorem dX6_air_60 : decode cX6_air 60 = .ok (.istore_n 3, 1) := by decide +kernel
theorem dX6_air_61 : decode cX6_air 61 = .ok (.iload_n 1, 1) := by decide +kernel
theorem dX6_air_62 : decode cX6_air 62 = .ok (.ifCond .ne 17, 3) := by decide +kernel
theorem dX6_air_65 : decode cX6_air 65 = .ok (.aload_n 0, 1) := by decide +kernel
theorem dX6_air_66 : decode cX6_air 66 = .ok (.getfield 19, 3) := by decide +kernel
theorem dX6_air_69 : decode cX6_air 69 = .ok (.getfield 72, 3) := by decide +kernel
theorem dX6_air_72 : decode cX6_air 72 = .ok (.iload_n 2, 1) := by decide +kernel
theorem dX6_air_73 : decode cX6_air 73 = .ok (.putfield 146, 3) := by decide +kernel
theorem dX6_air_76 : decode cX6_air 76 = .ok (.goto 14, 3) := by decide +kernel
theorem dX6_air_79 : decode cX6_air 79 = .ok (.aload_n 0, 1) := by decide +kernel
theorem dX6_air_80 : decode cX6_air 80 = .ok (.getfield 19, 3) := by decide +kernel
theorem dX6_air_83 : decode cX6_air 83 = .ok (.getfield 72, 3) := by decide +kernel
theorem dX6_air_86 : decode cX6_air 86 = .ok (.iload_n 2, 1) := by decide +kernel
theorem dX6_air_87 : decode cX6_air 87 = .ok (.putfield 143, 3) := by decide +kernel
theorem dX6_air_90 : decode cX6_air 90 = .ok (.iload_n 3, 1) := by decide +kernel
theorem dX6_air_91 : decode cX6_air 91 = .ok (.ireturn, 1) := by decide +kernel
theorem dX6_pace_0 : decode cX6_pace 0 = .ok (.iload_n 1, 1) := by decide +kernel
theorem dX6_pace_1 : decode cX6_pace 1 = .ok (.iconst 1, 1) := by decide +kernel
theorem dX6_pace_2 : decode cX6_pace 2 = .ok (.if_icmp .lt 10, 3) := by decide +kernel
theorem dX6_pace_5 : decode cX6_pace 5 = .ok (.iload_n 1, 1) := by decide +kernel
theorem dX6_pace_6 : decode cX6_pace 6 = .ok (.sipush 999, 3) := by decide +kernel
theorem dX6_pace_9 : decode cX6_pace 9 = .ok (.if_icmp .le 6, 3) := by decide +kernel
theorem dX6_pace_12 : decode cX6_pace 12 = .ok (.ldc 44, 2) := by decide +kernel
theorem dX6_pace_14 : decode cX6_pace 14 = .ok (.ireturn, 1) := by decide +kernel
theorem dX6_pace_15 : decode cX6_pace 15 = .ok (.aload_n 0, 1) := by decide +kernel
theorem dX6_pace_16 : decode cX6_pace 16 = .ok (.getfield 33, 3) := by decide +kernel
theorem dX6_pace_19 : decode cX6_pace 19 = .ok (.aload_n 0, 1) := by decide +kernel
theorem dX6_pace_20 : decode cX6_pace 20 = .ok (.getfield 19, 3) := by decide +kernel
theorem dX6_pace_23 : decode cX6_pace 23 = .ok (.getfield 72, 3) := by decide +kernel
theorem dX6_pace_26 : decode cX6_pace 26 = .ok (.invokevirtual 152, 3) := by decide +kernel
theorem dX6_pace_29 : decode cX6_pace 29 = .ok (.aload_n 0, 1) := by decide +kernel
theorem dX6_pace_30 : decode cX6_pace 30 = .ok (.getfield 19, 3) := by decide +kernel
theorem dX6_pace_33 : decode cX6_pace 33 = .ok (.getfield 72, 3) := by decide +kernel
theorem dX6_pace_36 : decode cX6_pace 36 = .ok (.iload_n 1, 1) := by decide +kernel
theorem dX6_pace_37 : decode cX6_pace 37 = .ok (.putfield 170, 3) := by decide +kernel
theorem dX6_pace_40 : decode cX6_pace 40 = .ok (.aload_n 0, 1) := by decide +kernel
theorem dX6_pace_41 : decode cX6_pace 41 = .ok (.getfield 19, 3) := by decide +kernel
theorem dX6_pace_44 : decode cX6_pace 44 = .ok (.invokevirtual 173, 3) := by decide +kernel
theorem dX6_pace_47 : decode cX6_pace 47 = .ok (.ireturn, 1) := by decide +kernel
theorem dX6_undo_0 : decode cX6_undo 0 = .ok (.aload_n 0, 1) := by decide +kernel
theorem dX6_undo_1 : decode cX6_undo 1 = .ok (.getfield 33, 3) := by decide +kernel
theorem dX6_undo_4 : decode cX6_undo 4 = .ok (.getfield 177, 3) := by decide +kernel
theorem dX6_undo_7 : decode cX6_undo 7 = .ok (.ifCond .ne 6, 3) := by decide +kernel
theorem dX6_undo_10 : decode cX6_undo 10 = .ok (.ldc 64, 2) := by decide +kernel
theorem dX6_undo_12 : decode cX6_undo 12 = .ok (.ireturn, 1) := by decide +kernel
theorem dX6_undo_13 : decode cX6_undo 13 = .ok (.aload_n 0, 1) := by decide +kernel
theorem dX6_undo_14 : decode cX6_undo 14 = .ok (.getfield 33, 3) := by decide +kernel
theorem dX6_undo_17 : decode cX6_undo 17 = .ok (.aload_n 0, 1) := by decide +kernel
theorem dX6_undo_18 : decode cX6_undo 18 = .ok (.getfield 19, 3) := by decide +kernel
theorem dX6_undo_21 : decode cX6_undo 21 = .ok (.getfield 72, 3) := by decide +kernel
theorem dX6_undo_24 : decode cX6_undo 24 = .ok (.invokevirtual 180, 3) := by decide +kernel
theorem dX6_undo_27 : decode cX6_undo 27 = .ok (.aload_n 0, 1) := by decide +kernel
theorem dX6_undo_28 : decode cX6_undo 28 = .ok (.getfield 33, 3) := by decide +kernel
theorem dX6_undo_31 : decode cX6_undo 31 = .ok (.getfield 177, 3) := by decide +kernel
theorem dX6_undo_34 : decode cX6_undo 34 = .ok (.ireturn, 1) := by decide +kernel
theorem dX6_keep_0 : decode cX6_keep 0 = .ok (.iload_n 1, 1) := by decide +kernel
theorem dX6_keep_1 : decode cX6_keep 1 = .ok (.ifCond .lt 8, 3) := by decide +kernel
theorem dX6_keep_4 : decode cX6_keep 4 = .ok (.iload_n 1, 1) := by decide +kernel
theorem dX6_keep_5 : decode cX6_keep 5 = .ok (.iconst 2, 1) := by decide +kernel
theorem dX6_keep_6 : decode cX6_keep 6 = .ok (.if_icmp .lt 6, 3) := by decide +kernel
theorem dX6_keep_9 : decode cX6_keep 9 = .ok (.ldc 93, 2) := by decide +kernel
theorem dX6_keep_11 : decode cX6_keep 11 = .ok (.ireturn, 1) := by decide +kernel
theorem dX6_keep_12 : decode cX6_keep 12 = .ok (.aload_n 0, 1) := by decide +kernel
theorem dX6_keep_13 : decode cX6_keep 13 = .ok (.getfield 33, 3) := by decide +kernel
theorem dX6_keep_16 : decode cX6_keep 16 = .ok (.iload_n 1, 1) := by decide +kernel
theorem dX6_keep_17 : decode cX6_keep 17 = .ok (.aload_n 0, 1) := by decide +kernel
theorem dX6_keep_18 : decode cX6_keep 18 = .ok (.getfield 19, 3) := by decide +kernel
theorem dX6_keep_21 : decode cX6_keep 21 = .ok (.getfield 72, 3) := by decide +kernel
theorem dX6_keep_24 : decode cX6_keep 24 = .ok (.invokevirtual 183, 3) := by decide +kernel
theorem dX6_keep_27 : decode cX6_keep 27 = .ok (.aload_n 0, 1) := by decide +kernel
theorem dX6_keep_28 : decode cX6_keep 28 = .ok (.getfield 19, 3) := by decide +kernel
theorem dX6_keep_31 : decode cX6_keep 31 = .ok (.getfield 72, 3) := by decide +kernel
theorem dX6_keep_34 : decode cX6_keep 34 = .ok (.aload_n 0, 1) := by decide +kernel
theorem dX6_keep_35 : decode cX6_keep 35 = .ok (.getfield 19, 3) := by decide +kernel
theorem dX6_keep_38 : decode cX6_keep 38 = .ok (.getfield 149, 3) := by decide +kernel
theorem dX6_keep_41 : decode cX6_keep 41 = .ok (.invokevirtual 187, 3) := by decide +kernel
theorem dX6_keep_44 : decode cX6_keep 44 = .ok (.ireturn, 1) := by decide +kernel
theorem dX6_back_0 : decode cX6_back 0 = .ok (.iload_n 1, 1) := by decide +kernel
theorem dX6_back_1 : decode cX6_back 1 = .ok (.ifCond .lt 8, 3) := by decide +kernel
theorem dX6_back_4 : decode cX6_back 4 = .ok (.iload_n 1, 1) := by decide +kernel
theorem dX6_back_5 : decode cX6_back 5 = .ok (.iconst 2, 1) := by decide +kernel
theorem dX6_back_6 : decode cX6_back 6 = .ok (.if_icmp .lt 6, 3) := by decide +kernel
theorem dX6_back_9 : decode cX6_back 9 = .ok (.ldc 93, 2) := by decide +kernel
theorem dX6_back_11 : decode cX6_back 11 = .ok (.ireturn, 1) := by decide +kernel
theorem dX6_back_12 : decode cX6_back 12 = .ok (.aload_n 0, 1) := by decide +kernel
theorem dX6_back_13 : decode cX6_back 13 = .ok (.getfield 33, 3) := by decide +kernel
theorem dX6_back_16 : decode cX6_back 16 = .ok (.iload_n 1, 1) := by decide +kernel
theorem dX6_back_17 : decode cX6_back 17 = .ok (.invokevirtual 190, 3) := by decide +kernel
theorem dX6_back_20 : decode cX6_back 20 = .ok (.ifCond .ne 6, 3) := by decide +kernel
theorem dX6_back_23 : decode cX6_back 23 = .ok (.ldc 64, 2) := by decide +kernel
theorem dX6_back_25 : decode cX6_back 25 = .ok (.ireturn, 1) := by decide +kernel
theorem dX6_back_26 : decode cX6_back 26 = .ok (.aload_n 0, 1) := by decide +kernel
theorem dX6_back_27 : decode cX6_back 27 = .ok (.getfield 33, 3) := by decide +kernel
theorem dX6_back_30 : decode cX6_back 30 = .ok (.iload_n 1, 1) := by decide +kernel
theorem dX6_back_31 : decode cX6_back 31 = .ok (.aload_n 0, 1) := by decide +kernel
theorem dX6_back_32 : decode cX6_back 32 = .ok (.getfield 19, 3) := by decide +kernel
theorem dX6_back_35 : decode cX6_back 35 = .ok (.getfield 72, 3) := by decide +kernel
theorem dX6_back_38 : decode cX6_back 38 = .ok (.invokevirtual 193, 3) := by decide +kernel
theorem dX6_back_41 : decode cX6_back 41 = .ok (.aload_n 0, 1) := by decide +kernel
theorem dX6_back_42 : decode cX6_back 42 = .ok (.getfield 19, 3) := by decide +kernel
theorem dX6_back_45 : decode cX6_back 45 = .ok (.getfield 72, 3) := by decide +kernel
theorem dX6_back_48 : decode cX6_back 48 = .ok (.aload_n 0, 1) := by decide +kernel
theorem dX6_back_49 : decode cX6_back 49 = .ok (.getfield 19, 3) := by decide +kernel
theorem dX6_back_52 : decode cX6_back 52 = .ok (.getfield 149, 3) := by decide +kernel
theorem dX6_back_55 : decode cX6_back 55 = .ok (.invokevirtual 187, 3) := by decide +kernel
theorem dX6_back_58 : decode cX6_back 58 = .ok (.ireturn, 1) := by decide +kernel
theorem dX6_flow_0 : decode cX6_flow 0 = .ok (.iload_n 1, 1) := by decide +kernel
theorem dX6_flow_1 : decode cX6_flow 1 = .ok (.ifCond .lt 14, 3) := by decide +kernel
theorem dX6_flow_4 : decode cX6_flow 4 = .ok (.iload_n 1, 1) := by decide +kernel
theorem dX6_flow_5 : decode cX6_flow 5 = .ok (.aload_n 0, 1) := by decide +kernel
theorem dX6_flow_6 : decode cX6_flow 6 = .ok (.getfield 19, 3) := by decide +kernel
theorem dX6_flow_9 : decode cX6_flow 9 = .ok (.getfield 149, 3) := by decide +kernel
theorem dX6_flow_12 : decode cX6_flow 12 = .ok (.if_icmp .le 6, 3) := by decide +kernel
theorem dX6_flow_15 : decode cX6_flow 15 = .ok (.ldc 44, 2) := by decide +kernel
theorem dX6_flow_17 : decode cX6_flow 17 = .ok (.ireturn, 1) := by decide +kernel
theorem dX6_flow_18 : decode cX6_flow 18 = .ok (.aload_n 0, 1) := by decide +kernel
theorem dX6_flow_19 : decode cX6_flow 19 = .ok (.getfield 19, 3) := by decide +kernel
theorem dX6_flow_22 : decode cX6_flow 22 = .ok (.getfield 149, 3) := by decide +kernel
theorem dX6_flow_25 : decode cX6_flow 25 = .ok (.ifCond .ne 6, 3) := by decide +kernel
theorem dX6_flow_28 : decode cX6_flow 28 = .ok (.ldc 64, 2) := by decide +kernel
theorem dX6_flow_30 : decode cX6_flow 30 = .ok (.ireturn, 1) := by decide +kernel
theorem dX6_flow_31 : decode cX6_flow 31 = .ok (.aload_n 0, 1) := by decide +kernel
theorem dX6_flow_32 : decode cX6_flow 32 = .ok (.getfield 19, 3) := by decide +kernel
theorem dX6_flow_35 : decode cX6_flow 35 = .ok (.aload_n 0, 1) := by decide +kernel
theorem dX6_flow_36 : decode cX6_flow 36 = .ok (.getfield 19, 3) := by decide +kernel
theorem dX6_flow_39 : decode cX6_flow 39 = .ok (.getfield 72, 3) := by decide +kernel
theorem dX6_flow_42 : decode cX6_flow 42 = .ok (.iload_n 1, 1) := by decide +kernel
theorem dX6_flow_43 : decode cX6_flow 43 = .ok (.invokevirtual 196, 3) := by decide +kernel
theorem dX6_flow_46 : decode cX6_flow 46 = .ok (.ireturn, 1) := by decide +kernel
theorem dX6_until_0 : decode cX6_until 0 = .ok (.aload_n 0, 1) := by decide +kernel
theorem dX6_until_1 : decode cX6_until 1 = .ok (.getfield 19, 3) := by decide +kernel
theorem dX6_until_4 : decode cX6_until 4 = .ok (.iload_n 1, 1) := by decide +kernel
theorem dX6_until_5 : decode cX6_until 5 = .ok (.invokevirtual 112, 3) := by decide +kernel
theorem dX6_until_8 : decode cX6_until 8 = .ok (.ifCond .ne 6, 3) := by decide +kernel
theorem dX6_until_11 : decode cX6_until 11 = .ok (.ldc 93, 2) := by decide +kernel
theorem dX6_until_13 : decode cX6_until 13 = .ok (.ireturn, 1) := by decide +kernel
theorem dX6_until_14 : decode cX6_until 14 = .ok (.iload_n 2, 1) := by decide +kernel
theorem dX6_until_15 : decode cX6_until 15 = .ok (.invokestatic 167, 3) := by decide +kernel
theorem dX6_until_18 : decode cX6_until 18 = .ok (.ifCond .ne 6, 3) := by decide +kernel
theorem dX6_until_21 : decode cX6_until 21 = .ok (.ldc 44, 2) := by decide +kernel
theorem dX6_until_23 : decode cX6_until 23 = .ok (.ireturn, 1) := by decide +kernel
theorem dX6_until_24 : decode cX6_until 24 = .ok (.iload_n 2, 1) := by decide +kernel
theorem dX6_until_25 : decode cX6_until 25 = .ok (.aload_n 0, 1) := by decide +kernel
theorem dX6_until_26 : decode cX6_until 26 = .ok (.getfield 19, 3) := by decide +kernel
theorem dX6_until_29 : decode cX6_until 29 = .ok (.iload_n 1, 1) := by decide +kernel
theorem dX6_until_30 : decode cX6_until 30 = .ok (.invokevirtual 121, 3) := by decide +kernel
theorem dX6_until_33 : decode cX6_until 33 = .ok (.imul, 1) := by decide +kernel
theorem dX6_until_34 : decode cX6_until 34 = .ok (.istore_n 3, 1) := by decide +kernel
theorem dX6_until_35 : decode cX6_until 35 = .ok (.aload_n 0, 1) := by decide +kernel
theorem dX6_until_36 : decode cX6_until 36 = .ok (.getfield 26, 3) := by decide +kernel
theorem dX6_until_39 : decode cX6_until 39 = .ok (.aload_n 0, 1) := by decide +kernel
theorem dX6_until_40 : decode cX6_until 40 = .ok (.getfield 19, 3) := by decide +kernel
theorem dX6_until_43 : decode cX6_until 43 = .ok (.getfield 72, 3) := by decide +kernel
theorem dX6_until_46 : decode cX6_until 46 = .ok (.invokevirtual 200, 3) := by decide +kernel
theorem dX6_until_49 : decode cX6_until 49 = .ok (.iconst 0, 1) := by decide +kernel
theorem dX6_until_50 : decode cX6_until 50 = .ok (.istore 4, 2) := by decide +kernel
theorem dX6_until_52 : decode cX6_until 52 = .ok (.iload 4, 2) := by decide +kernel
theorem dX6_until_54 : decode cX6_until 54 = .ok (.sipush 200, 3) := by decide +kernel
theorem dX6_until_57 : decode cX6_until 57 = .ok (.if_icmp .gt 43, 3) := by decide +kernel
theorem dX6_until_60 : decode cX6_until 60 = .ok (.aload_n 0, 1) := by decide +kernel
theorem dX6_until_61 : decode cX6_until 61 = .ok (.getfield 26, 3) := by decide +kernel
theorem dX6_until_64 : decode cX6_until 64 = .ok (.getfield 115, 3) := by decide +kernel
theorem dX6_until_67 : decode cX6_until 67 = .ok (.iload_n 1, 1) := by decide +kernel
theorem dX6_until_68 : decode cX6_until 68 = .ok (.invokestatic 98, 3) := by decide +kernel
theorem dX6_until_71 : decode cX6_until 71 = .ok (.iload_n 3, 1) := by decide +kernel
theorem dX6_until_72 : decode cX6_until 72 = .ok (.if_icmp .lt 6, 3) := by decide +kernel
theorem dX6_until_75 : decode cX6_until 75 = .ok (.iload 4, 2) := by decide +kernel
theorem dX6_until_77 : decode cX6_until 77 = .ok (.ireturn, 1) := by decide +kernel
theorem dX6_until_78 : decode cX6_until 78 = .ok (.aload_n 0, 1) := by decide +kernel
theorem dX6_until_79 : decode cX6_until 79 = .ok (.getfield 19, 3) := by decide +kernel
theorem dX6_until_82 : decode cX6_until 82 = .ok (.aload_n 0, 1) := by decide +kernel
theorem dX6_until_83 : decode cX6_until 83 = .ok (.getfield 26, 3) := by decide +kernel
theorem dX6_until_86 : decode cX6_until 86 = .ok (.invokevirtual 156, 3) := by decide +kernel
theorem dX6_until_89 : decode cX6_until 89 = .ok (.ifCond .ne 5, 3) := by decide +kernel
theorem dX6_until_92 : decode cX6_until 92 = .ok (.iconst (-1), 1) := by decide +kernel
theorem dX6_until_93 : decode cX6_until 93 = .ok (.ireturn, 1) := by decide +kernel
theorem dX6_until_94 : decode cX6_until 94 = .ok (.iinc 4 1, 3) := by decide +kernel
theorem dX6_until_97 : decode cX6_until 97 = .ok (.goto (-45), 3) := by decide +kernel
theorem dX6_until_100 : decode cX6_until 100 = .ok (.iconst (-1), 1) := by decide +kernel
theorem dX6_until_101 : decode cX6_until 101 = .ok (.ireturn, 1) := by decide +kernel
theorem dX6_resists_0 : decode cX6_resists 0 = .ok (.iload_n 1, 1) := by decide +kernel
theorem dX6_resists_1 : decode cX6_resists 1 = .ok (.invokestatic 130, 3) := by decide +kernel
theorem dX6_resists_4 : decode cX6_resists 4 = .ok (.ifCond .ne 6, 3) := by decide +kernel
theorem dX6_resists_7 : decode cX6_resists 7 = .ok (.ldc 44, 2) := by decide +kernel
theorem dX6_resists_9 : decode cX6_resists 9 = .ok (.ireturn, 1) := by decide +kernel
theorem dX6_resists_10 : decode cX6_resists 10 = .ok (.aload_n 0, 1) := by decide +kernel
theorem dX6_resists_11 : decode cX6_resists 11 = .ok (.getfield 19, 3) := by decide +kernel
theorem dX6_resists_14 : decode cX6_resists 14 = .ok (.getfield 149, 3) := by decide +kernel
theorem dX6_resists_17 : decode cX6_resists 17 = .ok (.ifCond .ne 6, 3) := by decide +kernel
theorem dX6_resists_20 : decode cX6_resists 20 = .ok (.ldc 64, 2) := by decide +kernel
theorem dX6_resists_22 : decode cX6_resists 22 = .ok (.ireturn, 1) := by decide +kernel
theorem dX6_resists_23 : decode cX6_resists 23 = .ok (.aload_n 0, 1) := by decide +kernel
theorem dX6_resists_24 : decode cX6_resists 24 = .ok (.getfield 19, 3) := by decide +kernel
theorem dX6_resists_27 : decode cX6_resists 27 = .ok (.invokevirtual 139, 3) := by decide +kernel
theorem dX6_resists_30 : decode cX6_resists 30 = .ok (.ldc2_w 202, 3) := by decide +kernel
theorem dX6_resists_33 : decode cX6_resists 33 = .ok (.iload_n 1, 1) := by decide +kernel
theorem dX6_resists_34 : decode cX6_resists 34 = .ok (.invokestatic 124, 3) := by decide +kernel
theorem dX6_resists_37 : decode cX6_resists 37 = .ok (.l2i, 1) := by decide +kernel
theorem dX6_resists_38 : decode cX6_resists 38 = .ok (.ireturn, 1) := by decide +kernel
theorem dX6_swapped_0 : decode cX6_swapped 0 = .ok (.aload_n 0, 1) := by decide +kernel
theorem dX6_swapped_1 : decode cX6_swapped 1 = .ok (.getfield 19, 3) := by decide +kernel
theorem dX6_swapped_4 : decode cX6_swapped 4 = .ok (.iload_n 1, 1) := by decide +kernel
theorem dX6_swapped_5 : decode cX6_swapped 5 = .ok (.invokevirtual 112, 3) := by decide +kernel
theorem dX6_swapped_8 : decode cX6_swapped 8 = .ok (.ifCond .eq 14, 3) := by decide +kernel
theorem dX6_swapped_11 : decode cX6_swapped 11 = .ok (.aload_n 0, 1) := by decide +kernel
theorem dX6_swapped_12 : decode cX6_swapped 12 = .ok (.getfield 19, 3) := by decide +kernel
theorem dX6_swapped_15 : decode cX6_swapped 15 = .ok (.iload_n 2, 1) := by decide +kernel
theorem dX6_swapped_16 : decode cX6_swapped 16 = .ok (.invokevirtual 89, 3) := by decide +kernel
theorem dX6_swapped_19 : decode cX6_swapped 19 = .ok (.ifCond .ne 6, 3) := by decide +kernel
theorem dX6_swapped_22 : decode cX6_swapped 22 = .ok (.ldc 93, 2) := by decide +kernel
theorem dX6_swapped_24 : decode cX6_swapped 24 = .ok (.ireturn, 1) := by decide +kernel
theorem dX6_swapped_25 : decode cX6_swapped 25 = .ok (.iload_n 3, 1) := by decide +kernel
theorem dX6_swapped_26 : decode cX6_swapped 26 = .ok (.invokestatic 130, 3) := by decide +kernel
theorem dX6_swapped_29 : decode cX6_swapped 29 = .ok (.ifCond .ne 6, 3) := by decide +kernel
theorem dX6_swapped_32 : decode cX6_swapped 32 = .ok (.ldc 44, 2) := by decide +kernel
theorem dX6_swapped_34 : decode cX6_swapped 34 = .ok (.ireturn, 1) := by decide +kernel
theorem dX6_swapped_35 : decode cX6_swapped 35 = .ok (.ldc2_w 204, 3) := by decide +kernel
theorem dX6_swapped_38 : decode cX6_swapped 38 = .ok (.aload_n 0, 1) := by decide +kernel
theorem dX6_swapped_39 : decode cX6_swapped 39 = .ok (.getfield 19, 3) := by decide +kernel
theorem dX6_swapped_42 : decode cX6_swapped 42 = .ok (.iload_n 1, 1) := by decide +kernel
theorem dX6_swapped_43 : decode cX6_swapped 43 = .ok (.invokevirtual 206, 3) := by decide +kernel
theorem dX6_swapped_46 : decode cX6_swapped 46 = .ok (.invokestatic 209, 3) := by decide +kernel
theorem dX6_swapped_49 : decode cX6_swapped 49 = .ok (.lmul, 1) := by decide +kernel
theorem dX6_swapped_50 : decode cX6_swapped 50 = .ok (.lstore 4, 2) := by decide +kernel
theorem dX6_swapped_52 : decode cX6_swapped 52 = .ok (.ldc2_w 204, 3) := by decide +kernel
theorem dX6_swapped_55 : decode cX6_swapped 55 = .ok (.aload_n 0, 1) := by decide +kernel
theorem dX6_swapped_56 : decode cX6_swapped 56 = .ok (.getfield 19, 3) := by decide +kernel
theorem dX6_swapped_59 : decode cX6_swapped 59 = .ok (.getfield 94, 3) := by decide +kernel
theorem dX6_swapped_62 : decode cX6_swapped 62 = .ok (.iload_n 2, 1) := by decide +kernel
theorem dX6_swapped_63 : decode cX6_swapped 63 = .ok (.invokestatic 98, 3) := by decide +kernel
theorem dX6_swapped_66 : decode cX6_swapped 66 = .ok (.invokestatic 209, 3) := by decide +kernel
theorem dX6_swapped_69 : decode cX6_swapped 69 = .ok (.lmul, 1) := by decide +kernel
theorem dX6_swapped_70 : decode cX6_swapped 70 = .ok (.lstore 6, 2) := by decide +kernel
theorem dX6_swapped_72 : decode cX6_swapped 72 = .ok (.aload_n 0, 1) := by decide +kernel
theorem dX6_swapped_73 : decode cX6_swapped 73 = .ok (.getfield 19, 3) := by decide +kernel
theorem dX6_swapped_76 : decode cX6_swapped 76 = .ok (.invokevirtual 139, 3) := by decide +kernel
theorem dX6_swapped_79 : decode cX6_swapped 79 = .ok (.lload 4, 2) := by decide +kernel
theorem dX6_swapped_81 : decode cX6_swapped 81 = .ok (.lsub, 1) := by decide +kernel
theorem dX6_swapped_82 : decode cX6_swapped 82 = .ok (.lload 6, 2) := by decide +kernel
theorem dX6_swapped_84 : decode cX6_swapped 84 = .ok (.ladd, 1) := by decide +kernel
theorem dX6_swapped_85 : decode cX6_swapped 85 = .ok (.ldc2_w 202, 3) := by decide +kernel
theorem dX6_swapped_88 : decode cX6_swapped 88 = .ok (.iload_n 3, 1) := by decide +kernel
theorem dX6_swapped_89 : decode cX6_swapped 89 = .ok (.invokestatic 124, 3) := by decide +kernel
theorem dX6_swapped_92 : decode cX6_swapped 92 = .ok (.l2i, 1) := by decide +kernel
theorem dX6_swapped_93 : decode cX6_swapped 93 = .ok (.ireturn, 1) := by decide +kernel
theorem dX6_gain_0 : decode cX6_gain 0 = .ok (.aload_n 0, 1) := by decide +kernel
theorem dX6_gain_1 : decode cX6_gain 1 = .ok (.getfield 19, 3) := by decide +kernel
theorem dX6_gain_4 : decode cX6_gain 4 = .ok (.iload_n 1, 1) := by decide +kernel
theorem dX6_gain_5 : decode cX6_gain 5 = .ok (.invokevirtual 112, 3) := by decide +kernel
theorem dX6_gain_8 : decode cX6_gain 8 = .ok (.ifCond .ne 6, 3) := by decide +kernel
theorem dX6_gain_11 : decode cX6_gain 11 = .ok (.ldc 93, 2) := by decide +kernel
theorem dX6_gain_13 : decode cX6_gain 13 = .ok (.ireturn, 1) := by decide +kernel
theorem dX6_gain_14 : decode cX6_gain 14 = .ok (.aload_n 0, 1) := by decide +kernel
theorem dX6_gain_15 : decode cX6_gain 15 = .ok (.getfield 26, 3) := by decide +kernel
theorem dX6_gain_18 : decode cX6_gain 18 = .ok (.aload_n 0, 1) := by decide +kernel
theorem dX6_gain_19 : decode cX6_gain 19 = .ok (.getfield 19, 3) := by decide +kernel
theorem dX6_gain_22 : decode cX6_gain 22 = .ok (.getfield 72, 3) := by decide +kernel
theorem dX6_gain_25 : decode cX6_gain 25 = .ok (.invokevirtual 200, 3) := by decide +kernel
theorem dX6_gain_28 : decode cX6_gain 28 = .ok (.aload_n 0, 1) := by decide +kernel
theorem dX6_gain_29 : decode cX6_gain 29 = .ok (.getfield 19, 3) := by decide +kernel
theorem dX6_gain_32 : decode cX6_gain 32 = .ok (.aload_n 0, 1) := by decide +kernel
theorem dX6_gain_33 : decode cX6_gain 33 = .ok (.getfield 26, 3) := by decide +kernel
theorem dX6_gain_36 : decode cX6_gain 36 = .ok (.invokevirtual 156, 3) := by decide +kernel
theorem dX6_gain_39 : decode cX6_gain 39 = .ok (.ifCond .ne 6, 3) := by decide +kernel
theorem dX6_gain_42 : decode cX6_gain 42 = .ok (.ldc 64, 2) := by decide +kernel
theorem dX6_gain_44 : decode cX6_gain 44 = .ok (.ireturn, 1) := by decide +kernel
theorem dX6_gain_45 : decode cX6_gain 45 = .ok (.aload_n 0, 1) := by decide +kernel
theorem dX6_gain_46 : decode cX6_gain 46 = .ok (.getfield 26, 3) := by decide +kernel
theorem dX6_gain_49 : decode cX6_gain 49 = .ok (.getfield 115, 3) := by decide +kernel
theorem dX6_gain_52 : decode cX6_gain 52 = .ok (.iload_n 1, 1) := by decide +kernel
theorem dX6_gain_53 : decode cX6_gain 53 = .ok (.invokestatic 98, 3) := by decide +kernel
theorem dX6_gain_56 : decode cX6_gain 56 = .ok (.aload_n 0, 1) := by decide +kernel
theorem dX6_gain_57 : decode cX6_gain 57 = .ok (.getfield 19, 3) := by decide +kernel
theorem dX6_gain_60 : decode cX6_gain 60 = .ok (.getfield 72, 3) := by decide +kernel
theorem dX6_gain_63 : decode cX6_gain 63 = .ok (.getfield 115, 3) := by decide +kernel
theorem dX6_gain_66 : decode cX6_gain 66 = .ok (.iload_n 1, 1) := by decide +kernel
theorem dX6_gain_67 : decode cX6_gain 67 = .ok (.invokestatic 98, 3) := by decide +kernel
theorem dX6_gain_70 : decode cX6_gain 70 = .ok (.isub, 1) := by decide +kernel
theorem dX6_gain_71 : decode cX6_gain 71 = .ok (.ireturn, 1) := by decide +kernel
theorem dX6_page_0 : decode cX6_page 0 = .ok (.aload_n 0, 1) := by decide +kernel
theorem dX6_page_1 : decode cX6_page 1 = .ok (.iload_n 1, 1) := by decide +kernel
theorem dX6_page_2 : decode cX6_page 2 = .ok (.invokevirtual 212, 3) := by decide +kernel
theorem dX6_page_5 : decode cX6_page 5 = .ok (.astore_n 2, 1) := by decide +kernel
theorem dX6_page_6 : decode cX6_page 6 = .ok (.aload_n 2, 1) := by decide +kernel
theorem dX6_page_7 : decode cX6_page 7 = .ok (.ifnonnull 6, 3) := by decide +kernel
theorem dX6_page_10 : decode cX6_page 10 = .ok (.ldc 93, 2) := by decide +kernel
theorem dX6_page_12 : decode cX6_page 12 = .ok (.ireturn, 1) := by decide +kernel
theorem dX6_page_13 : decode cX6_page 13 = .ok (.aload_n 2, 1) := by decide +kernel
theorem dX6_page_14 : decode cX6_page 14 = .ok (.iconst 1, 1) := by decide +kernel
theorem dX6_page_15 : decode cX6_page 15 = .ok (.putfield 216, 3) := by decide +kernel
theorem dX6_page_18 : decode cX6_page 18 = .ok (.aload_n 2, 1) := by decide +kernel
theorem dX6_page_19 : decode cX6_page 19 = .ok (.iconst 0, 1) := by decide +kernel
theorem dX6_page_20 : decode cX6_page 20 = .ok (.putfield 220, 3) := by decide +kernel
theorem dX6_page_23 : decode cX6_page 23 = .ok (.iconst 0, 1) := by decide +kernel
theorem dX6_page_24 : decode cX6_page 24 = .ok (.ireturn, 1) := by decide +kernel
theorem dX6_put_0 : decode cX6_put 0 = .ok (.aload_n 0, 1) := by decide +kernel
theorem dX6_put_1 : decode cX6_put 1 = .ok (.iload_n 1, 1) := by decide +kernel
theorem dX6_put_2 : decode cX6_put 2 = .ok (.invokevirtual 212, 3) := by decide +kernel
theorem dX6_put_5 : decode cX6_put 5 = .ok (.astore 5, 2) := by decide +kernel
theorem dX6_put_7 : decode cX6_put 7 = .ok (.aload 5, 2) := by decide +kernel
theorem dX6_put_9 : decode cX6_put 9 = .ok (.ifnonnull 6, 3) := by decide +kernel
theorem dX6_put_12 : decode cX6_put 12 = .ok (.ldc 93, 2) := by decide +kernel
theorem dX6_put_14 : decode cX6_put 14 = .ok (.ireturn, 1) := by decide +kernel
theorem dX6_put_15 : decode cX6_put 15 = .ok (.iload_n 2, 1) := by decide +kernel
theorem dX6_put_16 : decode cX6_put 16 = .ok (.iload_n 3, 1) := by decide +kernel
theorem dX6_put_17 : decode cX6_put 17 = .ok (.invokestatic 223, 3) := by decide +kernel
theorem dX6_put_20 : decode cX6_put 20 = .ok (.ifCond .eq 19, 3) := by decide +kernel
theorem dX6_put_23 : decode cX6_put 23 = .ok (.iload 4, 2) := by decide +kernel
theorem dX6_put_25 : decode cX6_put 25 = .ok (.sipush (-999), 3) := by decide +kernel
theorem dX6_put_28 : decode cX6_put 28 = .ok (.if_icmp .lt 11, 3) := by decide +kernel
theorem dX6_put_31 : decode cX6_put 31 = .ok (.iload 4, 2) := by decide +kernel
theorem dX6_put_33 : decode cX6_put 33 = .ok (.sipush 999, 3) := by decide +kernel
theorem dX6_put_36 : decode cX6_put 36 = .ok (.if_icmp .le 6, 3) := by decide +kernel
theorem dX6_put_39 : decode cX6_put 39 = .ok (.ldc 44, 2) := by decide +kernel
theorem dX6_put_41 : decode cX6_put 41 = .ok (.ireturn, 1) := by decide +kernel
theorem dX6_put_42 : decode cX6_put 42 = .ok (.aload 5, 2) := by decide +kernel
theorem dX6_put_44 : decode cX6_put 44 = .ok (.getfield 216, 3) := by decide +kernel
theorem dX6_put_47 : decode cX6_put 47 = .ok (.ifCond .ne 6, 3) := by decide +kernel
theorem dX6_put_50 : decode cX6_put 50 = .ok (.ldc 227, 2) := by decide +kernel
theorem dX6_put_52 : decode cX6_put 52 = .ok (.ireturn, 1) := by decide +kernel
theorem dX6_put_53 : decode cX6_put 53 = .ok (.aload 5, 2) := by decide +kernel
theorem dX6_put_55 : decode cX6_put 55 = .ok (.iload_n 2, 1) := by decide +kernel
theorem dX6_put_56 : decode cX6_put 56 = .ok (.iload_n 3, 1) := by decide +kernel
theorem dX6_put_57 : decode cX6_put 57 = .ok (.invokevirtual 228, 3) := by decide +kernel
theorem dX6_put_60 : decode cX6_put 60 = .ok (.istore 6, 2) := by decide +kernel
theorem dX6_put_62 : decode cX6_put 62 = .ok (.iload 6, 2) := by decide +kernel
theorem dX6_put_64 : decode cX6_put 64 = .ok (.iconst (-1), 1) := by decide +kernel
theorem dX6_put_65 : decode cX6_put 65 = .ok (.if_icmp .ne 16, 3) := by decide +kernel
theorem dX6_put_68 : decode cX6_put 68 = .ok (.aload 5, 2) := by decide +kernel
theorem dX6_put_70 : decode cX6_put 70 = .ok (.getfield 220, 3) := by decide +kernel
theorem dX6_put_73 : decode cX6_put 73 = .ok (.bipush 8, 2) := by decide +kernel
theorem dX6_put_75 : decode cX6_put 75 = .ok (.if_icmp .lt 6, 3) := by decide +kernel
theorem dX6_put_78 : decode cX6_put 78 = .ok (.ldc 232, 2) := by decide +kernel
theorem dX6_put_80 : decode cX6_put 80 = .ok (.ireturn, 1) := by decide +kernel
theorem dX6_put_81 : decode cX6_put 81 = .ok (.iload 6, 2) := by decide +kernel
theorem dX6_put_83 : decode cX6_put 83 = .ok (.iconst (-1), 1) := by decide +kernel
theorem dX6_put_84 : decode cX6_put 84 = .ok (.if_icmp .ne 13, 3) := by decide +kernel
theorem dX6_put_87 : decode cX6_put 87 = .ok (.aload 5, 2) := by decide +kernel
theorem dX6_put_89 : decode cX6_put 89 = .ok (.iload_n 2, 1) := by decide +kernel
theorem dX6_put_90 : decode cX6_put 90 = .ok (.iload_n 3, 1) := by decide +kernel
theorem dX6_put_91 : decode cX6_put 91 = .ok (.iload 4, 2) := by decide +kernel
theorem dX6_put_93 : decode cX6_put 93 = .ok (.invokevirtual 233, 3) := by decide +kernel
theorem dX6_put_96 : decode cX6_put 96 = .ok (.ireturn, 1) := by decide +kernel
theorem dX6_put_97 : decode cX6_put 97 = .ok (.aload 5, 2) := by decide +kernel
theorem dX6_put_99 : decode cX6_put 99 = .ok (.getfield 237, 3) := by decide +kernel
theorem dX6_put_102 : decode cX6_put 102 = .ok (.iload 6, 2) := by decide +kernel
theorem dX6_put_104 : decode cX6_put 104 = .ok (.invokestatic 98, 3) := by decide +kernel
theorem dX6_put_107 : decode cX6_put 107 = .ok (.istore 7, 2) := by decide +kernel
theorem dX6_put_109 : decode cX6_put 109 = .ok (.aload 5, 2) := by decide +kernel
theorem dX6_put_111 : decode cX6_put 111 = .ok (.getfield 237, 3) := by decide +kernel
theorem dX6_put_114 : decode cX6_put 114 = .ok (.iload 6, 2) := by decide +kernel
theorem dX6_put_116 : decode cX6_put 116 = .ok (.iload 4, 2) := by decide +kernel
theorem dX6_put_118 : decode cX6_put 118 = .ok (.invokestatic 163, 3) := by decide +kernel
theorem dX6_put_121 : decode cX6_put 121 = .ok (.iload 7, 2) := by decide +kernel
theorem dX6_put_123 : decode cX6_put 123 = .ok (.ireturn, 1) := by decide +kernel
theorem dX6_get_0 : decode cX6_get 0 = .ok (.aload_n 0, 1) := by decide +kernel
theorem dX6_get_1 : decode cX6_get 1 = .ok (.iload_n 1, 1) := by decide +kernel
theorem dX6_get_2 : decode cX6_get 2 = .ok (.invokevirtual 212, 3) := by decide +kernel
theorem dX6_get_5 : decode cX6_get 5 = .ok (.astore 4, 2) := by decide +kernel
theorem dX6_get_7 : decode cX6_get 7 = .ok (.aload 4, 2) := by decide +kernel
theorem dX6_get_9 : decode cX6_get 9 = .ok (.ifnonnull 6, 3) := by decide +kernel
theorem dX6_get_12 : decode cX6_get 12 = .ok (.ldc 93, 2) := by decide +kernel
theorem dX6_get_14 : decode cX6_get 14 = .ok (.ireturn, 1) := by decide +kernel
theorem dX6_get_15 : decode cX6_get 15 = .ok (.iload_n 2, 1) := by decide +kernel
theorem dX6_get_16 : decode cX6_get 16 = .ok (.iload_n 3, 1) := by decide +kernel
theorem dX6_get_17 : decode cX6_get 17 = .ok (.invokestatic 223, 3) := by decide +kernel
theorem dX6_get_20 : decode cX6_get 20 = .ok (.ifCond .ne 6, 3) := by decide +kernel
theorem dX6_get_23 : decode cX6_get 23 = .ok (.ldc 44, 2) := by decide +kernel
theorem dX6_get_25 : decode cX6_get 25 = .ok (.ireturn, 1) := by decide +kernel
theorem dX6_get_26 : decode cX6_get 26 = .ok (.aload 4, 2) := by decide +kernel
theorem dX6_get_28 : decode cX6_get 28 = .ok (.getfield 216, 3) := by decide +kernel
theorem dX6_get_31 : decode cX6_get 31 = .ok (.ifCond .ne 6, 3) := by decide +kernel
theorem dX6_get_34 : decode cX6_get 34 = .ok (.ldc 227, 2) := by decide +kernel
theorem dX6_get_36 : decode cX6_get 36 = .ok (.ireturn, 1) := by decide +kernel
theorem dX6_get_37 : decode cX6_get 37 = .ok (.aload 4, 2) := by decide +kernel
theorem dX6_get_39 : decode cX6_get 39 = .ok (.iload_n 2, 1) := by decide +kernel
theorem dX6_get_40 : decode cX6_get 40 = .ok (.iload_n 3, 1) := by decide +kernel
theorem dX6_get_41 : decode cX6_get 41 = .ok (.invokevirtual 228, 3) := by decide +kernel
theorem dX6_get_44 : decode cX6_get 44 = .ok (.istore 5, 2) := by decide +kernel
theorem dX6_get_46 : decode cX6_get 46 = .ok (.iload 5, 2) := by decide +kernel
theorem dX6_get_48 : decode cX6_get 48 = .ok (.iconst (-1), 1) := by decide +kernel
theorem dX6_get_49 : decode cX6_get 49 = .ok (.if_icmp .ne 8, 3) := by decide +kernel
theorem dX6_get_52 : decode cX6_get 52 = .ok (.ldc 240, 2) := by decide +kernel
theorem dX6_get_54 : decode cX6_get 54 = .ok (.goto 13, 3) := by decide +kernel
theorem dX6_get_57 : decode cX6_get 57 = .ok (.aload 4, 2) := by decide +kernel
theorem dX6_get_59 : decode cX6_get 59 = .ok (.getfield 237, 3) := by decide +kernel
theorem dX6_get_62 : decode cX6_get 62 = .ok (.iload 5, 2) := by decide +kernel
theorem dX6_get_64 : decode cX6_get 64 = .ok (.invokestatic 98, 3) := by decide +kernel
theorem dX6_get_67 : decode cX6_get 67 = .ok (.ireturn, 1) := by decide +kernel
theorem dX6_strike_0 : decode cX6_strike 0 = .ok (.aload_n 0, 1) := by decide +kernel
theorem dX6_strike_1 : decode cX6_strike 1 = .ok (.iload_n 1, 1) := by decide +kernel
theorem dX6_strike_2 : decode cX6_strike 2 = .ok (.invokevirtual 212, 3) := by decide +kernel
theorem dX6_strike_5 : decode cX6_strike 5 = .ok (.astore 4, 2) := by decide +kernel
theorem dX6_strike_7 : decode cX6_strike 7 = .ok (.aload 4, 2) := by decide +kernel
theorem dX6_strike_9 : decode cX6_strike 9 = .ok (.ifnonnull 6, 3) := by decide +kernel
theorem dX6_strike_12 : decode cX6_strike 12 = .ok (.ldc 93, 2) := by decide +kernel
theorem dX6_strike_14 : decode cX6_strike 14 = .ok (.ireturn, 1) := by decide +kernel
theorem dX6_strike_15 : decode cX6_strike 15 = .ok (.iload_n 2, 1) := by decide +kernel
theorem dX6_strike_16 : decode cX6_strike 16 = .ok (.iload_n 3, 1) := by decide +kernel
theorem dX6_strike_17 : decode cX6_strike 17 = .ok (.invokestatic 223, 3) := by decide +kernel
theorem dX6_strike_20 : decode cX6_strike 20 = .ok (.ifCond .ne 6, 3) := by decide +kernel
theorem dX6_strike_23 : decode cX6_strike 23 = .ok (.ldc 44, 2) := by decide +kernel
theorem dX6_strike_25 : decode cX6_strike 25 = .ok (.ireturn, 1) := by decide +kernel
theorem dX6_strike_26 : decode cX6_strike 26 = .ok (.aload 4, 2) := by decide +kernel
theorem dX6_strike_28 : decode cX6_strike 28 = .ok (.getfield 216, 3) := by decide +kernel
theorem dX6_strike_31 : decode cX6_strike 31 = .ok (.ifCond .ne 6, 3) := by decide +kernel
theorem dX6_strike_34 : decode cX6_strike 34 = .ok (.ldc 227, 2) := by decide +kernel
theorem dX6_strike_36 : decode cX6_strike 36 = .ok (.ireturn, 1) := by decide +kernel
theorem dX6_strike_37 : decode cX6_strike 37 = .ok (.aload 4, 2) := by decide +kernel
theorem dX6_strike_39 : decode cX6_strike 39 = .ok (.iload_n 2, 1) := by decide +kernel
theorem dX6_strike_40 : decode cX6_strike 40 = .ok (.iload_n 3, 1) := by decide +kernel
theorem dX6_strike_41 : decode cX6_strike 41 = .ok (.invokevirtual 228, 3) := by decide +kernel
theorem dX6_strike_44 : decode cX6_strike 44 = .ok (.istore 5, 2) := by decide +kernel
theorem dX6_strike_46 : decode cX6_strike 46 = .ok (.iload 5, 2) := by decide +kernel
theorem dX6_strike_48 : decode cX6_strike 48 = .ok (.iconst (-1), 1) := by decide +kernel
theorem dX6_strike_49 : decode cX6_strike 49 = .ok (.if_icmp .ne 8, 3) := by decide +kernel
theorem dX6_strike_52 : decode cX6_strike 52 = .ok (.ldc 240, 2) := by decide +kernel
theorem dX6_strike_54 : decode cX6_strike 54 = .ok (.goto 10, 3) := by decide +kernel
theorem dX6_strike_57 : decode cX6_strike 57 = .ok (.aload 4, 2) := by decide +kernel
theorem dX6_strike_59 : decode cX6_strike 59 = .ok (.iload 5, 2) := by decide +kernel
theorem dX6_strike_61 : decode cX6_strike 61 = .ok (.invokevirtual 241, 3) := by decide +kernel
theorem dX6_strike_64 : decode cX6_strike 64 = .ok (.ireturn, 1) := by decide +kernel
theorem dX6_common_0 : decode cX6_common 0 = .ok (.aload_n 0, 1) := by decide +kernel
theorem dX6_common_1 : decode cX6_common 1 = .ok (.iload_n 1, 1) := by decide +kernel
theorem dX6_common_2 : decode cX6_common 2 = .ok (.invokevirtual 212, 3) := by decide +kernel
theorem dX6_common_5 : decode cX6_common 5 = .ok (.astore_n 3, 1) := by decide +kernel
theorem dX6_common_6 : decode cX6_common 6 = .ok (.aload_n 0, 1) := by decide +kernel
theorem dX6_common_7 : decode cX6_common 7 = .ok (.iload_n 2, 1) := by decide +kernel
theorem dX6_common_8 : decode cX6_common 8 = .ok (.invokevirtual 212, 3) := by decide +kernel
theorem dX6_common_11 : decode cX6_common 11 = .ok (.astore 4, 2) := by decide +kernel
theorem dX6_common_13 : decode cX6_common 13 = .ok (.aload_n 3, 1) := by decide +kernel
theorem dX6_common_14 : decode cX6_common 14 = .ok (.ifnull 8, 3) := by decide +kernel
theorem dX6_common_17 : decode cX6_common 17 = .ok (.aload 4, 2) := by decide +kernel
theorem dX6_common_19 : decode cX6_common 19 = .ok (.ifnonnull 6, 3) := by decide +kernel
theorem dX6_common_22 : decode cX6_common 22 = .ok (.ldc 93, 2) := by decide +kernel
theorem dX6_common_24 : decode cX6_common 24 = .ok (.ireturn, 1) := by decide +kernel
theorem dX6_common_25 : decode cX6_common 25 = .ok (.aload_n 3, 1) := by decide +kernel
theorem dX6_common_26 : decode cX6_common 26 = .ok (.getfield 216, 3) := by decide +kernel
theorem dX6_common_29 : decode cX6_common 29 = .ok (.ifCond .eq 11, 3) := by decide +kernel
theorem dX6_common_32 : decode cX6_common 32 = .ok (.aload 4, 2) := by decide +kernel
theorem dX6_common_34 : decode cX6_common 34 = .ok (.getfield 216, 3) := by decide +kernel
theorem dX6_common_37 : decode cX6_common 37 = .ok (.ifCond .ne 6, 3) := by decide +kernel
theorem dX6_common_40 : decode cX6_common 40 = .ok (.ldc 227, 2) := by decide +kernel
theorem dX6_common_42 : decode cX6_common 42 = .ok (.ireturn, 1) := by decide +kernel
theorem dX6_common_43 : decode cX6_common 43 = .ok (.aload_n 3, 1) := by decide +kernel
theorem dX6_common_44 : decode cX6_common 44 = .ok (.aload 4, 2) := by decide +kernel
theorem dX6_common_46 : decode cX6_common 46 = .ok (.invokevirtual 244, 3) := by decide +kernel
theorem dX6_common_49 : decode cX6_common 49 = .ok (.ireturn, 1) := by decide +kernel
theorem dX6_sum_0 : decode cX6_sum 0 = .ok (.aload_n 0, 1) := by decide +kernel
theorem dX6_sum_1 : decode cX6_sum 1 = .ok (.iload_n 1, 1) := by decide +kernel
theorem dX6_sum_2 : decode cX6_sum 2 = .ok (.invokevirtual 212, 3) := by decide +kernel
theorem dX6_sum_5 : decode cX6_sum 5 = .ok (.astore_n 3, 1) := by decide +kernel
theorem dX6_sum_6 : decode cX6_sum 6 = .ok (.aload_n 3, 1) := by decide +kernel
theorem dX6_sum_7 : decode cX6_sum 7 = .ok (.ifnonnull 6, 3) := by decide +kernel
theorem dX6_sum_10 : decode cX6_sum 10 = .ok (.ldc 93, 2) := by decide +kernel
theorem dX6_sum_12 : decode cX6_sum 12 = .ok (.ireturn, 1) := by decide +kernel
theorem dX6_sum_13 : decode cX6_sum 13 = .ok (.iload_n 2, 1) := by decide +kernel
theorem dX6_sum_14 : decode cX6_sum 14 = .ok (.ifCond .lt 8, 3) := by decide +kernel
theorem dX6_sum_17 : decode cX6_sum 17 = .ok (.iload_n 2, 1) := by decide +kernel
theorem dX6_sum_18 : decode cX6_sum 18 = .ok (.iconst 2, 1) := by decide +kernel
theorem dX6_sum_19 : decode cX6_sum 19 = .ok (.if_icmp .le 6, 3) := by decide +kernel
theorem dX6_sum_22 : decode cX6_sum 22 = .ok (.ldc 44, 2) := by decide +kernel
theorem dX6_sum_24 : decode cX6_sum 24 = .ok (.ireturn, 1) := by decide +kernel
theorem dX6_sum_25 : decode cX6_sum 25 = .ok (.aload_n 3, 1) := by decide +kernel
theorem dX6_sum_26 : decode cX6_sum 26 = .ok (.getfield 216, 3) := by decide +kernel
theorem dX6_sum_29 : decode cX6_sum 29 = .ok (.ifCond .ne 6, 3) := by decide +kernel
theorem dX6_sum_32 : decode cX6_sum 32 = .ok (.ldc 227, 2) := by decide +kernel
theorem dX6_sum_34 : decode cX6_sum 34 = .ok (.ireturn, 1) := by decide +kernel
theorem dX6_sum_35 : decode cX6_sum 35 = .ok (.iload_n 2, 1) := by decide +kernel
theorem dX6_sum_36 : decode cX6_sum 36 = .ok (.iconst 1, 1) := by decide +kernel
theorem dX6_sum_37 : decode cX6_sum 37 = .ok (.if_icmp .ne 8, 3) := by decide +kernel
theorem dX6_sum_40 : decode cX6_sum 40 = .ok (.aload_n 3, 1) := by decide +kernel
theorem dX6_sum_41 : decode cX6_sum 41 = .ok (.getfield 220, 3) := by decide +kernel
theorem dX6_sum_44 : decode cX6_sum 44 = .ok (.ireturn, 1) := by decide +kernel
theorem dX6_sum_45 : decode cX6_sum 45 = .ok (.iload_n 2, 1) := by decide +kernel
theorem dX6_sum_46 : decode cX6_sum 46 = .ok (.ifCond .ne 10, 3) := by decide +kernel
theorem dX6_sum_49 : decode cX6_sum 49 = .ok (.aload_n 3, 1) := by decide +kernel
theorem dX6_sum_50 : decode cX6_sum 50 = .ok (.getfield 237, 3) := by decide +kernel
theorem dX6_sum_53 : decode cX6_sum 53 = .ok (.goto 7, 3) := by decide +kernel
theorem dX6_sum_56 : decode cX6_sum 56 = .ok (.aload_n 3, 1) := by decide +kernel
theorem dX6_sum_57 : decode cX6_sum 57 = .ok (.getfield 248, 3) := by decide +kernel
theorem dX6_sum_60 : decode cX6_sum 60 = .ok (.aload_n 3, 1) := by decide +kernel
theorem dX6_sum_61 : decode cX6_sum 61 = .ok (.getfield 220, 3) := by decide +kernel
theorem dX6_sum_64 : decode cX6_sum 64 = .ok (.invokestatic 251, 3) := by decide +kernel
theorem dX6_sum_67 : decode cX6_sum 67 = .ok (.ireturn, 1) := by decide +kernel
theorem dX6_drop_0 : decode cX6_drop 0 = .ok (.aload_n 0, 1) := by decide +kernel
theorem dX6_drop_1 : decode cX6_drop 1 = .ok (.iload_n 1, 1) := by decide +kernel
theorem dX6_drop_2 : decode cX6_drop 2 = .ok (.invokevirtual 212, 3) := by decide +kernel
theorem dX6_drop_5 : decode cX6_drop 5 = .ok (.astore_n 2, 1) := by decide +kernel
theorem dX6_drop_6 : decode cX6_drop 6 = .ok (.aload_n 2, 1) := by decide +kernel
theorem dX6_drop_7 : decode cX6_drop 7 = .ok (.ifnonnull 6, 3) := by decide +kernel
theorem dX6_drop_10 : decode cX6_drop 10 = .ok (.ldc 93, 2) := by decide +kernel
theorem dX6_drop_12 : decode cX6_drop 12 = .ok (.ireturn, 1) := by decide +kernel
theorem dX6_drop_13 : decode cX6_drop 13 = .ok (.aload_n 2, 1) := by decide +kernel
theorem dX6_drop_14 : decode cX6_drop 14 = .ok (.getfield 216, 3) := by decide +kernel
theorem dX6_drop_17 : decode cX6_drop 17 = .ok (.ifCond .ne 6, 3) := by decide +kernel
theorem dX6_drop_20 : decode cX6_drop 20 = .ok (.ldc 227, 2) := by decide +kernel
theorem dX6_drop_22 : decode cX6_drop 22 = .ok (.ireturn, 1) := by decide +kernel
theorem dX6_drop_23 : decode cX6_drop 23 = .ok (.aload_n 2, 1) := by decide +kernel
theorem dX6_drop_24 : decode cX6_drop 24 = .ok (.getfield 220, 3) := by decide +kernel
theorem dX6_drop_27 : decode cX6_drop 27 = .ok (.istore_n 3, 1) := by decide +kernel
theorem dX6_drop_28 : decode cX6_drop 28 = .ok (.aload_n 0, 1) := by decide +kernel
theorem dX6_drop_29 : decode cX6_drop 29 = .ok (.iload_n 1, 1) := by decide +kernel
theorem dX6_drop_30 : decode cX6_drop 30 = .ok (.invokevirtual 79, 3) := by decide +kernel
theorem dX6_drop_33 : decode cX6_drop 33 = .ok (.iload_n 3, 1) := by decide +kernel
theorem dX6_drop_34 : decode cX6_drop 34 = .ok (.ireturn, 1) := by decide +kernel
theorem dX6_count_0 : decode cX6_count 0 = .ok (.iload_n 1, 1) := by decide +kernel
theorem dX6_count_1 : decode cX6_count 1 = .ok (.tableswitch 237 0 15 #[79, 87, 95, 106, 117, 128, 136, 154, 165, 176, 185, 194, 202, 213, 218, 226], 79) := by decide +kernel
theorem dX6_count_80 : decode cX6_count 80 = .ok (.aload_n 0, 1) := by decide +kernel
theorem dX6_count_81 : decode cX6_count 81 = .ok (.getfield 19, 3) := by decide +kernel
theorem dX6_count_84 : decode cX6_count 84 = .ok (.getfield 254, 3) := by decide +kernel
theorem dX6_count_87 : decode cX6_count 87 = .ok (.ireturn, 1) := by decide +kernel
theorem dX6_count_88 : decode cX6_count 88 = .ok (.aload_n 0, 1) := by decide +kernel
theorem dX6_count_89 : decode cX6_count 89 = .ok (.getfield 19, 3) := by decide +kernel
theorem dX6_count_92 : decode cX6_count 92 = .ok (.getfield 149, 3) := by decide +kernel
theorem dX6_count_95 : decode cX6_count 95 = .ok (.ireturn, 1) := by decide +kernel
theorem dX6_count_96 : decode cX6_count 96 = .ok (.aload_n 0, 1) := by decide +kernel
theorem dX6_count_97 : decode cX6_count 97 = .ok (.getfield 19, 3) := by decide +kernel
theorem dX6_count_100 : decode cX6_count 100 = .ok (.getfield 72, 3) := by decide +kernel
theorem dX6_count_103 : decode cX6_count 103 = .ok (.getfield 146, 3) := by decide +kernel
theorem dX6_count_106 : decode cX6_count 106 = .ok (.ireturn, 1) := by decide +kernel
theorem dX6_count_107 : decode cX6_count 107 = .ok (.aload_n 0, 1) := by decide +kernel
theorem dX6_count_108 : decode cX6_count 108 = .ok (.getfield 19, 3) := by decide +kernel
theorem dX6_count_111 : decode cX6_count 111 = .ok (.getfield 72, 3) := by decide +kernel
theorem dX6_count_114 : decode cX6_count 114 = .ok (.getfield 143, 3) := by decide +kernel
theorem dX6_count_117 : decode cX6_count 117 = .ok (.ireturn, 1) := by decide +kernel
theorem dX6_count_118 : decode cX6_count 118 = .ok (.aload_n 0, 1) := by decide +kernel
theorem dX6_count_119 : decode cX6_count 119 = .ok (.getfield 19, 3) := by decide +kernel
theorem dX6_count_122 : decode cX6_count 122 = .ok (.getfield 72, 3) := by decide +kernel
theorem dX6_count_125 : decode cX6_count 125 = .ok (.getfield 170, 3) := by decide +kernel
theorem dX6_count_128 : decode cX6_count 128 = .ok (.ireturn, 1) := by decide +kernel
theorem dX6_count_129 : decode cX6_count 129 = .ok (.aload_n 0, 1) := by decide +kernel
theorem dX6_count_130 : decode cX6_count 130 = .ok (.getfield 19, 3) := by decide +kernel
theorem dX6_count_133 : decode cX6_count 133 = .ok (.invokevirtual 173, 3) := by decide +kernel
theorem dX6_count_136 : decode cX6_count 136 = .ok (.ireturn, 1) := by decide +kernel
theorem dX6_count_137 : decode cX6_count 137 = .ok (.aload_n 0, 1) := by decide +kernel
theorem dX6_count_138 : decode cX6_count 138 = .ok (.getfield 19, 3) := by decide +kernel
theorem dX6_count_141 : decode cX6_count 141 = .ok (.getfield 72, 3) := by decide +kernel
theorem dX6_count_144 : decode cX6_count 144 = .ok (.aload_n 0, 1) := by decide +kernel
theorem dX6_count_145 : decode cX6_count 145 = .ok (.getfield 19, 3) := by decide +kernel
theorem dX6_count_148 : decode cX6_count 148 = .ok (.getfield 149, 3) := by decide +kernel
theorem dX6_count_151 : decode cX6_count 151 = .ok (.invokevirtual 187, 3) := by decide +kernel
theorem dX6_count_154 : decode cX6_count 154 = .ok (.ireturn, 1) := by decide +kernel
theorem dX6_count_155 : decode cX6_count 155 = .ok (.aload_n 0, 1) := by decide +kernel
theorem dX6_count_156 : decode cX6_count 156 = .ok (.getfield 19, 3) := by decide +kernel
theorem dX6_count_159 : decode cX6_count 159 = .ok (.getfield 72, 3) := by decide +kernel
theorem dX6_count_162 : decode cX6_count 162 = .ok (.getfield 257, 3) := by decide +kernel
theorem dX6_count_165 : decode cX6_count 165 = .ok (.ireturn, 1) := by decide +kernel
theorem dX6_count_166 : decode cX6_count 166 = .ok (.aload_n 0, 1) := by decide +kernel
theorem dX6_count_167 : decode cX6_count 167 = .ok (.getfield 19, 3) := by decide +kernel
theorem dX6_count_170 : decode cX6_count 170 = .ok (.getfield 72, 3) := by decide +kernel
theorem dX6_count_173 : decode cX6_count 173 = .ok (.getfield 260, 3) := by decide +kernel
theorem dX6_count_176 : decode cX6_count 176 = .ok (.ireturn, 1) := by decide +kernel
theorem dX6_count_177 : decode cX6_count 177 = .ok (.aload_n 0, 1) := by decide +kernel
theorem dX6_count_178 : decode cX6_count 178 = .ok (.getfield 19, 3) := by decide +kernel
theorem dX6_count_181 : decode cX6_count 181 = .ok (.iconst 1, 1) := by decide +kernel
theorem dX6_count_182 : decode cX6_count 182 = .ok (.invokevirtual 263, 3) := by decide +kernel
theorem dX6_count_185 : decode cX6_count 185 = .ok (.ireturn, 1) := by decide +kernel
theorem dX6_count_186 : decode cX6_count 186 = .ok (.aload_n 0, 1) := by decide +kernel
theorem dX6_count_187 : decode cX6_count 187 = .ok (.getfield 19, 3) := by decide +kernel
theorem dX6_count_190 : decode cX6_count 190 = .ok (.iconst (-1), 1) := by decide +kernel
theorem dX6_count_191 : decode cX6_count 191 = .ok (.invokevirtual 263, 3) := by decide +kernel
theorem dX6_count_194 : decode cX6_count 194 = .ok (.ireturn, 1) := by decide +kernel
theorem dX6_count_195 : decode cX6_count 195 = .ok (.aload_n 0, 1) := by decide +kernel
theorem dX6_count_196 : decode cX6_count 196 = .ok (.getfield 19, 3) := by decide +kernel
theorem dX6_count_199 : decode cX6_count 199 = .ok (.invokevirtual 266, 3) := by decide +kernel
theorem dX6_count_202 : decode cX6_count 202 = .ok (.ireturn, 1) := by decide +kernel
theorem dX6_count_203 : decode cX6_count 203 = .ok (.aload_n 0, 1) := by decide +kernel
theorem dX6_count_204 : decode cX6_count 204 = .ok (.getfield 19, 3) := by decide +kernel
theorem dX6_count_207 : decode cX6_count 207 = .ok (.getfield 72, 3) := by decide +kernel
theorem dX6_count_210 : decode cX6_count 210 = .ok (.getfield 269, 3) := by decide +kernel
theorem dX6_count_213 : decode cX6_count 213 = .ok (.ireturn, 1) := by decide +kernel
theorem dX6_count_214 : decode cX6_count 214 = .ok (.aload_n 0, 1) := by decide +kernel
theorem dX6_count_215 : decode cX6_count 215 = .ok (.invokevirtual 272, 3) := by decide +kernel
theorem dX6_count_218 : decode cX6_count 218 = .ok (.ireturn, 1) := by decide +kernel
theorem dX6_count_219 : decode cX6_count 219 = .ok (.aload_n 0, 1) := by decide +kernel
theorem dX6_count_220 : decode cX6_count 220 = .ok (.getfield 33, 3) := by decide +kernel
theorem dX6_count_223 : decode cX6_count 223 = .ok (.getfield 177, 3) := by decide +kernel
theorem dX6_count_226 : decode cX6_count 226 = .ok (.ireturn, 1) := by decide +kernel
theorem dX6_count_227 : decode cX6_count 227 = .ok (.aload_n 0, 1) := by decide +kernel
theorem dX6_count_228 : decode cX6_count 228 = .ok (.getfield 10, 3) := by decide +kernel
theorem dX6_count_231 : decode cX6_count 231 = .ok (.getfield 45, 3) := by decide +kernel
theorem dX6_count_234 : decode cX6_count 234 = .ok (.getfield 49, 3) := by decide +kernel
theorem dX6_count_237 : decode cX6_count 237 = .ok (.ireturn, 1) := by decide +kernel
theorem dX6_count_238 : decode cX6_count 238 = .ok (.ldc 44, 2) := by decide +kernel
theorem dX6_count_240 : decode cX6_count 240 = .ok (.ireturn, 1) := by decide +kernel
theorem dX6_bookAt_0 : decode cX6_bookAt 0 = .ok (.iload_n 1, 1) := by decide +kernel
theorem dX6_bookAt_1 : decode cX6_bookAt 1 = .ok (.ifCond .lt 21, 3) := by decide +kernel
theorem dX6_bookAt_4 : decode cX6_bookAt 4 = .ok (.iload_n 1, 1) := by decide +kernel
theorem dX6_bookAt_5 : decode cX6_bookAt 5 = .ok (.aload_n 0, 1) := by decide +kernel
theorem dX6_bookAt_6 : decode cX6_bookAt 6 = .ok (.getfield 39, 3) := by decide +kernel
theorem dX6_bookAt_9 : decode cX6_bookAt 9 = .ok (.arraylength, 1) := by decide +kernel
theorem dX6_bookAt_10 : decode cX6_bookAt 10 = .ok (.if_icmp .ge 12, 3) := by decide +kernel
theorem dX6_bookAt_13 : decode cX6_bookAt 13 = .ok (.aload_n 0, 1) := by decide +kernel
theorem dX6_bookAt_14 : decode cX6_bookAt 14 = .ok (.getfield 39, 3) := by decide +kernel
theorem dX6_bookAt_17 : decode cX6_bookAt 17 = .ok (.iload_n 1, 1) := by decide +kernel
theorem dX6_bookAt_18 : decode cX6_bookAt 18 = .ok (.aaload, 1) := by decide +kernel
theorem dX6_bookAt_19 : decode cX6_bookAt 19 = .ok (.goto 4, 3) := by decide +kernel
theorem dX6_bookAt_22 : decode cX6_bookAt 22 = .ok (.aconst_null, 1) := by decide +kernel
theorem dX6_bookAt_23 : decode cX6_bookAt 23 = .ok (.areturn, 1) := by decide +kernel
theorem dX6_missPage_0 : decode cX6_missPage 0 = .ok (.aload_n 0, 1) := by decide +kernel
theorem dX6_missPage_1 : decode cX6_missPage 1 = .ok (.iload_n 1, 1) := by decide +kernel
theorem dX6_missPage_2 : decode cX6_missPage 2 = .ok (.invokevirtual 212, 3) := by decide +kernel
theorem dX6_missPage_5 : decode cX6_missPage 5 = .ok (.astore_n 2, 1) := by decide +kernel
theorem dX6_missPage_6 : decode cX6_missPage 6 = .ok (.aload_n 2, 1) := by decide +kernel
theorem dX6_missPage_7 : decode cX6_missPage 7 = .ok (.ifnonnull 4, 3) := by decide +kernel
theorem dX6_missPage_10 : decode cX6_missPage 10 = .ok (.return_, 1) := by decide +kernel
theorem dX6_missPage_11 : decode cX6_missPage 11 = .ok (.aload_n 2, 1) := by decide +kernel
theorem dX6_missPage_12 : decode cX6_missPage 12 = .ok (.iconst 0, 1) := by decide +kernel
theorem dX6_missPage_13 : decode cX6_missPage 13 = .ok (.putfield 216, 3) := by decide +kernel
theorem dX6_missPage_16 : decode cX6_missPage 16 = .ok (.aload_n 2, 1) := by decide +kernel
theorem dX6_missPage_17 : decode cX6_missPage 17 = .ok (.iconst 0, 1) := by decide +kernel
theorem dX6_missPage_18 : decode cX6_missPage 18 = .ok (.putfield 220, 3) := by decide +kernel
theorem dX6_missPage_21 : decode cX6_missPage 21 = .ok (.return_, 1) := by decide +kernel
theorem dX6_keysOfAllPages_0 : decode cX6_keysOfAllPages 0 = .ok (.iconst 0, 1) := by decide +kernel
theorem dX6_keysOfAllPages_1 : decode cX6_keysOfAllPages 1 = .ok (.istore_n 1, 1) := by decide +kernel
theorem dX6_keysOfAllPages_2 : decode cX6_keysOfAllPages 2 = .ok (.iconst 0, 1) := by decide +kernel
theorem dX6_keysOfAllPages_3 : decode cX6_keysOfAllPages 3 = .ok (.istore_n 2, 1) := by decide +kernel
theorem dX6_keysOfAllPages_4 : decode cX6_keysOfAllPages 4 = .ok (.iload_n 2, 1) := by decide +kernel
theorem dX6_keysOfAllPages_5 : decode cX6_keysOfAllPages 5 = .ok (.iconst 3, 1) := by decide +kernel
theorem dX6_keysOfAllPages_6 : decode cX6_keysOfAllPages 6 = .ok (.if_icmp .ge 26, 3) := by decide +kernel
theorem dX6_keysOfAllPages_9 : decode cX6_keysOfAllPages 9 = .ok (.aload_n 0, 1) := by decide +kernel
theorem dX6_keysOfAllPages_10 : decode cX6_keysOfAllPages 10 = .ok (.iload_n 2, 1) := by decide +kernel
theorem dX6_keysOfAllPages_11 : decode cX6_keysOfAllPages 11 = .ok (.invokevirtual 212, 3) := by decide +kernel
theorem dX6_keysOfAllPages_14 : decode cX6_keysOfAllPages 14 = .ok (.astore_n 3, 1) := by decide +kernel
theorem dX6_keysOfAllPages_15 : decode cX6_keysOfAllPages 15 = .ok (.aload_n 3, 1) := by decide +kernel
theorem dX6_keysOfAllPages_16 : decode cX6_keysOfAllPages 16 = .ok (.ifnull 10, 3) := by decide +kernel
theorem dX6_keysOfAllPages_19 : decode cX6_keysOfAllPages 19 = .ok (.iload_n 1, 1) := by decide +kernel
theorem dX6_keysOfAllPages_20 : decode cX6_keysOfAllPages 20 = .ok (.aload_n 3, 1) := by decide +kernel
theorem dX6_keysOfAllPages_21 : decode cX6_keysOfAllPages 21 = .ok (.getfield 220, 3) := by decide +kernel
theorem dX6_keysOfAllPages_24 : decode cX6_keysOfAllPages 24 = .ok (.iadd, 1) := by decide +kernel
theorem dX6_keysOfAllPages_25 : decode cX6_keysOfAllPages 25 = .ok (.istore_n 1, 1) := by decide +kernel
theorem dX6_keysOfAllPages_26 : decode cX6_keysOfAllPages 26 = .ok (.iinc 2 1, 3) := by decide +kernel
theorem dX6_keysOfAllPages_29 : decode cX6_keysOfAllPages 29 = .ok (.goto (-25), 3) := by decide +kernel
theorem dX6_keysOfAllPages_32 : decode cX6_keysOfAllPages 32 = .ok (.iload_n 1, 1) := by decide +kernel
theorem dX6_keysOfAllPages_33 : decode cX6_keysOfAllPages 33 = .ok (.ireturn, 1) := by decide +kernel
theorem dX6_isPart_0 : decode cX6_isPart 0 = .ok (.iload_n 0, 1) := by decide +kernel
theorem dX6_isPart_1 : decode cX6_isPart 1 = .ok (.ifCond .eq 8, 3) := by decide +kernel
theorem dX6_isPart_4 : decode cX6_isPart 4 = .ok (.iload_n 0, 1) := by decide +kernel
theorem dX6_isPart_5 : decode cX6_isPart 5 = .ok (.iconst 1, 1) := by decide +kernel
theorem dX6_isPart_6 : decode cX6_isPart 6 = .ok (.if_icmp .ne 7, 3) := by decide +kernel
theorem dX6_isPart_9 : decode cX6_isPart 9 = .ok (.iconst 1, 1) := by decide +kernel
theorem dX6_isPart_10 : decode cX6_isPart 10 = .ok (.goto 4, 3) := by decide +kernel
theorem dX6_isPart_13 : decode cX6_isPart 13 = .ok (.iconst 0, 1) := by decide +kernel
theorem dX6_isPart_14 : decode cX6_isPart 14 = .ok (.ireturn, 1) := by decide +kernel
theorem dX6_isHeat_0 : decode cX6_isHeat 0 = .ok (.iload_n 0, 1) := by decide +kernel
theorem dX6_isHeat_1 : decode cX6_isHeat 1 = .ok (.ifCond .lt 14, 3) := by decide +kernel
theorem dX6_isHeat_4 : decode cX6_isHeat 4 = .ok (.iload_n 0, 1) := by decide +kernel
theorem dX6_isHeat_5 : decode cX6_isHeat 5 = .ok (.sipush 20000, 3) := by decide +kernel
theorem dX6_isHeat_8 : decode cX6_isHeat 8 = .ok (.if_icmp .gt 7, 3) := by decide +kernel
theorem dX6_isHeat_11 : decode cX6_isHeat 11 = .ok (.iconst 1, 1) := by decide +kernel
theorem dX6_isHeat_12 : decode cX6_isHeat 12 = .ok (.goto 4, 3) := by decide +kernel
theorem dX6_isHeat_15 : decode cX6_isHeat 15 = .ok (.iconst 0, 1) := by decide +kernel
theorem dX6_isHeat_16 : decode cX6_isHeat 16 = .ok (.ireturn, 1) := by decide +kernel
theorem dX6_isDegrees_0 : decode cX6_isDegrees 0 = .ok (.iload_n 0, 1) := by decide +kernel
theorem dX6_isDegrees_1 : decode cX6_isDegrees 1 = .ok (.ifCond .lt 14, 3) := by decide +kernel
theorem dX6_isDegrees_4 : decode cX6_isDegrees 4 = .ok (.iload_n 0, 1) := by decide +kernel
theorem dX6_isDegrees_5 : decode cX6_isDegrees 5 = .ok (.sipush 999, 3) := by decide +kernel
theorem dX6_isDegrees_8 : decode cX6_isDegrees 8 = .ok (.if_icmp .gt 7, 3) := by decide +kernel
theorem dX6_isDegrees_11 : decode cX6_isDegrees 11 = .ok (.iconst 1, 1) := by decide +kernel
theorem dX6_isDegrees_12 : decode cX6_isDegrees 12 = .ok (.goto 4, 3) := by decide +kernel
theorem dX6_isDegrees_15 : decode cX6_isDegrees 15 = .ok (.iconst 0, 1) := by decide +kernel
theorem dX6_isDegrees_16 : decode cX6_isDegrees 16 = .ok (.ireturn, 1) := by decide +kernel
theorem dX6_isKey_0 : decode cX6_isKey 0 = .ok (.iload_n 0, 1) := by decide +kernel
theorem dX6_isKey_1 : decode cX6_isKey 1 = .ok (.ifCond .lt 25, 3) := by decide +kernel
theorem dX6_isKey_4 : decode cX6_isKey 4 = .ok (.iload_n 0, 1) := by decide +kernel
theorem dX6_isKey_5 : decode cX6_isKey 5 = .ok (.bipush 25, 2) := by decide +kernel
theorem dX6_isKey_7 : decode cX6_isKey 7 = .ok (.if_icmp .gt 19, 3) := by decide +kernel
theorem dX6_isKey_10 : decode cX6_isKey 10 = .ok (.iload_n 1, 1) := by decide +kernel
theorem dX6_isKey_11 : decode cX6_isKey 11 = .ok (.bipush (-99), 2) := by decide +kernel
theorem dX6_isKey_13 : decode cX6_isKey 13 = .ok (.if_icmp .lt 13, 3) := by decide +kernel
theorem dX6_isKey_16 : decode cX6_isKey 16 = .ok (.iload_n 1, 1) := by decide +kernel
theorem dX6_isKey_17 : decode cX6_isKey 17 = .ok (.bipush 99, 2) := by decide +kernel
theorem dX6_isKey_19 : decode cX6_isKey 19 = .ok (.if_icmp .gt 7, 3) := by decide +kernel
theorem dX6_isKey_22 : decode cX6_isKey 22 = .ok (.iconst 1, 1) := by decide +kernel
theorem dX6_isKey_23 : decode cX6_isKey 23 = .ok (.goto 4, 3) := by decide +kernel
theorem dX6_isKey_26 : decode cX6_isKey 26 = .ok (.iconst 0, 1) := by decide +kernel
theorem dX6_isKey_27 : decode cX6_isKey 27 = .ok (.ireturn, 1) := by decide +kernel
theorem dX6_at_0 : decode cX6_at 0 = .ok (.aload_n 0, 1) := by decide +kernel
theorem dX6_at_1 : decode cX6_at 1 = .ok (.ifnull 19, 3) := by decide +kernel
theorem dX6_at_4 : decode cX6_at 4 = .ok (.iload_n 1, 1) := by decide +kernel
theorem dX6_at_5 : decode cX6_at 5 = .ok (.ifCond .lt 15, 3) := by decide +kernel
theorem dX6_at_8 : decode cX6_at 8 = .ok (.iload_n 1, 1) := by decide +kernel
theorem dX6_at_9 : decode cX6_at 9 = .ok (.aload_n 0, 1) := by decide +kernel
theorem dX6_at_10 : decode cX6_at 10 = .ok (.arraylength, 1) := by decide +kernel
theorem dX6_at_11 : decode cX6_at 11 = .ok (.if_icmp .ge 9, 3) := by decide +kernel
theorem dX6_at_14 : decode cX6_at 14 = .ok (.aload_n 0, 1) := by decide +kernel
theorem dX6_at_15 : decode cX6_at 15 = .ok (.iload_n 1, 1) := by decide +kernel
theorem dX6_at_16 : decode cX6_at 16 = .ok (.iaload, 1) := by decide +kernel
theorem dX6_at_17 : decode cX6_at 17 = .ok (.goto 4, 3) := by decide +kernel
theorem dX6_at_20 : decode cX6_at 20 = .ok (.iconst 0, 1) := by decide +kernel
theorem dX6_at_21 : decode cX6_at 21 = .ok (.ireturn, 1) := by decide +kernel
theorem dX6_set_0 : decode cX6_set 0 = .ok (.aload_n 0, 1) := by decide +kernel
theorem dX6_set_1 : decode cX6_set 1 = .ok (.ifnull 17, 3) := by decide +kernel
theorem dX6_set_4 : decode cX6_set 4 = .ok (.iload_n 1, 1) := by decide +kernel
theorem dX6_set_5 : decode cX6_set 5 = .ok (.ifCond .lt 13, 3) := by decide +kernel
theorem dX6_set_8 : decode cX6_set 8 = .ok (.iload_n 1, 1) := by decide +kernel
theorem dX6_set_9 : decode cX6_set 9 = .ok (.aload_n 0, 1) := by decide +kernel
theorem dX6_set_10 : decode cX6_set 10 = .ok (.arraylength, 1) := by decide +kernel
theorem dX6_set_11 : decode cX6_set 11 = .ok (.if_icmp .ge 7, 3) := by decide +kernel
theorem dX6_set_14 : decode cX6_set 14 = .ok (.aload_n 0, 1) := by decide +kernel
theorem dX6_set_15 : decode cX6_set 15 = .ok (.iload_n 1, 1) := by decide +kernel
theorem dX6_set_16 : decode cX6_set 16 = .ok (.iload_n 2, 1) := by decide +kernel
theorem dX6_set_17 : decode cX6_set 17 = .ok (.iastore, 1) := by decide +kernel
theorem dX6_set_18 : decode cX6_set 18 = .ok (.return_, 1) := by decide +kernel
theorem dX6_copyRow_0 : decode cX6_copyRow 0 = .ok (.iconst 0, 1) := by decide +kernel
theorem dX6_copyRow_1 : decode cX6_copyRow 1 = .ok (.istore_n 2, 1) := by decide +kernel
theorem dX6_copyRow_2 : decode cX6_copyRow 2 = .ok (.aload_n 1, 1) := by decide +kernel
theorem dX6_copyRow_3 : decode cX6_copyRow 3 = .ok (.ifnull 23, 3) := by decide +kernel
theorem dX6_copyRow_6 : decode cX6_copyRow 6 = .ok (.iload_n 2, 1) := by decide +kernel
theorem dX6_copyRow_7 : decode cX6_copyRow 7 = .ok (.aload_n 1, 1) := by decide +kernel
theorem dX6_copyRow_8 : decode cX6_copyRow 8 = .ok (.arraylength, 1) := by decide +kernel
theorem dX6_copyRow_9 : decode cX6_copyRow 9 = .ok (.if_icmp .ge 17, 3) := by decide +kernel
theorem dX6_copyRow_12 : decode cX6_copyRow 12 = .ok (.aload_n 1, 1) := by decide +kernel
theorem dX6_copyRow_13 : decode cX6_copyRow 13 = .ok (.iload_n 2, 1) := by decide +kernel
theorem dX6_copyRow_14 : decode cX6_copyRow 14 = .ok (.aload_n 0, 1) := by decide +kernel
theorem dX6_copyRow_15 : decode cX6_copyRow 15 = .ok (.iload_n 2, 1) := by decide +kernel
theorem dX6_copyRow_16 : decode cX6_copyRow 16 = .ok (.invokestatic 98, 3) := by decide +kernel
theorem dX6_copyRow_19 : decode cX6_copyRow 19 = .ok (.iastore, 1) := by decide +kernel
theorem dX6_copyRow_20 : decode cX6_copyRow 20 = .ok (.iinc 2 1, 3) := by decide +kernel
theorem dX6_copyRow_23 : decode cX6_copyRow 23 = .ok (.goto (-21), 3) := by decide +kernel
theorem dX6_copyRow_26 : decode cX6_copyRow 26 = .ok (.return_, 1) := by decide +kernel
theorem dX6_total_0 : decode cX6_total 0 = .ok (.iconst 0, 1) := by decide +kernel
theorem dX6_total_1 : decode cX6_total 1 = .ok (.istore_n 2, 1) := by decide +kernel
theorem dX6_total_2 : decode cX6_total 2 = .ok (.iconst 0, 1) := by decide +kernel
theorem dX6_total_3 : decode cX6_total 3 = .ok (.istore_n 3, 1) := by decide +kernel
theorem dX6_total_4 : decode cX6_total 4 = .ok (.iload_n 3, 1) := by decide +kernel
theorem dX6_total_5 : decode cX6_total 5 = .ok (.iload_n 1, 1) := by decide +kernel
theorem dX6_total_6 : decode cX6_total 6 = .ok (.if_icmp .ge 17, 3) := by decide +kernel
theorem dX6_total_9 : decode cX6_total 9 = .ok (.iload_n 2, 1) := by decide +kernel
theorem dX6_total_10 : decode cX6_total 10 = .ok (.aload_n 0, 1) := by decide +kernel
theorem dX6_total_11 : decode cX6_total 11 = .ok (.iload_n 3, 1) := by decide +kernel
theorem dX6_total_12 : decode cX6_total 12 = .ok (.invokestatic 98, 3) := by decide +kernel
theorem dX6_total_15 : decode cX6_total 15 = .ok (.iadd, 1) := by decide +kernel
theorem dX6_total_16 : decode cX6_total 16 = .ok (.istore_n 2, 1) := by decide +kernel
theorem dX6_total_17 : decode cX6_total 17 = .ok (.iinc 3 1, 3) := by decide +kernel
theorem dX6_total_20 : decode cX6_total 20 = .ok (.goto (-16), 3) := by decide +kernel
theorem dX6_total_23 : decode cX6_total 23 = .ok (.iload_n 2, 1) := by decide +kernel
theorem dX6_total_24 : decode cX6_total 24 = .ok (.ireturn, 1) := by decide +kernel
theorem dX6_cut_0 : decode cX6_cut 0 = .ok (.lload_n 2, 1) := by decide +kernel
theorem dX6_cut_1 : decode cX6_cut 1 = .ok (.lconst 0, 1) := by decide +kernel
theorem dX6_cut_2 : decode cX6_cut 2 = .ok (.lcmp, 1) := by decide +kernel
theorem dX6_cut_3 : decode cX6_cut 3 = .ok (.ifCond .ne 7, 3) := by decide +kernel
theorem dX6_cut_6 : decode cX6_cut 6 = .ok (.lconst 0, 1) := by decide +kernel
theorem dX6_cut_7 : decode cX6_cut 7 = .ok (.goto 6, 3) := by decide +kernel
theorem dX6_cut_10 : decode cX6_cut 10 = .ok (.lload_n 0, 1) := by decide +kernel
theorem dX6_cut_11 : decode cX6_cut 11 = .ok (.lload_n 2, 1) := by decide +kernel
theorem dX6_cut_12 : decode cX6_cut 12 = .ok (.ldiv, 1) := by decide +kernel
theorem dX6_cut_13 : decode cX6_cut 13 = .ok (.lreturn, 1) := by decide +kernel
theorem dX6_lowest_0 : decode cX6_lowest 0 = .ok (.iload 4, 2) := by decide +kernel
theorem dX6_lowest_2 : decode cX6_lowest 2 = .ok (.ifCond .ne 7, 3) := by decide +kernel
theorem dX6_lowest_5 : decode cX6_lowest 5 = .ok (.lload_n 0, 1) := by decide +kernel
theorem dX6_lowest_6 : decode cX6_lowest 6 = .ok (.goto 4, 3) := by decide +kernel
theorem dX6_lowest_9 : decode cX6_lowest 9 = .ok (.lload_n 2, 1) := by decide +kernel
theorem dX6_lowest_10 : decode cX6_lowest 10 = .ok (.lload_n 0, 1) := by decide +kernel
theorem dX6_lowest_11 : decode cX6_lowest 11 = .ok (.invokestatic 275, 3) := by decide +kernel
theorem dX6_lowest_14 : decode cX6_lowest 14 = .ok (.lload_n 2, 1) := by decide +kernel
theorem dX6_lowest_15 : decode cX6_lowest 15 = .ok (.invokestatic 281, 3) := by decide +kernel
theorem dX6_lowest_18 : decode cX6_lowest 18 = .ok (.invokestatic 285, 3) := by decide +kernel
theorem dX6_lowest_21 : decode cX6_lowest 21 = .ok (.lreturn, 1) := by decide +kernel
theorem dX6_commonDivisor_0 : decode cX6_commonDivisor 0 = .ok (.lload_n 0, 1) := by decide +kernel
theorem dX6_commonDivisor_1 : decode cX6_commonDivisor 1 = .ok (.lstore 4, 2) := by decide +kernel
theorem dX6_commonDivisor_3 : decode cX6_commonDivisor 3 = .ok (.lload_n 2, 1) := by decide +kernel
theorem dX6_commonDivisor_4 : decode cX6_commonDivisor 4 = .ok (.lstore 6, 2) := by decide +kernel
theorem dX6_commonDivisor_6 : decode cX6_commonDivisor 6 = .ok (.iconst 0, 1) := by decide +kernel
theorem dX6_commonDivisor_7 : decode cX6_commonDivisor 7 = .ok (.istore 8, 2) := by decide +kernel
theorem dX6_commonDivisor_9 : decode cX6_commonDivisor 9 = .ok (.iload 8, 2) := by decide +kernel
theorem dX6_commonDivisor_11 : decode cX6_commonDivisor 11 = .ok (.sipush 200, 3) := by decide +kernel
theorem dX6_commonDivisor_14 : decode cX6_commonDivisor 14 = .ok (.if_icmp .ge 31, 3) := by decide +kernel
theorem dX6_commonDivisor_17 : decode cX6_commonDivisor 17 = .ok (.lload 6, 2) := by decide +kernel
theorem dX6_commonDivisor_19 : decode cX6_commonDivisor 19 = .ok (.lconst 0, 1) := by decide +kernel
theorem dX6_commonDivisor_20 : decode cX6_commonDivisor 20 = .ok (.lcmp, 1) := by decide +kernel
theorem dX6_commonDivisor_21 : decode cX6_commonDivisor 21 = .ok (.ifCond .eq 24, 3) := by decide +kernel
theorem dX6_commonDivisor_24 : decode cX6_commonDivisor 24 = .ok (.lload 4, 2) := by decide +kernel
theorem dX6_commonDivisor_26 : decode cX6_commonDivisor 26 = .ok (.lload 6, 2) := by decide +kernel
theorem dX6_commonDivisor_28 : decode cX6_commonDivisor 28 = .ok (.lrem, 1) := by decide +kernel
theorem dX6_commonDivisor_29 : decode cX6_commonDivisor 29 = .ok (.lstore 9, 2) := by decide +kernel
theorem dX6_commonDivisor_31 : decode cX6_commonDivisor 31 = .ok (.lload 6, 2) := by decide +kernel
theorem dX6_commonDivisor_33 : decode cX6_commonDivisor 33 = .ok (.lstore 4, 2) := by decide +kernel
theorem dX6_commonDivisor_35 : decode cX6_commonDivisor 35 = .ok (.lload 9, 2) := by decide +kernel
theorem dX6_commonDivisor_37 : decode cX6_commonDivisor 37 = .ok (.lstore 6, 2) := by decide +kernel
theorem dX6_commonDivisor_39 : decode cX6_commonDivisor 39 = .ok (.iinc 8 1, 3) := by decide +kernel
theorem dX6_commonDivisor_42 : decode cX6_commonDivisor 42 = .ok (.goto (-33), 3) := by decide +kernel
theorem dX6_commonDivisor_45 : decode cX6_commonDivisor 45 = .ok (.lload 4, 2) := by decide +kernel
theorem dX6_commonDivisor_47 : decode cX6_commonDivisor 47 = .ok (.lreturn, 1) := by decide +kernel
theorem dX6_halfResists_0 : decode cX6_halfResists 0 = .ok (.ldc2_w 288, 3) := by decide +kernel
theorem dX6_halfResists_3 : decode cX6_halfResists 3 = .ok (.iload_n 0, 1) := by decide +kernel
theorem dX6_halfResists_4 : decode cX6_halfResists 4 = .ok (.i2l, 1) := by decide +kernel
theorem dX6_halfResists_5 : decode cX6_halfResists 5 = .ok (.invokestatic 285, 3) := by decide +kernel
theorem dX6_halfResists_8 : decode cX6_halfResists 8 = .ok (.lreturn, 1) := by decide +kernel
abbrev vwCl : List vw_C := [(RX0, TX0, 5), (RX1, TX1, 5), (RX2, TX2, 3), (RX3, TX3, 5), (RX4, TX4, 9), (RX5, TX5, 7), (RX6, TX6, 5), (RX7, TX7, 27)]
