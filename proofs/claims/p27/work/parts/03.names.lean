def RX0 : String := "SkyLoom$Angles"
def TX0 : u_T := fun k => match k with
  | _ => ("", "", "", false)
def tyX0 : Nat → FieldType := fun k => match k with
  | _ => .int
abbrev wsX00 : List Cond := u_ws RX0 TX0 0
theorem nmX0 : ∀ a, a < 0 → ∀ b, b < 0 → a ≠ b → (TX0 a).2.1 ≠ (TX0 b).2.1 := by decide +kernel
theorem tyX0_ok : ∀ k, k < 0 → parseFieldDescriptor (TX0 k).2.2.1 = some (tyX0 k) := by decide +kernel
abbrev cX0_sine : ByteArray := prog_2_method_2_code
def yX0_sine : MethodName := ⟨RX0, "sine", "(I)I"⟩
abbrev cX0_cosine : ByteArray := prog_2_method_3_code
def yX0_cosine : MethodName := ⟨RX0, "cosine", "(I)I"⟩
def RX1 : String := "SkyLoom$Ballot"
def TX1 : u_T := fun k => match k with
  | 0 => ("SkyLoom$Ballot", "choice", "[I", true)
  | 1 => ("SkyLoom$Ballot", "tally", "[I", true)
  | _ => ("SkyLoom$Ballot", "given", "[I", true)
def tyX1 : Nat → FieldType := fun k => match k with
  | 0 => .array .int
  | 1 => .array .int
  | _ => .array .int
abbrev wsX10 : List Cond := u_ws RX1 TX1 3
theorem nmX1 : ∀ a, a < 3 → ∀ b, b < 3 → a ≠ b → (TX1 a).2.1 ≠ (TX1 b).2.1 := by decide +kernel
theorem tyX1_ok : ∀ k, k < 3 → parseFieldDescriptor (TX1 k).2.2.1 = some (tyX1 k) := by decide +kernel
abbrev cX1_init : ByteArray := prog_3_method_1_code
def yX1_init : MethodName := ⟨RX1, "<init>", "()V"⟩
abbrev cX1_replace : ByteArray := prog_3_method_2_code
def yX1_replace : MethodName := ⟨RX1, "replace", "(III)I"⟩
abbrev cX1_count : ByteArray := prog_3_method_3_code
def yX1_count : MethodName := ⟨RX1, "count", "(III)V"⟩
abbrev cX1_giveNames : ByteArray := prog_3_method_4_code
def yX1_giveNames : MethodName := ⟨RX1, "giveNames", "()V"⟩
abbrev cX1_giveName : ByteArray := prog_3_method_5_code
def yX1_giveName : MethodName := ⟨RX1, "giveName", "(III)I"⟩
def RX2 : String := "SkyLoom$Chart"
def TX2 : u_T := fun k => match k with
  | 0 => ("SkyLoom$Chart", "starCount", "I", false)
  | 1 => ("SkyLoom$Chart", "across", "[I", true)
  | _ => ("SkyLoom$Chart", "up", "[I", true)
def tyX2 : Nat → FieldType := fun k => match k with
  | 0 => .int
  | 1 => .array .int
  | _ => .array .int
abbrev wsX20 : List Cond := u_ws RX2 TX2 3
theorem nmX2 : ∀ a, a < 3 → ∀ b, b < 3 → a ≠ b → (TX2 a).2.1 ≠ (TX2 b).2.1 := by decide +kernel
theorem tyX2_ok : ∀ k, k < 3 → parseFieldDescriptor (TX2 k).2.2.1 = some (tyX2 k) := by decide +kernel
abbrev cX2_init : ByteArray := prog_4_method_1_code
def yX2_init : MethodName := ⟨RX2, "<init>", "()V"⟩
abbrev cX2_append : ByteArray := prog_4_method_2_code
def yX2_append : MethodName := ⟨RX2, "append", "(II)I"⟩
abbrev cX2_move : ByteArray := prog_4_method_3_code
def yX2_move : MethodName := ⟨RX2, "move", "(III)V"⟩
abbrev cX2_heightAt : ByteArray := prog_4_method_4_code
def yX2_heightAt : MethodName := ⟨RX2, "heightAt", "(III)I"⟩
abbrev cX2_meet : ByteArray := prog_4_method_5_code
def yX2_meet : MethodName := ⟨RX2, "meet", "(IIII)Z"⟩
abbrev cX2_spansOverlap : ByteArray := prog_4_method_6_code
def yX2_spansOverlap : MethodName := ⟨RX2, "spansOverlap", "(IIII)Z"⟩
abbrev cX2_straddles : ByteArray := prog_4_method_7_code
def yX2_straddles : MethodName := ⟨RX2, "straddles", "(IIII)Z"⟩
abbrev cX2_sideOf : ByteArray := prog_4_method_8_code
def yX2_sideOf : MethodName := ⟨RX2, "sideOf", "(III)I"⟩
def RX3 : String := "SkyLoom$History"
def TX3 : u_T := fun k => match k with
  | 0 => ("SkyLoom$History", "next", "I", false)
  | 1 => ("SkyLoom$History", "kept", "I", false)
  | 2 => ("SkyLoom$History", "kind", "[I", true)
  | 3 => ("SkyLoom$History", "subject", "[I", true)
  | 4 => ("SkyLoom$History", "line", "[I", true)
  | 5 => ("SkyLoom$History", "first", "[I", true)
  | _ => ("SkyLoom$History", "second", "[I", true)
def tyX3 : Nat → FieldType := fun k => match k with
  | 0 => .int
  | 1 => .int
  | 2 => .array .int
  | 3 => .array .int
  | 4 => .array .int
  | 5 => .array .int
  | _ => .array .int
abbrev wsX30 : List Cond := u_ws RX3 TX3 7
theorem nmX3 : ∀ a, a < 7 → ∀ b, b < 7 → a ≠ b → (TX3 a).2.1 ≠ (TX3 b).2.1 := by decide +kernel
theorem tyX3_ok : ∀ k, k < 7 → parseFieldDescriptor (TX3 k).2.2.1 = some (tyX3 k) := by decide +kernel
abbrev cX3_init : ByteArray := prog_5_method_1_code
def yX3_init : MethodName := ⟨RX3, "<init>", "()V"⟩
abbrev cX3_keep : ByteArray := prog_5_method_2_code
def yX3_keep : MethodName := ⟨RX3, "keep", "(IIIII)V"⟩
abbrev cX3_stepBack : ByteArray := prog_5_method_3_code
def yX3_stepBack : MethodName := ⟨RX3, "stepBack", "()V"⟩
def RX4 : String := "SkyLoom$Programme"
def TX4 : u_T := fun k => match k with
  | 0 => ("SkyLoom$Programme", "showCount", "I", false)
  | 1 => ("SkyLoom$Programme", "figure", "[I", true)
  | 2 => ("SkyLoom$Programme", "name", "[I", true)
  | 3 => ("SkyLoom$Programme", "latitude", "[I", true)
  | _ => ("SkyLoom$Programme", "skyTurn", "[I", true)
def tyX4 : Nat → FieldType := fun k => match k with
  | 0 => .int
  | 1 => .array .int
  | 2 => .array .int
  | 3 => .array .int
  | _ => .array .int
abbrev wsX40 : List Cond := u_ws RX4 TX4 5
theorem nmX4 : ∀ a, a < 5 → ∀ b, b < 5 → a ≠ b → (TX4 a).2.1 ≠ (TX4 b).2.1 := by decide +kernel
theorem tyX4_ok : ∀ k, k < 5 → parseFieldDescriptor (TX4 k).2.2.1 = some (tyX4 k) := by decide +kernel
abbrev cX4_init : ByteArray := prog_6_method_1_code
def yX4_init : MethodName := ⟨RX4, "<init>", "()V"⟩
abbrev cX4_append : ByteArray := prog_6_method_2_code
def yX4_append : MethodName := ⟨RX4, "append", "(IIII)I"⟩
def RX5 : String := "SkyLoom$Web"
def TX5 : u_T := fun k => match k with
  | 0 => ("SkyLoom$Web", "figureCount", "I", false)
  | 1 => ("SkyLoom$Web", "lineCount", "[I", true)
  | 2 => ("SkyLoom$Web", "ends", "[I", true)
  | _ => ("SkyLoom$Web", "otherEnds", "[I", true)
def tyX5 : Nat → FieldType := fun k => match k with
  | 0 => .int
  | 1 => .array .int
  | 2 => .array .int
  | _ => .array .int
abbrev wsX50 : List Cond := u_ws RX5 TX5 4
theorem nmX5 : ∀ a, a < 4 → ∀ b, b < 4 → a ≠ b → (TX5 a).2.1 ≠ (TX5 b).2.1 := by decide +kernel
theorem tyX5_ok : ∀ k, k < 4 → parseFieldDescriptor (TX5 k).2.2.1 = some (tyX5 k) := by decide +kernel
abbrev cX5_init : ByteArray := prog_7_method_1_code
def yX5_init : MethodName := ⟨RX5, "<init>", "()V"⟩
abbrev cX5_place : ByteArray := prog_7_method_2_code
def yX5_place : MethodName := ⟨RX5, "place", "(II)I"⟩
abbrev cX5_appendFigure : ByteArray := prog_7_method_3_code
def yX5_appendFigure : MethodName := ⟨RX5, "appendFigure", "()I"⟩
abbrev cX5_joins : ByteArray := prog_7_method_4_code
def yX5_joins : MethodName := ⟨RX5, "joins", "(III)Z"⟩
abbrev cX5_ownerOf : ByteArray := prog_7_method_5_code
def yX5_ownerOf : MethodName := ⟨RX5, "ownerOf", "(I)I"⟩
abbrev cX5_isOfAnother : ByteArray := prog_7_method_6_code
def yX5_isOfAnother : MethodName := ⟨RX5, "isOfAnother", "(II)Z"⟩
abbrev cX5_insert : ByteArray := prog_7_method_7_code
def yX5_insert : MethodName := ⟨RX5, "insert", "(IIII)V"⟩
abbrev cX5_remove : ByteArray := prog_7_method_8_code
def yX5_remove : MethodName := ⟨RX5, "remove", "(II)V"⟩
abbrev cX5_hasStar : ByteArray := prog_7_method_9_code
def yX5_hasStar : MethodName := ⟨RX5, "hasStar", "(II)Z"⟩
def RX6 : String := "SkyLoom"
def TX6 : u_T := fun k => match k with
  | 0 => ("SkyLoom", "chart", "LSkyLoom$Chart;", true)
  | 1 => ("SkyLoom", "web", "LSkyLoom$Web;", true)
  | 2 => ("SkyLoom", "ballot", "LSkyLoom$Ballot;", true)
  | 3 => ("SkyLoom", "programme", "LSkyLoom$Programme;", true)
  | _ => ("SkyLoom", "history", "LSkyLoom$History;", true)
def tyX6 : Nat → FieldType := fun k => match k with
  | 0 => .object "SkyLoom$Chart"
  | 1 => .object "SkyLoom$Web"
  | 2 => .object "SkyLoom$Ballot"
  | 3 => .object "SkyLoom$Programme"
  | _ => .object "SkyLoom$History"
abbrev wsX60 : List Cond := u_ws RX6 TX6 5
theorem nmX6 : ∀ a, a < 5 → ∀ b, b < 5 → a ≠ b → (TX6 a).2.1 ≠ (TX6 b).2.1 := by decide +kernel
theorem tyX6_ok : ∀ k, k < 5 → parseFieldDescriptor (TX6 k).2.2.1 = some (tyX6 k) := by decide +kernel
abbrev cX6_init : ByteArray := prog_1_method_1_code
def yX6_init : MethodName := ⟨RX6, "<init>", "()V"⟩
abbrev cX6_addStar : ByteArray := prog_1_method_2_code
def yX6_addStar : MethodName := ⟨RX6, "addStar", "(II)I"⟩
abbrev cX6_correct : ByteArray := prog_1_method_3_code
def yX6_correct : MethodName := ⟨RX6, "correct", "(III)I"⟩
abbrev cX6_addFigure : ByteArray := prog_1_method_4_code
def yX6_addFigure : MethodName := ⟨RX6, "addFigure", "()I"⟩
abbrev cX6_draw : ByteArray := prog_1_method_5_code
def yX6_draw : MethodName := ⟨RX6, "draw", "(III)I"⟩
abbrev cX6_erase : ByteArray := prog_1_method_6_code
def yX6_erase : MethodName := ⟨RX6, "erase", "(II)I"⟩
abbrev cX6_undo : ByteArray := prog_1_method_7_code
def yX6_undo : MethodName := ⟨RX6, "undo", "()I"⟩
abbrev cX6_stars : ByteArray := prog_1_method_8_code
def yX6_stars : MethodName := ⟨RX6, "stars", "()I"⟩
abbrev cX6_figures : ByteArray := prog_1_method_9_code
def yX6_figures : MethodName := ⟨RX6, "figures", "()I"⟩
abbrev cX6_lines : ByteArray := prog_1_method_10_code
def yX6_lines : MethodName := ⟨RX6, "lines", "(I)I"⟩
abbrev cX6_placeOf : ByteArray := prog_1_method_11_code
def yX6_placeOf : MethodName := ⟨RX6, "placeOf", "(I)I"⟩
abbrev cX6_figureOf : ByteArray := prog_1_method_12_code
def yX6_figureOf : MethodName := ⟨RX6, "figureOf", "(I)I"⟩
abbrev cX6_crossings : ByteArray := prog_1_method_13_code
def yX6_crossings : MethodName := ⟨RX6, "crossings", "(II)I"⟩
abbrev cX6_vote : ByteArray := prog_1_method_14_code
def yX6_vote : MethodName := ⟨RX6, "vote", "(III)I"⟩
abbrev cX6_votes : ByteArray := prog_1_method_15_code
def yX6_votes : MethodName := ⟨RX6, "votes", "(II)I"⟩
abbrev cX6_nameOf : ByteArray := prog_1_method_16_code
def yX6_nameOf : MethodName := ⟨RX6, "nameOf", "(I)I"⟩
abbrev cX6_height : ByteArray := prog_1_method_17_code
def yX6_height : MethodName := ⟨RX6, "height", "(IIII)I"⟩
abbrev cX6_isUp : ByteArray := prog_1_method_18_code
def yX6_isUp : MethodName := ⟨RX6, "isUp", "(IIII)Z"⟩
abbrev cX6_hours : ByteArray := prog_1_method_19_code
def yX6_hours : MethodName := ⟨RX6, "hours", "(III)I"⟩
abbrev cX6_hoursByStars : ByteArray := prog_1_method_20_code
def yX6_hoursByStars : MethodName := ⟨RX6, "hoursByStars", "(III)I"⟩
abbrev cX6_bestHour : ByteArray := prog_1_method_21_code
def yX6_bestHour : MethodName := ⟨RX6, "bestHour", "(III)I"⟩
abbrev cX6_plan : ByteArray := prog_1_method_23_code
def yX6_plan : MethodName := ⟨RX6, "plan", "(IIII)I"⟩
abbrev cX6_isWrong : ByteArray := prog_1_method_24_code
def yX6_isWrong : MethodName := ⟨RX6, "isWrong", "(I)Z"⟩
abbrev cX6_wrong : ByteArray := prog_1_method_25_code
def yX6_wrong : MethodName := ⟨RX6, "wrong", "()I"⟩
abbrev cX6_needStar : ByteArray := prog_1_method_26_code
def yX6_needStar : MethodName := ⟨RX6, "needStar", "(I)V"⟩
abbrev cX6_needFigure : ByteArray := prog_1_method_27_code
def yX6_needFigure : MethodName := ⟨RX6, "needFigure", "(I)V"⟩
abbrev cX6_needPlace : ByteArray := prog_1_method_28_code
def yX6_needPlace : MethodName := ⟨RX6, "needPlace", "(II)V"⟩
abbrev cX6_needName : ByteArray := prog_1_method_29_code
def yX6_needName : MethodName := ⟨RX6, "needName", "(I)V"⟩
abbrev cX6_needLatitude : ByteArray := prog_1_method_30_code
def yX6_needLatitude : MethodName := ⟨RX6, "needLatitude", "(I)V"⟩
abbrev cX6_needDay : ByteArray := prog_1_method_31_code
def yX6_needDay : MethodName := ⟨RX6, "needDay", "(I)V"⟩
abbrev cX6_needHour : ByteArray := prog_1_method_32_code
def yX6_needHour : MethodName := ⟨RX6, "needHour", "(I)V"⟩
abbrev cX6_takeBack : ByteArray := prog_1_method_33_code
def yX6_takeBack : MethodName := ⟨RX6, "takeBack", "(I)V"⟩
abbrev cX6_linesCross : ByteArray := prog_1_method_34_code
def yX6_linesCross : MethodName := ⟨RX6, "linesCross", "(II)Z"⟩
abbrev cX6_skyTurn : ByteArray := prog_1_method_35_code
def yX6_skyTurn : MethodName := ⟨RX6, "skyTurn", "(II)I"⟩
abbrev cX6_figureIsUp : ByteArray := prog_1_method_36_code
def yX6_figureIsUp : MethodName := ⟨RX6, "figureIsUp", "(III)Z"⟩
abbrev cX6_lowestHeight : ByteArray := prog_1_method_37_code
def yX6_lowestHeight : MethodName := ⟨RX6, "lowestHeight", "(III)I"⟩
abbrev cX6_hoursOfStar : ByteArray := prog_1_method_38_code
def yX6_hoursOfStar : MethodName := ⟨RX6, "hoursOfStar", "(III)I"⟩
abbrev cX6_showIsWrong : ByteArray := prog_1_method_39_code
def yX6_showIsWrong : MethodName := ⟨RX6, "showIsWrong", "(I)Z"⟩
abbrev cX6_countWrongShows : ByteArray := prog_1_method_40_code
def yX6_countWrongShows : MethodName := ⟨RX6, "countWrongShows", "()I"⟩
def RX7 : String := "SkyLoomModel"
def TX7 : u_T := fun k => match k with
  | _ => ("", "", "", false)
def tyX7 : Nat → FieldType := fun k => match k with
  | _ => .int
abbrev wsX70 : List Cond := u_ws RX7 TX7 0
theorem nmX7 : ∀ a, a < 0 → ∀ b, b < 0 → a ≠ b → (TX7 a).2.1 ≠ (TX7 b).2.1 := by decide +kernel
theorem tyX7_ok : ∀ k, k < 0 → parseFieldDescriptor (TX7 k).2.2.1 = some (tyX7 k) := by decide +kernel
def RJx145de : String := "java/io/Serializable"
def TJx145de : u_T := fun k => match k with
  | _ => ("", "", "", false)
def tyJx145de : Nat → FieldType := fun k => match k with
  | _ => .int
abbrev wsJx145de0 : List Cond := u_ws RJx145de TJx145de 0
theorem nmJx145de : ∀ a, a < 0 → ∀ b, b < 0 → a ≠ b → (TJx145de a).2.1 ≠ (TJx145de b).2.1 := by decide +kernel
theorem tyJx145de_ok : ∀ k, k < 0 → parseFieldDescriptor (TJx145de k).2.2.1 = some (tyJx145de k) := by decide +kernel
def RJ6 : String := "java/lang/Integer"
def TJ6 : u_T := fun k => match k with
  | _ => ("", "", "", false)
def tyJ6 : Nat → FieldType := fun k => match k with
  | _ => .int
abbrev wsJ60 : List Cond := u_ws RJ6 TJ6 0
theorem nmJ6 : ∀ a, a < 0 → ∀ b, b < 0 → a ≠ b → (TJ6 a).2.1 ≠ (TJ6 b).2.1 := by decide +kernel
theorem tyJ6_ok : ∀ k, k < 0 → parseFieldDescriptor (TJ6 k).2.2.1 = some (tyJ6 k) := by decide +kernel
abbrev cJ6_compare_7cf53 : ByteArray := prog_14_method_40_code
def yJ6_compare_7cf53 : MethodName := ⟨RJ6, "compare", "(II)I"⟩
def RJ9 : String := "java/lang/Math"
def TJ9 : u_T := fun k => match k with
  | _ => ("", "", "", false)
def tyJ9 : Nat → FieldType := fun k => match k with
  | _ => .int
abbrev wsJ90 : List Cond := u_ws RJ9 TJ9 0
theorem nmJ9 : ∀ a, a < 0 → ∀ b, b < 0 → a ≠ b → (TJ9 a).2.1 ≠ (TJ9 b).2.1 := by decide +kernel
theorem tyJ9_ok : ∀ k, k < 0 → parseFieldDescriptor (TJ9 k).2.2.1 = some (tyJ9 k) := by decide +kernel
abbrev cJ9_floorDiv_7cf53 : ByteArray := prog_15_method_47_code
def yJ9_floorDiv_7cf53 : MethodName := ⟨RJ9, "floorDiv", "(II)I"⟩
abbrev cJ9_floorMod_7cf53 : ByteArray := prog_15_method_50_code
def yJ9_floorMod_7cf53 : MethodName := ⟨RJ9, "floorMod", "(II)I"⟩
abbrev cJ9_max_7cf53 : ByteArray := prog_15_method_65_code
def yJ9_max_7cf53 : MethodName := ⟨RJ9, "max", "(II)I"⟩
abbrev cJ9_min_7cf53 : ByteArray := prog_15_method_69_code
def yJ9_min_7cf53 : MethodName := ⟨RJ9, "min", "(II)I"⟩
def RJ0 : String := "java/lang/String"
def TJ0 : u_T := fun k => match k with
  | _ => ("", "", "", false)
def tyJ0 : Nat → FieldType := fun k => match k with
  | _ => .int
abbrev wsJ00 : List Cond := u_ws RJ0 TJ0 0
theorem nmJ0 : ∀ a, a < 0 → ∀ b, b < 0 → a ≠ b → (TJ0 a).2.1 ≠ (TJ0 b).2.1 := by decide +kernel
theorem tyJ0_ok : ∀ k, k < 0 → parseFieldDescriptor (TJ0 k).2.2.1 = some (tyJ0 k) := by decide +kernel
def RJ7 : String := "java/util/Arrays"
def TJ7 : u_T := fun k => match k with
  | _ => ("", "", "", false)
def tyJ7 : Nat → FieldType := fun k => match k with
  | _ => .int
abbrev wsJ70 : List Cond := u_ws RJ7 TJ7 0
theorem nmJ7 : ∀ a, a < 0 → ∀ b, b < 0 → a ≠ b → (TJ7 a).2.1 ≠ (TJ7 b).2.1 := by decide +kernel
theorem tyJ7_ok : ∀ k, k < 0 → parseFieldDescriptor (TJ7 k).2.2.1 = some (tyJ7 k) := by decide +kernel
abbrev cJ7_fill_53178 : ByteArray := prog_19_method_103_code
def yJ7_fill_53178 : MethodName := ⟨RJ7, "fill", "([II)V"⟩
def RL : String := "SkyLoomLaw"
abbrev cL_draws : ByteArray := method_2_code
def yL_draws : MethodName := ⟨RL, "draws", "(LSkyLoom;III)I"⟩
abbrev cL_undoes : ByteArray := method_3_code
def yL_undoes : MethodName := ⟨RL, "undoes", "(LSkyLoom;)I"⟩
abbrev cL_plans : ByteArray := method_4_code
def yL_plans : MethodName := ⟨RL, "plans", "(LSkyLoom;IIII)I"⟩
abbrev cL_print : ByteArray := method_5_code
def yL_print : MethodName := ⟨RL, "print", "(LSkyLoom;)J"⟩
abbrev cL_areNames : ByteArray := method_6_code
def yL_areNames : MethodName := ⟨RL, "areNames", "(LSkyLoom;)Z"⟩
abbrev cL_areHours : ByteArray := method_7_code
def yL_areHours : MethodName := ⟨RL, "areHours", "(LSkyLoom;IIII)Z"⟩
abbrev cL_law : ByteArray := code
def yL_law : MethodName := ⟨RL, "law", "([I)Z"⟩
abbrev vwCl : List vw_C := [(RX1, TX1, 3), (RX2, TX2, 3), (RX3, TX3, 7), (RX4, TX4, 5), (RX5, TX5, 4), (RX6, TX6, 5)]
