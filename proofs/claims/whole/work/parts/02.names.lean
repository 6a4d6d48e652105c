/-! Names: classes, fields, methods; words by their places. Printed by names.py (own work), out of the listing and the tables. -/
def R_ClusterTool : String := "ClusterTool"
def R_Ways : String := "ClusterTool$Ways"
def R_Emptying : String := "ClusterTool$Emptying"
def R_Robot : String := "ClusterTool$Robot"
def R_Route : String := "ClusterTool$Route"
def R_Wafer : String := "ClusterTool$Wafer"
def R_Model : String := "ClusterToolModel"
def R_Situation : String := "ClusterTool$Situation"
def R_Arrays : String := "java/util/Arrays"
def F_ClusterTool : u_T := fun k => match k with
  | 0 => ("ClusterTool", "ways", "LClusterTool$Ways;", true)
  | 1 => ("ClusterTool", "emptying", "LClusterTool$Emptying;", true)
  | 2 => ("ClusterTool", "front", "LClusterTool$Robot;", true)
  | 3 => ("ClusterTool", "back", "LClusterTool$Robot;", true)
  | 4 => ("ClusterTool", "wafers", "[LClusterTool$Wafer;", true)
  | 5 => ("ClusterTool", "inside", "[I", true)
  | 6 => ("ClusterTool", "loaded", "I", false)
  | _ => ("ClusterTool", "clock", "I", false)
def t_ClusterTool : Nat → FieldType := fun k => match k with
  | 0 => .object "ClusterTool$Ways"
  | 1 => .object "ClusterTool$Emptying"
  | 2 => .object "ClusterTool$Robot"
  | 3 => .object "ClusterTool$Robot"
  | 4 => .array (.object "ClusterTool$Wafer")
  | 5 => .array .int
  | 6 => .int
  | _ => .int
theorem n_ClusterTool : ∀ a, a < 8 → ∀ b, b < 8 → a ≠ b → (F_ClusterTool a).2.1 ≠ (F_ClusterTool b).2.1 := by decide +kernel
theorem t_ClusterTool_ok : ∀ k, k < 8 → parseFieldDescriptor (F_ClusterTool k).2.2.1 = some (t_ClusterTool k) := by decide +kernel
def F_Ways : u_T := fun k => match k with
  | 0 => ("ClusterTool$Ways", "routes", "[LClusterTool$Route;", true)
  | _ => ("ClusterTool$Ways", "downs", "I", false)
def t_Ways : Nat → FieldType := fun k => match k with
  | 0 => .array (.object "ClusterTool$Route")
  | _ => .int
theorem n_Ways : ∀ a, a < 2 → ∀ b, b < 2 → a ≠ b → (F_Ways a).2.1 ≠ (F_Ways b).2.1 := by decide +kernel
theorem t_Ways_ok : ∀ k, k < 2 → parseFieldDescriptor (F_Ways k).2.2.1 = some (t_Ways k) := by decide +kernel
def F_Emptying : u_T := fun k => match k with
  | 0 => ("ClusterTool$Emptying", "known", "[J", true)
  | _ => ("ClusterTool$Emptying", "possible", "[J", true)
def t_Emptying : Nat → FieldType := fun k => match k with
  | 0 => .array .long
  | _ => .array .long
theorem n_Emptying : ∀ a, a < 2 → ∀ b, b < 2 → a ≠ b → (F_Emptying a).2.1 ≠ (F_Emptying b).2.1 := by decide +kernel
theorem t_Emptying_ok : ∀ k, k < 2 → parseFieldDescriptor (F_Emptying k).2.2.1 = some (t_Emptying k) := by decide +kernel
def F_Robot : u_T := fun k => match k with
  | 0 => ("ClusterTool$Robot", "busy", "Z", false)
  | _ => ("ClusterTool$Robot", "moves", "I", false)
def t_Robot : Nat → FieldType := fun k => match k with
  | 0 => .boolean
  | _ => .int
theorem n_Robot : ∀ a, a < 2 → ∀ b, b < 2 → a ≠ b → (F_Robot a).2.1 ≠ (F_Robot b).2.1 := by decide +kernel
theorem t_Robot_ok : ∀ k, k < 2 → parseFieldDescriptor (F_Robot k).2.2.1 = some (t_Robot k) := by decide +kernel
def F_Route : u_T := fun k => match k with
  | 0 => ("ClusterTool$Route", "masks", "[I", true)
  | 1 => ("ClusterTool$Route", "times", "[I", true)
  | 2 => ("ClusterTool$Route", "limits", "[I", true)
  | _ => ("ClusterTool$Route", "length", "I", false)
def t_Route : Nat → FieldType := fun k => match k with
  | 0 => .array .int
  | 1 => .array .int
  | 2 => .array .int
  | _ => .int
theorem n_Route : ∀ a, a < 4 → ∀ b, b < 4 → a ≠ b → (F_Route a).2.1 ≠ (F_Route b).2.1 := by decide +kernel
theorem t_Route_ok : ∀ k, k < 4 → parseFieldDescriptor (F_Route k).2.2.1 = some (t_Route k) := by decide +kernel
def F_Wafer : u_T := fun k => match k with
  | 0 => ("ClusterTool$Wafer", "route", "I", true)
  | 1 => ("ClusterTool$Wafer", "chambers", "[I", true)
  | 2 => ("ClusterTool$Wafer", "begins", "[I", true)
  | 3 => ("ClusterTool$Wafer", "ends", "[I", true)
  | 4 => ("ClusterTool$Wafer", "place", "I", false)
  | 5 => ("ClusterTool$Wafer", "stage", "I", false)
  | 6 => ("ClusterTool$Wafer", "left", "I", false)
  | 7 => ("ClusterTool$Wafer", "waited", "I", false)
  | 8 => ("ClusterTool$Wafer", "finished", "Z", false)
  | _ => ("ClusterTool$Wafer", "late", "Z", false)
def t_Wafer : Nat → FieldType := fun k => match k with
  | 0 => .int
  | 1 => .array .int
  | 2 => .array .int
  | 3 => .array .int
  | 4 => .int
  | 5 => .int
  | 6 => .int
  | 7 => .int
  | 8 => .boolean
  | _ => .boolean
theorem n_Wafer : ∀ a, a < 10 → ∀ b, b < 10 → a ≠ b → (F_Wafer a).2.1 ≠ (F_Wafer b).2.1 := by decide +kernel
theorem t_Wafer_ok : ∀ k, k < 10 → parseFieldDescriptor (F_Wafer k).2.2.1 = some (t_Wafer k) := by decide +kernel
def F_Model : u_T := fun k => match k with
  | 0 => ("ClusterToolModel", "visits", "[I", true)
  | 1 => ("ClusterToolModel", "masks", "[I", true)
  | 2 => ("ClusterToolModel", "times", "[I", true)
  | 3 => ("ClusterToolModel", "limits", "[I", true)
  | 4 => ("ClusterToolModel", "wafers", "I", false)
  | 5 => ("ClusterToolModel", "routes", "[I", true)
  | 6 => ("ClusterToolModel", "stages", "[I", true)
  | 7 => ("ClusterToolModel", "places", "[I", true)
  | 8 => ("ClusterToolModel", "lefts", "[I", true)
  | 9 => ("ClusterToolModel", "since", "[I", true)
  | 10 => ("ClusterToolModel", "late", "[Z", true)
  | 11 => ("ClusterToolModel", "chambers", "[I", true)
  | 12 => ("ClusterToolModel", "begun", "[I", true)
  | 13 => ("ClusterToolModel", "over", "[I", true)
  | 14 => ("ClusterToolModel", "downs", "[Z", true)
  | 15 => ("ClusterToolModel", "clock", "I", false)
  | 16 => ("ClusterToolModel", "frontMoved", "Z", false)
  | 17 => ("ClusterToolModel", "backMoved", "Z", false)
  | 18 => ("ClusterToolModel", "frontMoves", "I", false)
  | 19 => ("ClusterToolModel", "backMoves", "I", false)
  | 20 => ("ClusterToolModel", "known", "[I", true)
  | 21 => ("ClusterToolModel", "stale", "Z", false)
  | 22 => ("ClusterToolModel", "trail", "[I", true)
  | _ => ("ClusterToolModel", "turn", "[I", true)
def t_Model : Nat → FieldType := fun k => match k with
  | 0 => .array .int
  | 1 => .array .int
  | 2 => .array .int
  | 3 => .array .int
  | 4 => .int
  | 5 => .array .int
  | 6 => .array .int
  | 7 => .array .int
  | 8 => .array .int
  | 9 => .array .int
  | 10 => .array .boolean
  | 11 => .array .int
  | 12 => .array .int
  | 13 => .array .int
  | 14 => .array .boolean
  | 15 => .int
  | 16 => .boolean
  | 17 => .boolean
  | 18 => .int
  | 19 => .int
  | 20 => .array .int
  | 21 => .boolean
  | 22 => .array .int
  | _ => .array .int
theorem n_Model : ∀ a, a < 24 → ∀ b, b < 24 → a ≠ b → (F_Model a).2.1 ≠ (F_Model b).2.1 := by decide +kernel
theorem t_Model_ok : ∀ k, k < 24 → parseFieldDescriptor (F_Model k).2.2.1 = some (t_Model k) := by decide +kernel
abbrev classes : List vw_C := [(R_ClusterTool, F_ClusterTool, 8), (R_Ways, F_Ways, 2), (R_Emptying, F_Emptying, 2), (R_Robot, F_Robot, 2), (R_Route, F_Route, 4), (R_Wafer, F_Wafer, 10), (R_Model, F_Model, 24)]
abbrev b_T_init : ByteArray := prog_1_method_1_code
def y_T_init : MethodName := ⟨R_ClusterTool, "<init>", "()V"⟩
abbrev b_T_carry : ByteArray := prog_1_method_26_code
def y_T_carry : MethodName := ⟨R_ClusterTool, "carry", "(II)V"⟩
abbrev b_T_count : ByteArray := prog_1_method_18_code
def y_T_count : MethodName := ⟨R_ClusterTool, "count", "(I)I"⟩
abbrev b_T_countFinished : ByteArray := prog_1_method_28_code
def y_T_countFinished : MethodName := ⟨R_ClusterTool, "countFinished", "()I"⟩
abbrev b_T_countLate : ByteArray := prog_1_method_29_code
def y_T_countLate : MethodName := ⟨R_ClusterTool, "countLate", "()I"⟩
abbrev b_T_down : ByteArray := prog_1_method_9_code
def y_T_down : MethodName := ⟨R_ClusterTool, "down", "(IZ)Z"⟩
abbrev b_T_go : ByteArray := prog_1_method_7_code
def y_T_go : MethodName := ⟨R_ClusterTool, "go", "()I"⟩
abbrev b_T_in : ByteArray := prog_1_method_11_code
def y_T_in : MethodName := ⟨R_ClusterTool, "in", "(I)I"⟩
abbrev b_T_isTaken : ByteArray := prog_1_method_22_code
def y_T_isTaken : MethodName := ⟨R_ClusterTool, "isTaken", "(LClusterTool$Wafer;I)Z"⟩
abbrev b_T_isWithin : ByteArray := prog_1_method_19_code
def y_T_isWithin : MethodName := ⟨R_ClusterTool, "isWithin", "(III)Z"⟩
abbrev b_T_left : ByteArray := prog_1_method_16_code
def y_T_left : MethodName := ⟨R_ClusterTool, "left", "(I)I"⟩
abbrev b_T_limitOf : ByteArray := prog_1_method_21_code
def y_T_limitOf : MethodName := ⟨R_ClusterTool, "limitOf", "(LClusterTool$Wafer;)I"⟩
abbrev b_T_load : ByteArray := prog_1_method_3_code
def y_T_load : MethodName := ⟨R_ClusterTool, "load", "(I)I"⟩
abbrev b_T_may : ByteArray := prog_1_method_4_code
def y_T_may : MethodName := ⟨R_ClusterTool, "may", "(II)I"⟩
abbrev b_T_move : ByteArray := prog_1_method_5_code
def y_T_move : MethodName := ⟨R_ClusterTool, "move", "(II)I"⟩
abbrev b_T_next : ByteArray := prog_1_method_6_code
def y_T_next : MethodName := ⟨R_ClusterTool, "next", "()I"⟩
abbrev b_T_place : ByteArray := prog_1_method_12_code
def y_T_place : MethodName := ⟨R_ClusterTool, "place", "(I)I"⟩
abbrev b_T_rankOf : ByteArray := prog_1_method_27_code
def y_T_rankOf : MethodName := ⟨R_ClusterTool, "rankOf", "(I)I"⟩
abbrev b_T_robotFor : ByteArray := prog_1_method_25_code
def y_T_robotFor : MethodName := ⟨R_ClusterTool, "robotFor", "(II)LClusterTool$Robot;"⟩
abbrev b_T_safe : ByteArray := prog_1_method_10_code
def y_T_safe : MethodName := ⟨R_ClusterTool, "safe", "()Z"⟩
abbrev b_T_situation : ByteArray := prog_1_method_23_code
def y_T_situation : MethodName := ⟨R_ClusterTool, "situation", "()I"⟩
abbrev b_T_situationAfter : ByteArray := prog_1_method_24_code
def y_T_situationAfter : MethodName := ⟨R_ClusterTool, "situationAfter", "(LClusterTool$Wafer;I)I"⟩
abbrev b_T_stage : ByteArray := prog_1_method_13_code
def y_T_stage : MethodName := ⟨R_ClusterTool, "stage", "(I)I"⟩
abbrev b_T_stay : ByteArray := prog_1_method_17_code
def y_T_stay : MethodName := ⟨R_ClusterTool, "stay", "(I)I"⟩
abbrev b_T_tick : ByteArray := prog_1_method_8_code
def y_T_tick : MethodName := ⟨R_ClusterTool, "tick", "(I)I"⟩
abbrev b_T_visit : ByteArray := prog_1_method_2_code
def y_T_visit : MethodName := ⟨R_ClusterTool, "visit", "(IIII)I"⟩
abbrev b_T_visited : ByteArray := prog_1_method_14_code
def y_T_visited : MethodName := ⟨R_ClusterTool, "visited", "(II)I"⟩
abbrev b_T_waferOf : ByteArray := prog_1_method_20_code
def y_T_waferOf : MethodName := ⟨R_ClusterTool, "waferOf", "(I)LClusterTool$Wafer;"⟩
abbrev b_T_when : ByteArray := prog_1_method_15_code
def y_T_when : MethodName := ⟨R_ClusterTool, "when", "(IIZ)I"⟩
abbrev b_E_init : ByteArray := prog_2_method_1_code
def y_E_init : MethodName := ⟨R_Emptying, "<init>", "()V"⟩
abbrev b_E_forget : ByteArray := prog_2_method_2_code
def y_E_forget : MethodName := ⟨R_Emptying, "forget", "()V"⟩
abbrev b_E_search : ByteArray := prog_2_method_3_code
def y_E_search : MethodName := ⟨R_Emptying, "search", "(LClusterTool$Ways;II)Z"⟩
abbrev b_E_searchMoves : ByteArray := prog_2_method_4_code
def y_E_searchMoves : MethodName := ⟨R_Emptying, "searchMoves", "(LClusterTool$Ways;II)Z"⟩
abbrev b_B_init : ByteArray := prog_3_method_1_code
def y_B_init : MethodName := ⟨R_Robot, "<init>", "()V"⟩
abbrev b_U_init : ByteArray := prog_4_method_1_code
def y_U_init : MethodName := ⟨R_Route, "<init>", "()V"⟩
abbrev b_U_append : ByteArray := prog_4_method_2_code
def y_U_append : MethodName := ⟨R_Route, "append", "(III)V"⟩
abbrev b_U_has : ByteArray := prog_4_method_6_code
def y_U_has : MethodName := ⟨R_Route, "has", "(I)Z"⟩
abbrev b_U_limitAt : ByteArray := prog_4_method_5_code
def y_U_limitAt : MethodName := ⟨R_Route, "limitAt", "(I)I"⟩
abbrev b_U_maskAt : ByteArray := prog_4_method_3_code
def y_U_maskAt : MethodName := ⟨R_Route, "maskAt", "(I)I"⟩
abbrev b_U_timeAt : ByteArray := prog_4_method_4_code
def y_U_timeAt : MethodName := ⟨R_Route, "timeAt", "(I)I"⟩
abbrev b_S_after : ByteArray := prog_5_method_6_code
def y_S_after : MethodName := ⟨R_Situation, "after", "(IIIII)I"⟩
abbrev b_S_isFree : ByteArray := prog_5_method_7_code
def y_S_isFree : MethodName := ⟨R_Situation, "isFree", "(III)Z"⟩
abbrev b_S_markAt : ByteArray := prog_5_method_3_code
def y_S_markAt : MethodName := ⟨R_Situation, "markAt", "(II)I"⟩
abbrev b_S_routeIn : ByteArray := prog_5_method_4_code
def y_S_routeIn : MethodName := ⟨R_Situation, "routeIn", "(I)I"⟩
abbrev b_S_stageIn : ByteArray := prog_5_method_5_code
def y_S_stageIn : MethodName := ⟨R_Situation, "stageIn", "(I)I"⟩
abbrev b_S_with : ByteArray := prog_5_method_2_code
def y_S_with : MethodName := ⟨R_Situation, "with", "(IIII)I"⟩
abbrev b_W_init : ByteArray := prog_6_method_1_code
def y_W_init : MethodName := ⟨R_Wafer, "<init>", "(IZ)V"⟩
abbrev b_W_arrive : ByteArray := prog_6_method_3_code
def y_W_arrive : MethodName := ⟨R_Wafer, "arrive", "(I)V"⟩
abbrev b_W_begin : ByteArray := prog_6_method_4_code
def y_W_begin : MethodName := ⟨R_Wafer, "begin", "(II)V"⟩
abbrev b_W_hasBegun : ByteArray := prog_6_method_2_code
def y_W_hasBegun : MethodName := ⟨R_Wafer, "hasBegun", "(I)Z"⟩
abbrev b_W_spend : ByteArray := prog_6_method_5_code
def y_W_spend : MethodName := ⟨R_Wafer, "spend", "(II)V"⟩
abbrev b_W_turnsLate : ByteArray := prog_6_method_6_code
def y_W_turnsLate : MethodName := ⟨R_Wafer, "turnsLate", "(I)Z"⟩
abbrev b_Y_init : ByteArray := prog_7_method_1_code
def y_Y_init : MethodName := ⟨R_Ways, "<init>", "()V"⟩
abbrev b_Y_beyond : ByteArray := prog_7_method_9_code
def y_Y_beyond : MethodName := ⟨R_Ways, "beyond", "(I)I"⟩
abbrev b_Y_isBack : ByteArray := prog_7_method_2_code
def y_Y_isBack : MethodName := ⟨R_Ways, "isBack", "(I)Z"⟩
abbrev b_Y_isDown : ByteArray := prog_7_method_4_code
def y_Y_isDown : MethodName := ⟨R_Ways, "isDown", "(I)Z"⟩
abbrev b_Y_isHomeward : ByteArray := prog_7_method_8_code
def y_Y_isHomeward : MethodName := ⟨R_Ways, "isHomeward", "(II)Z"⟩
abbrev b_Y_isReach : ByteArray := prog_7_method_7_code
def y_Y_isReach : MethodName := ⟨R_Ways, "isReach", "(II)Z"⟩
abbrev b_Y_leads : ByteArray := prog_7_method_6_code
def y_Y_leads : MethodName := ⟨R_Ways, "leads", "(IIII)Z"⟩
abbrev b_Y_routeOf : ByteArray := prog_7_method_3_code
def y_Y_routeOf : MethodName := ⟨R_Ways, "routeOf", "(I)LClusterTool$Route;"⟩
abbrev b_Y_turn : ByteArray := prog_7_method_5_code
def y_Y_turn : MethodName := ⟨R_Ways, "turn", "(I)V"⟩
abbrev b_M_init : ByteArray := prog_9_method_1_code
def y_M_init : MethodName := ⟨R_Model, "<init>", "()V"⟩
abbrev b_M_after : ByteArray := prog_9_method_16_code
def y_M_after : MethodName := ⟨R_Model, "after", "(III)I"⟩
abbrev b_M_ages : ByteArray := prog_9_method_29_code
def y_M_ages : MethodName := ⟨R_Model, "ages", "(I)Z"⟩
abbrev b_M_areNear : ByteArray := prog_9_method_9_code
def y_M_areNear : MethodName := ⟨R_Model, "areNear", "(II)Z"⟩
abbrev b_M_byFront : ByteArray := prog_9_method_22_code
def y_M_byFront : MethodName := ⟨R_Model, "byFront", "(II)Z"⟩
abbrev b_M_canBeEmptied : ByteArray := prog_9_method_19_code
def y_M_canBeEmptied : MethodName := ⟨R_Model, "canBeEmptied", "(I)Z"⟩
abbrev b_M_count : ByteArray := prog_9_method_39_code
def y_M_count : MethodName := ⟨R_Model, "count", "(I)I"⟩
abbrev b_M_digit : ByteArray := prog_9_method_12_code
def y_M_digit : MethodName := ⟨R_Model, "digit", "(II)I"⟩
abbrev b_M_digitOf : ByteArray := prog_9_method_13_code
def y_M_digitOf : MethodName := ⟨R_Model, "digitOf", "(I)I"⟩
abbrev b_M_down : ByteArray := prog_9_method_31_code
def y_M_down : MethodName := ⟨R_Model, "down", "(IZ)Z"⟩
abbrev b_M_go : ByteArray := prog_9_method_28_code
def y_M_go : MethodName := ⟨R_Model, "go", "()I"⟩
abbrev b_M_in : ByteArray := prog_9_method_32_code
def y_M_in : MethodName := ⟨R_Model, "in", "(I)I"⟩
abbrev b_M_inPlace : ByteArray := prog_9_method_21_code
def y_M_inPlace : MethodName := ⟨R_Model, "inPlace", "(I)I"⟩
abbrev b_M_isBack : ByteArray := prog_9_method_8_code
def y_M_isBack : MethodName := ⟨R_Model, "isBack", "(I)Z"⟩
abbrev b_M_isEmpty : ByteArray := prog_9_method_15_code
def y_M_isEmpty : MethodName := ⟨R_Model, "isEmpty", "(I)Z"⟩
abbrev b_M_isFinished : ByteArray := prog_9_method_6_code
def y_M_isFinished : MethodName := ⟨R_Model, "isFinished", "(I)Z"⟩
abbrev b_M_isFront : ByteArray := prog_9_method_7_code
def y_M_isFront : MethodName := ⟨R_Model, "isFront", "(I)Z"⟩
abbrev b_M_isRoute : ByteArray := prog_9_method_2_code
def y_M_isRoute : MethodName := ⟨R_Model, "isRoute", "(I)Z"⟩
abbrev b_M_isVisit : ByteArray := prog_9_method_35_code
def y_M_isVisit : MethodName := ⟨R_Model, "isVisit", "(II)Z"⟩
abbrev b_M_isWafer : ByteArray := prog_9_method_5_code
def y_M_isWafer : MethodName := ⟨R_Model, "isWafer", "(I)Z"⟩
abbrev b_M_isWay : ByteArray := prog_9_method_10_code
def y_M_isWay : MethodName := ⟨R_Model, "isWay", "(IIII)Z"⟩
abbrev b_M_know : ByteArray := prog_9_method_18_code
def y_M_know : MethodName := ⟨R_Model, "know", "(II)V"⟩
abbrev b_M_knownOf : ByteArray := prog_9_method_17_code
def y_M_knownOf : MethodName := ⟨R_Model, "knownOf", "(I)I"⟩
abbrev b_M_left : ByteArray := prog_9_method_38_code
def y_M_left : MethodName := ⟨R_Model, "left", "(I)I"⟩
abbrev b_M_load : ByteArray := prog_9_method_4_code
def y_M_load : MethodName := ⟨R_Model, "load", "(I)I"⟩
abbrev b_M_may : ByteArray := prog_9_method_23_code
def y_M_may : MethodName := ⟨R_Model, "may", "(II)I"⟩
abbrev b_M_move : ByteArray := prog_9_method_24_code
def y_M_move : MethodName := ⟨R_Model, "move", "(II)I"⟩
abbrev b_M_next : ByteArray := prog_9_method_27_code
def y_M_next : MethodName := ⟨R_Model, "next", "()I"⟩
abbrev b_M_place : ByteArray := prog_9_method_33_code
def y_M_place : MethodName := ⟨R_Model, "place", "(I)I"⟩
abbrev b_M_power : ByteArray := prog_9_method_11_code
def y_M_power : MethodName := ⟨R_Model, "power", "(I)I"⟩
abbrev b_M_rank : ByteArray := prog_9_method_26_code
def y_M_rank : MethodName := ⟨R_Model, "rank", "(I)I"⟩
abbrev b_M_safe : ByteArray := prog_9_method_20_code
def y_M_safe : MethodName := ⟨R_Model, "safe", "()Z"⟩
abbrev b_M_situation : ByteArray := prog_9_method_14_code
def y_M_situation : MethodName := ⟨R_Model, "situation", "()I"⟩
abbrev b_M_stage : ByteArray := prog_9_method_34_code
def y_M_stage : MethodName := ⟨R_Model, "stage", "(I)I"⟩
abbrev b_M_stay : ByteArray := prog_9_method_25_code
def y_M_stay : MethodName := ⟨R_Model, "stay", "(I)I"⟩
abbrev b_M_tick : ByteArray := prog_9_method_30_code
def y_M_tick : MethodName := ⟨R_Model, "tick", "(I)I"⟩
abbrev b_M_visit : ByteArray := prog_9_method_3_code
def y_M_visit : MethodName := ⟨R_Model, "visit", "(IIII)I"⟩
abbrev b_M_visited : ByteArray := prog_9_method_36_code
def y_M_visited : MethodName := ⟨R_Model, "visited", "(II)I"⟩
abbrev b_M_when : ByteArray := prog_9_method_37_code
def y_M_when : MethodName := ⟨R_Model, "when", "(IIZ)I"⟩
abbrev b_J_fill : ByteArray := prog_11_method_101_code
def y_J_fill : MethodName := ⟨R_Arrays, "fill", "([JJ)V"⟩
/-- the words that every contract takes: all good words of the tables -/
def WA : List Cond := lw_tbl.filter goodWord
theorem wd_1 {w c0 : Cond} (j : Nat) (h : tables_1_1[j]? = some w) (hg : goodWord w = true) : w ∈ c0 :: WA :=
  List.mem_cons_of_mem _ (List.mem_filter.mpr ⟨List.mem_append_right _ (List.mem_append_left _ (List.mem_of_getElem? h)), hg⟩)
theorem wd_2 {w c0 : Cond} (j : Nat) (h : tables_1_2[j]? = some w) (hg : goodWord w = true) : w ∈ c0 :: WA :=
  List.mem_cons_of_mem _ (List.mem_filter.mpr ⟨List.mem_append_right _ (List.mem_append_right _ (List.mem_append_left _ (List.mem_of_getElem? h))), hg⟩)
theorem wd_3 {w c0 : Cond} (j : Nat) (h : tables_1_3[j]? = some w) (hg : goodWord w = true) : w ∈ c0 :: WA :=
  List.mem_cons_of_mem _ (List.mem_filter.mpr ⟨List.mem_append_right _ (List.mem_append_right _ (List.mem_append_right _ (List.mem_of_getElem? h))), hg⟩)
theorem wd_s {y : MethodName} {n : Nat} {c0 : Cond} (j : Nat) (h : lw_privs[j]? = some (y, n)) : Cond.selects y.cls y y ∈ c0 :: WA :=
  List.mem_cons_of_mem _ (List.mem_filter.mpr ⟨List.mem_append_left _ (List.mem_map.mpr ⟨(y, n), List.mem_of_getElem? h, rfl⟩), rfl⟩)
theorem wa_all {c0 c1 : Cond} {L : List Cond} (hL : ∀ w ∈ L, w ∈ c0 :: WA ∧ goodWord w = true) (h1 : c1 ∈ c0 :: WA) (hg : goodWord c1 = true) : GoodIn (c0 :: WA) (L ++ (c1 :: WA)) := by
  intro w hw
  rcases List.mem_append.mp hw with h | h
  · exact ⟨(hL w h).1, good_of_word (hL w h).2⟩
  · rcases List.mem_cons.mp h with rfl | h
    · exact ⟨h1, good_of_word hg⟩
    · exact ⟨List.mem_cons_of_mem _ h, good_of_word (List.mem_filter.mp h).2⟩
theorem gC {c0 c1 : Cond} (h1 : c1 ∈ c0 :: WA) (hg : goodWord c1 = true) : GoodIn (c0 :: WA) (c1 :: WA) := wa_all (L := []) (fun w h => by cases h) h1 hg
theorem gS {c0 : Cond} {own : String} {idx : Nat} {y : MethodName} {b : ByteArray} {n : Nat} {r : Option FieldType} (i1 : Cond.methodLink own idx y ∈ c0 :: WA) (i2 : Cond.static y ∈ c0 :: WA) (i3 : Cond.initialized own ∈ c0 :: WA) (i4 : Cond.code y b n r ∈ c0 :: WA) : GoodIn (c0 :: WA) (wsS own idx y (Cond.code y b n r :: WA)) := by
  unfold wsS
  refine wa_all (fun w hw => ?_) i4 rfl
  simp only [List.mem_cons, List.not_mem_nil, or_false] at hw
  rcases hw with rfl | rfl | rfl
  · exact ⟨i1, rfl⟩
  · exact ⟨i2, rfl⟩
  · exact ⟨i3, rfl⟩
theorem gT {c0 : Cond} {own : String} {idx : Nat} {y : MethodName} {b : ByteArray} {n : Nat} {r : Option FieldType} (i1 : Cond.methodLink own idx y ∈ c0 :: WA) (i2 : Cond.static y ∈ c0 :: WA) (i3 : Cond.initialized y.cls ∈ c0 :: WA) (i4 : Cond.code y b n r ∈ c0 :: WA) : GoodIn (c0 :: WA) (va_wsS own idx y (Cond.code y b n r :: WA)) := by
  unfold va_wsS
  refine wa_all (fun w hw => ?_) i4 rfl
  simp only [List.mem_cons, List.not_mem_nil, or_false] at hw
  rcases hw with rfl | rfl | rfl
  · exact ⟨i1, rfl⟩
  · exact ⟨i2, rfl⟩
  · exact ⟨i3, rfl⟩
theorem gV {c0 : Cond} {own C : String} {idx : Nat} {y : MethodName} {b : ByteArray} {n : Nat} {r : Option FieldType} (i1 : Cond.methodLink own idx y ∈ c0 :: WA) (i2 : Cond.instanceMethod y ∈ c0 :: WA) (i3 : Cond.selects C y y ∈ c0 :: WA) (i5 : Cond.initialized C ∈ c0 :: WA) (i4 : Cond.code y b n r ∈ c0 :: WA) : GoodIn (c0 :: WA) (wsV own idx C y (Cond.code y b n r :: WA)) := by
  unfold wsV
  refine wa_all (fun w hw => ?_) i4 rfl
  simp only [List.mem_cons, List.not_mem_nil, or_false] at hw
  rcases hw with rfl | rfl | rfl | rfl
  · exact ⟨i1, rfl⟩
  · exact ⟨i2, rfl⟩
  · exact ⟨i3, rfl⟩
  · exact ⟨i5, rfl⟩
theorem hin_ClusterTool {c0 : Cond} : ∀ w ∈ u_ws R_ClusterTool F_ClusterTool 8, w ∈ c0 :: WA := by
  intro w hw
  obtain ⟨k, hk, rfl⟩ := List.mem_map.mp hw
  have hk := List.mem_range.mp hk
  rcases (show k = 0 ∨ k = 1 ∨ k = 2 ∨ k = 3 ∨ k = 4 ∨ k = 5 ∨ k = 6 ∨ k = 7 by omega) with rfl | rfl | rfl | rfl | rfl | rfl | rfl | rfl
  · exact wd_1 93 rfl rfl
  · exact wd_1 95 rfl rfl
  · exact wd_1 97 rfl rfl
  · exact wd_1 99 rfl rfl
  · exact wd_1 101 rfl rfl
  · exact wd_1 103 rfl rfl
  · exact wd_1 105 rfl rfl
  · exact wd_1 107 rfl rfl
theorem hin_Ways {c0 : Cond} : ∀ w ∈ u_ws R_Ways F_Ways 2, w ∈ c0 :: WA := by
  intro w hw
  obtain ⟨k, hk, rfl⟩ := List.mem_map.mp hw
  have hk := List.mem_range.mp hk
  rcases (show k = 0 ∨ k = 1 by omega) with rfl | rfl
  · exact wd_1 49 rfl rfl
  · exact wd_1 51 rfl rfl
theorem hin_Emptying {c0 : Cond} : ∀ w ∈ u_ws R_Emptying F_Emptying 2, w ∈ c0 :: WA := by
  intro w hw
  obtain ⟨k, hk, rfl⟩ := List.mem_map.mp hw
  have hk := List.mem_range.mp hk
  rcases (show k = 0 ∨ k = 1 by omega) with rfl | rfl
  · exact wd_1 62 rfl rfl
  · exact wd_1 64 rfl rfl
theorem hin_Robot {c0 : Cond} : ∀ w ∈ u_ws R_Robot F_Robot 2, w ∈ c0 :: WA := by
  intro w hw
  obtain ⟨k, hk, rfl⟩ := List.mem_map.mp hw
  have hk := List.mem_range.mp hk
  rcases (show k = 0 ∨ k = 1 by omega) with rfl | rfl
  · exact wd_1 78 rfl rfl
  · exact wd_1 80 rfl rfl
theorem hin_Route {c0 : Cond} : ∀ w ∈ u_ws R_Route F_Route 4, w ∈ c0 :: WA := by
  intro w hw
  obtain ⟨k, hk, rfl⟩ := List.mem_map.mp hw
  have hk := List.mem_range.mp hk
  rcases (show k = 0 ∨ k = 1 ∨ k = 2 ∨ k = 3 by omega) with rfl | rfl | rfl | rfl
  · exact wd_1 37 rfl rfl
  · exact wd_1 39 rfl rfl
  · exact wd_1 41 rfl rfl
  · exact wd_1 43 rfl rfl
theorem hin_Wafer {c0 : Cond} : ∀ w ∈ u_ws R_Wafer F_Wafer 10, w ∈ c0 :: WA := by
  intro w hw
  obtain ⟨k, hk, rfl⟩ := List.mem_map.mp hw
  have hk := List.mem_range.mp hk
  rcases (show k = 0 ∨ k = 1 ∨ k = 2 ∨ k = 3 ∨ k = 4 ∨ k = 5 ∨ k = 6 ∨ k = 7 ∨ k = 8 ∨ k = 9 by omega) with rfl | rfl | rfl | rfl | rfl | rfl | rfl | rfl | rfl | rfl
  · exact wd_1 155 rfl rfl
  · exact wd_1 157 rfl rfl
  · exact wd_1 159 rfl rfl
  · exact wd_1 161 rfl rfl
  · exact wd_1 163 rfl rfl
  · exact wd_1 165 rfl rfl
  · exact wd_1 167 rfl rfl
  · exact wd_1 169 rfl rfl
  · exact wd_1 171 rfl rfl
  · exact wd_1 173 rfl rfl
theorem hin_Model {c0 : Cond} : ∀ w ∈ u_ws R_Model F_Model 24, w ∈ c0 :: WA := by
  intro w hw
  obtain ⟨k, hk, rfl⟩ := List.mem_map.mp hw
  have hk := List.mem_range.mp hk
  rcases (show k = 0 ∨ k = 1 ∨ k = 2 ∨ k = 3 ∨ k = 4 ∨ k = 5 ∨ k = 6 ∨ k = 7 ∨ k = 8 ∨ k = 9 ∨ k = 10 ∨ k = 11 ∨ k = 12 ∨ k = 13 ∨ k = 14 ∨ k = 15 ∨ k = 16 ∨ k = 17 ∨ k = 18 ∨ k = 19 ∨ k = 20 ∨ k = 21 ∨ k = 22 ∨ k = 23 by omega) with rfl | rfl | rfl | rfl | rfl | rfl | rfl | rfl | rfl | rfl | rfl | rfl | rfl | rfl | rfl | rfl | rfl | rfl | rfl | rfl | rfl | rfl | rfl | rfl
  · exact wd_2 178 rfl rfl
  · exact wd_2 180 rfl rfl
  · exact wd_2 182 rfl rfl
  · exact wd_2 184 rfl rfl
  · exact wd_2 186 rfl rfl
  · exact wd_2 188 rfl rfl
  · exact wd_2 190 rfl rfl
  · exact wd_2 192 rfl rfl
  · exact wd_2 194 rfl rfl
  · exact wd_2 196 rfl rfl
  · exact wd_2 198 rfl rfl
  · exact wd_2 200 rfl rfl
  · exact wd_2 202 rfl rfl
  · exact wd_2 204 rfl rfl
  · exact wd_2 206 rfl rfl
  · exact wd_2 208 rfl rfl
  · exact wd_2 210 rfl rfl
  · exact wd_2 212 rfl rfl
  · exact wd_2 214 rfl rfl
  · exact wd_2 216 rfl rfl
  · exact wd_2 218 rfl rfl
  · exact wd_2 220 rfl rfl
  · exact wd_2 222 rfl rfl
  · exact wd_2 224 rfl rfl
/-- the words on nest mates -/
def NL : List Cond := [.methodLinkNest "ClusterTool" 9 ⟨"ClusterTool$Ways", "<init>", "()V"⟩ "ClusterTool", .methodLinkNest "ClusterTool$Ways" 11 ⟨"ClusterTool$Route", "<init>", "()V"⟩ "ClusterTool", .fieldLinkNest "ClusterTool" 54 "ClusterTool$Route" "length" "I" "ClusterTool", .methodLinkNest "ClusterTool" 18 ⟨"ClusterTool$Emptying", "<init>", "()V"⟩ "ClusterTool", .methodLinkNest "ClusterTool" 25 ⟨"ClusterTool$Robot", "<init>", "()V"⟩ "ClusterTool", .fieldLinkNest "ClusterTool" 110 "ClusterTool$Robot" "busy" "Z" "ClusterTool", .fieldLinkNest "ClusterTool" 179 "ClusterTool$Robot" "moves" "I" "ClusterTool", .methodLinkNest "ClusterTool$Ways" 22 ⟨"ClusterTool", "isWithin", "(III)Z"⟩ "ClusterTool", .fieldLinkNest "ClusterTool" 81 "ClusterTool$Wafer" "route" "I" "ClusterTool", .fieldLinkNest "ClusterTool" 156 "ClusterTool$Wafer" "chambers" "[I" "ClusterTool", .fieldLinkNest "ClusterTool" 162 "ClusterTool$Wafer" "begins" "[I" "ClusterTool", .fieldLinkNest "ClusterTool" 159 "ClusterTool$Wafer" "ends" "[I" "ClusterTool", .fieldLinkNest "ClusterTool" 87 "ClusterTool$Wafer" "place" "I" "ClusterTool", .fieldLinkNest "ClusterTool" 84 "ClusterTool$Wafer" "stage" "I" "ClusterTool", .fieldLinkNest "ClusterTool" 78 "ClusterTool$Wafer" "left" "I" "ClusterTool", .fieldLinkNest "ClusterTool" 165 "ClusterTool$Wafer" "waited" "I" "ClusterTool", .fieldLinkNest "ClusterTool" 74 "ClusterTool$Wafer" "finished" "Z" "ClusterTool", .fieldLinkNest "ClusterTool" 212 "ClusterTool$Wafer" "late" "Z" "ClusterTool", .methodLinkNest "ClusterTool" 102 ⟨"ClusterTool$Emptying", "search", "(LClusterTool$Ways;II)Z"⟩ "ClusterTool", .methodLinkNest "ClusterTool$Wafer" 44 ⟨"ClusterTool", "isWithin", "(III)Z"⟩ "ClusterTool"]
theorem hd_T_init : y_T_init.cls ≠ "java/lang/invoke/MethodHandle" ∧ y_T_init.cls ≠ "java/lang/invoke/VarHandle" ∧ (parseMethodDescriptor y_T_init.desc).map (fun d => d.parameters.length) = some 0 := by decide +kernel
theorem hd_T_carry : y_T_carry.cls ≠ "java/lang/invoke/MethodHandle" ∧ y_T_carry.cls ≠ "java/lang/invoke/VarHandle" ∧ (parseMethodDescriptor y_T_carry.desc).map (fun d => d.parameters.length) = some 2 := by decide +kernel
theorem hd_T_count : y_T_count.cls ≠ "java/lang/invoke/MethodHandle" ∧ y_T_count.cls ≠ "java/lang/invoke/VarHandle" ∧ (parseMethodDescriptor y_T_count.desc).map (fun d => d.parameters.length) = some 1 := by decide +kernel
theorem hd_T_countFinished : y_T_countFinished.cls ≠ "java/lang/invoke/MethodHandle" ∧ y_T_countFinished.cls ≠ "java/lang/invoke/VarHandle" ∧ (parseMethodDescriptor y_T_countFinished.desc).map (fun d => d.parameters.length) = some 0 := by decide +kernel
theorem hd_T_countLate : y_T_countLate.cls ≠ "java/lang/invoke/MethodHandle" ∧ y_T_countLate.cls ≠ "java/lang/invoke/VarHandle" ∧ (parseMethodDescriptor y_T_countLate.desc).map (fun d => d.parameters.length) = some 0 := by decide +kernel
theorem hd_T_down : y_T_down.cls ≠ "java/lang/invoke/MethodHandle" ∧ y_T_down.cls ≠ "java/lang/invoke/VarHandle" ∧ (parseMethodDescriptor y_T_down.desc).map (fun d => d.parameters.length) = some 2 := by decide +kernel
theorem hd_T_go : y_T_go.cls ≠ "java/lang/invoke/MethodHandle" ∧ y_T_go.cls ≠ "java/lang/invoke/VarHandle" ∧ (parseMethodDescriptor y_T_go.desc).map (fun d => d.parameters.length) = some 0 := by decide +kernel
theorem hd_T_in : y_T_in.cls ≠ "java/lang/invoke/MethodHandle" ∧ y_T_in.cls ≠ "java/lang/invoke/VarHandle" ∧ (parseMethodDescriptor y_T_in.desc).map (fun d => d.parameters.length) = some 1 := by decide +kernel
theorem hd_T_isTaken : y_T_isTaken.cls ≠ "java/lang/invoke/MethodHandle" ∧ y_T_isTaken.cls ≠ "java/lang/invoke/VarHandle" ∧ (parseMethodDescriptor y_T_isTaken.desc).map (fun d => d.parameters.length) = some 2 := by decide +kernel
theorem hd_T_isWithin : y_T_isWithin.cls ≠ "java/lang/invoke/MethodHandle" ∧ y_T_isWithin.cls ≠ "java/lang/invoke/VarHandle" ∧ (parseMethodDescriptor y_T_isWithin.desc).map (fun d => d.parameters.length) = some 3 := by decide +kernel
theorem hd_T_left : y_T_left.cls ≠ "java/lang/invoke/MethodHandle" ∧ y_T_left.cls ≠ "java/lang/invoke/VarHandle" ∧ (parseMethodDescriptor y_T_left.desc).map (fun d => d.parameters.length) = some 1 := by decide +kernel
theorem hd_T_limitOf : y_T_limitOf.cls ≠ "java/lang/invoke/MethodHandle" ∧ y_T_limitOf.cls ≠ "java/lang/invoke/VarHandle" ∧ (parseMethodDescriptor y_T_limitOf.desc).map (fun d => d.parameters.length) = some 1 := by decide +kernel
theorem hd_T_load : y_T_load.cls ≠ "java/lang/invoke/MethodHandle" ∧ y_T_load.cls ≠ "java/lang/invoke/VarHandle" ∧ (parseMethodDescriptor y_T_load.desc).map (fun d => d.parameters.length) = some 1 := by decide +kernel
theorem hd_T_may : y_T_may.cls ≠ "java/lang/invoke/MethodHandle" ∧ y_T_may.cls ≠ "java/lang/invoke/VarHandle" ∧ (parseMethodDescriptor y_T_may.desc).map (fun d => d.parameters.length) = some 2 := by decide +kernel
theorem hd_T_move : y_T_move.cls ≠ "java/lang/invoke/MethodHandle" ∧ y_T_move.cls ≠ "java/lang/invoke/VarHandle" ∧ (parseMethodDescriptor y_T_move.desc).map (fun d => d.parameters.length) = some 2 := by decide +kernel
theorem hd_T_next : y_T_next.cls ≠ "java/lang/invoke/MethodHandle" ∧ y_T_next.cls ≠ "java/lang/invoke/VarHandle" ∧ (parseMethodDescriptor y_T_next.desc).map (fun d => d.parameters.length) = some 0 := by decide +kernel
theorem hd_T_place : y_T_place.cls ≠ "java/lang/invoke/MethodHandle" ∧ y_T_place.cls ≠ "java/lang/invoke/VarHandle" ∧ (parseMethodDescriptor y_T_place.desc).map (fun d => d.parameters.length) = some 1 := by decide +kernel
theorem hd_T_rankOf : y_T_rankOf.cls ≠ "java/lang/invoke/MethodHandle" ∧ y_T_rankOf.cls ≠ "java/lang/invoke/VarHandle" ∧ (parseMethodDescriptor y_T_rankOf.desc).map (fun d => d.parameters.length) = some 1 := by decide +kernel
theorem hd_T_robotFor : y_T_robotFor.cls ≠ "java/lang/invoke/MethodHandle" ∧ y_T_robotFor.cls ≠ "java/lang/invoke/VarHandle" ∧ (parseMethodDescriptor y_T_robotFor.desc).map (fun d => d.parameters.length) = some 2 := by decide +kernel
theorem hd_T_safe : y_T_safe.cls ≠ "java/lang/invoke/MethodHandle" ∧ y_T_safe.cls ≠ "java/lang/invoke/VarHandle" ∧ (parseMethodDescriptor y_T_safe.desc).map (fun d => d.parameters.length) = some 0 := by decide +kernel
theorem hd_T_situation : y_T_situation.cls ≠ "java/lang/invoke/MethodHandle" ∧ y_T_situation.cls ≠ "java/lang/invoke/VarHandle" ∧ (parseMethodDescriptor y_T_situation.desc).map (fun d => d.parameters.length) = some 0 := by decide +kernel
theorem hd_T_situationAfter : y_T_situationAfter.cls ≠ "java/lang/invoke/MethodHandle" ∧ y_T_situationAfter.cls ≠ "java/lang/invoke/VarHandle" ∧ (parseMethodDescriptor y_T_situationAfter.desc).map (fun d => d.parameters.length) = some 2 := by decide +kernel
theorem hd_T_stage : y_T_stage.cls ≠ "java/lang/invoke/MethodHandle" ∧ y_T_stage.cls ≠ "java/lang/invoke/VarHandle" ∧ (parseMethodDescriptor y_T_stage.desc).map (fun d => d.parameters.length) = some 1 := by decide +kernel
theorem hd_T_stay : y_T_stay.cls ≠ "java/lang/invoke/MethodHandle" ∧ y_T_stay.cls ≠ "java/lang/invoke/VarHandle" ∧ (parseMethodDescriptor y_T_stay.desc).map (fun d => d.parameters.length) = some 1 := by decide +kernel
theorem hd_T_tick : y_T_tick.cls ≠ "java/lang/invoke/MethodHandle" ∧ y_T_tick.cls ≠ "java/lang/invoke/VarHandle" ∧ (parseMethodDescriptor y_T_tick.desc).map (fun d => d.parameters.length) = some 1 := by decide +kernel
theorem hd_T_visit : y_T_visit.cls ≠ "java/lang/invoke/MethodHandle" ∧ y_T_visit.cls ≠ "java/lang/invoke/VarHandle" ∧ (parseMethodDescriptor y_T_visit.desc).map (fun d => d.parameters.length) = some 4 := by decide +kernel
theorem hd_T_visited : y_T_visited.cls ≠ "java/lang/invoke/MethodHandle" ∧ y_T_visited.cls ≠ "java/lang/invoke/VarHandle" ∧ (parseMethodDescriptor y_T_visited.desc).map (fun d => d.parameters.length) = some 2 := by decide +kernel
theorem hd_T_waferOf : y_T_waferOf.cls ≠ "java/lang/invoke/MethodHandle" ∧ y_T_waferOf.cls ≠ "java/lang/invoke/VarHandle" ∧ (parseMethodDescriptor y_T_waferOf.desc).map (fun d => d.parameters.length) = some 1 := by decide +kernel
theorem hd_T_when : y_T_when.cls ≠ "java/lang/invoke/MethodHandle" ∧ y_T_when.cls ≠ "java/lang/invoke/VarHandle" ∧ (parseMethodDescriptor y_T_when.desc).map (fun d => d.parameters.length) = some 3 := by decide +kernel
theorem hd_E_init : y_E_init.cls ≠ "java/lang/invoke/MethodHandle" ∧ y_E_init.cls ≠ "java/lang/invoke/VarHandle" ∧ (parseMethodDescriptor y_E_init.desc).map (fun d => d.parameters.length) = some 0 := by decide +kernel
theorem hd_E_forget : y_E_forget.cls ≠ "java/lang/invoke/MethodHandle" ∧ y_E_forget.cls ≠ "java/lang/invoke/VarHandle" ∧ (parseMethodDescriptor y_E_forget.desc).map (fun d => d.parameters.length) = some 0 := by decide +kernel
theorem hd_E_search : y_E_search.cls ≠ "java/lang/invoke/MethodHandle" ∧ y_E_search.cls ≠ "java/lang/invoke/VarHandle" ∧ (parseMethodDescriptor y_E_search.desc).map (fun d => d.parameters.length) = some 3 := by decide +kernel
theorem hd_E_searchMoves : y_E_searchMoves.cls ≠ "java/lang/invoke/MethodHandle" ∧ y_E_searchMoves.cls ≠ "java/lang/invoke/VarHandle" ∧ (parseMethodDescriptor y_E_searchMoves.desc).map (fun d => d.parameters.length) = some 3 := by decide +kernel
theorem hd_B_init : y_B_init.cls ≠ "java/lang/invoke/MethodHandle" ∧ y_B_init.cls ≠ "java/lang/invoke/VarHandle" ∧ (parseMethodDescriptor y_B_init.desc).map (fun d => d.parameters.length) = some 0 := by decide +kernel
theorem hd_U_init : y_U_init.cls ≠ "java/lang/invoke/MethodHandle" ∧ y_U_init.cls ≠ "java/lang/invoke/VarHandle" ∧ (parseMethodDescriptor y_U_init.desc).map (fun d => d.parameters.length) = some 0 := by decide +kernel
theorem hd_U_append : y_U_append.cls ≠ "java/lang/invoke/MethodHandle" ∧ y_U_append.cls ≠ "java/lang/invoke/VarHandle" ∧ (parseMethodDescriptor y_U_append.desc).map (fun d => d.parameters.length) = some 3 := by decide +kernel
theorem hd_U_has : y_U_has.cls ≠ "java/lang/invoke/MethodHandle" ∧ y_U_has.cls ≠ "java/lang/invoke/VarHandle" ∧ (parseMethodDescriptor y_U_has.desc).map (fun d => d.parameters.length) = some 1 := by decide +kernel
theorem hd_U_limitAt : y_U_limitAt.cls ≠ "java/lang/invoke/MethodHandle" ∧ y_U_limitAt.cls ≠ "java/lang/invoke/VarHandle" ∧ (parseMethodDescriptor y_U_limitAt.desc).map (fun d => d.parameters.length) = some 1 := by decide +kernel
theorem hd_U_maskAt : y_U_maskAt.cls ≠ "java/lang/invoke/MethodHandle" ∧ y_U_maskAt.cls ≠ "java/lang/invoke/VarHandle" ∧ (parseMethodDescriptor y_U_maskAt.desc).map (fun d => d.parameters.length) = some 1 := by decide +kernel
theorem hd_U_timeAt : y_U_timeAt.cls ≠ "java/lang/invoke/MethodHandle" ∧ y_U_timeAt.cls ≠ "java/lang/invoke/VarHandle" ∧ (parseMethodDescriptor y_U_timeAt.desc).map (fun d => d.parameters.length) = some 1 := by decide +kernel
theorem hd_S_after : y_S_after.cls ≠ "java/lang/invoke/MethodHandle" ∧ y_S_after.cls ≠ "java/lang/invoke/VarHandle" ∧ (parseMethodDescriptor y_S_after.desc).map (fun d => d.parameters.length) = some 5 := by decide +kernel
theorem hd_S_isFree : y_S_isFree.cls ≠ "java/lang/invoke/MethodHandle" ∧ y_S_isFree.cls ≠ "java/lang/invoke/VarHandle" ∧ (parseMethodDescriptor y_S_isFree.desc).map (fun d => d.parameters.length) = some 3 := by decide +kernel
theorem hd_S_markAt : y_S_markAt.cls ≠ "java/lang/invoke/MethodHandle" ∧ y_S_markAt.cls ≠ "java/lang/invoke/VarHandle" ∧ (parseMethodDescriptor y_S_markAt.desc).map (fun d => d.parameters.length) = some 2 := by decide +kernel
theorem hd_S_routeIn : y_S_routeIn.cls ≠ "java/lang/invoke/MethodHandle" ∧ y_S_routeIn.cls ≠ "java/lang/invoke/VarHandle" ∧ (parseMethodDescriptor y_S_routeIn.desc).map (fun d => d.parameters.length) = some 1 := by decide +kernel
theorem hd_S_stageIn : y_S_stageIn.cls ≠ "java/lang/invoke/MethodHandle" ∧ y_S_stageIn.cls ≠ "java/lang/invoke/VarHandle" ∧ (parseMethodDescriptor y_S_stageIn.desc).map (fun d => d.parameters.length) = some 1 := by decide +kernel
theorem hd_S_with : y_S_with.cls ≠ "java/lang/invoke/MethodHandle" ∧ y_S_with.cls ≠ "java/lang/invoke/VarHandle" ∧ (parseMethodDescriptor y_S_with.desc).map (fun d => d.parameters.length) = some 4 := by decide +kernel
theorem hd_W_init : y_W_init.cls ≠ "java/lang/invoke/MethodHandle" ∧ y_W_init.cls ≠ "java/lang/invoke/VarHandle" ∧ (parseMethodDescriptor y_W_init.desc).map (fun d => d.parameters.length) = some 2 := by decide +kernel
theorem hd_W_arrive : y_W_arrive.cls ≠ "java/lang/invoke/MethodHandle" ∧ y_W_arrive.cls ≠ "java/lang/invoke/VarHandle" ∧ (parseMethodDescriptor y_W_arrive.desc).map (fun d => d.parameters.length) = some 1 := by decide +kernel
theorem hd_W_begin : y_W_begin.cls ≠ "java/lang/invoke/MethodHandle" ∧ y_W_begin.cls ≠ "java/lang/invoke/VarHandle" ∧ (parseMethodDescriptor y_W_begin.desc).map (fun d => d.parameters.length) = some 2 := by decide +kernel
theorem hd_W_hasBegun : y_W_hasBegun.cls ≠ "java/lang/invoke/MethodHandle" ∧ y_W_hasBegun.cls ≠ "java/lang/invoke/VarHandle" ∧ (parseMethodDescriptor y_W_hasBegun.desc).map (fun d => d.parameters.length) = some 1 := by decide +kernel
theorem hd_W_spend : y_W_spend.cls ≠ "java/lang/invoke/MethodHandle" ∧ y_W_spend.cls ≠ "java/lang/invoke/VarHandle" ∧ (parseMethodDescriptor y_W_spend.desc).map (fun d => d.parameters.length) = some 2 := by decide +kernel
theorem hd_W_turnsLate : y_W_turnsLate.cls ≠ "java/lang/invoke/MethodHandle" ∧ y_W_turnsLate.cls ≠ "java/lang/invoke/VarHandle" ∧ (parseMethodDescriptor y_W_turnsLate.desc).map (fun d => d.parameters.length) = some 1 := by decide +kernel
theorem hd_Y_init : y_Y_init.cls ≠ "java/lang/invoke/MethodHandle" ∧ y_Y_init.cls ≠ "java/lang/invoke/VarHandle" ∧ (parseMethodDescriptor y_Y_init.desc).map (fun d => d.parameters.length) = some 0 := by decide +kernel
theorem hd_Y_beyond : y_Y_beyond.cls ≠ "java/lang/invoke/MethodHandle" ∧ y_Y_beyond.cls ≠ "java/lang/invoke/VarHandle" ∧ (parseMethodDescriptor y_Y_beyond.desc).map (fun d => d.parameters.length) = some 1 := by decide +kernel
theorem hd_Y_isBack : y_Y_isBack.cls ≠ "java/lang/invoke/MethodHandle" ∧ y_Y_isBack.cls ≠ "java/lang/invoke/VarHandle" ∧ (parseMethodDescriptor y_Y_isBack.desc).map (fun d => d.parameters.length) = some 1 := by decide +kernel
theorem hd_Y_isDown : y_Y_isDown.cls ≠ "java/lang/invoke/MethodHandle" ∧ y_Y_isDown.cls ≠ "java/lang/invoke/VarHandle" ∧ (parseMethodDescriptor y_Y_isDown.desc).map (fun d => d.parameters.length) = some 1 := by decide +kernel
theorem hd_Y_isHomeward : y_Y_isHomeward.cls ≠ "java/lang/invoke/MethodHandle" ∧ y_Y_isHomeward.cls ≠ "java/lang/invoke/VarHandle" ∧ (parseMethodDescriptor y_Y_isHomeward.desc).map (fun d => d.parameters.length) = some 2 := by decide +kernel
theorem hd_Y_isReach : y_Y_isReach.cls ≠ "java/lang/invoke/MethodHandle" ∧ y_Y_isReach.cls ≠ "java/lang/invoke/VarHandle" ∧ (parseMethodDescriptor y_Y_isReach.desc).map (fun d => d.parameters.length) = some 2 := by decide +kernel
theorem hd_Y_leads : y_Y_leads.cls ≠ "java/lang/invoke/MethodHandle" ∧ y_Y_leads.cls ≠ "java/lang/invoke/VarHandle" ∧ (parseMethodDescriptor y_Y_leads.desc).map (fun d => d.parameters.length) = some 4 := by decide +kernel
theorem hd_Y_routeOf : y_Y_routeOf.cls ≠ "java/lang/invoke/MethodHandle" ∧ y_Y_routeOf.cls ≠ "java/lang/invoke/VarHandle" ∧ (parseMethodDescriptor y_Y_routeOf.desc).map (fun d => d.parameters.length) = some 1 := by decide +kernel
theorem hd_Y_turn : y_Y_turn.cls ≠ "java/lang/invoke/MethodHandle" ∧ y_Y_turn.cls ≠ "java/lang/invoke/VarHandle" ∧ (parseMethodDescriptor y_Y_turn.desc).map (fun d => d.parameters.length) = some 1 := by decide +kernel
theorem hd_M_init : y_M_init.cls ≠ "java/lang/invoke/MethodHandle" ∧ y_M_init.cls ≠ "java/lang/invoke/VarHandle" ∧ (parseMethodDescriptor y_M_init.desc).map (fun d => d.parameters.length) = some 0 := by decide +kernel
theorem hd_M_after : y_M_after.cls ≠ "java/lang/invoke/MethodHandle" ∧ y_M_after.cls ≠ "java/lang/invoke/VarHandle" ∧ (parseMethodDescriptor y_M_after.desc).map (fun d => d.parameters.length) = some 3 := by decide +kernel
theorem hd_M_ages : y_M_ages.cls ≠ "java/lang/invoke/MethodHandle" ∧ y_M_ages.cls ≠ "java/lang/invoke/VarHandle" ∧ (parseMethodDescriptor y_M_ages.desc).map (fun d => d.parameters.length) = some 1 := by decide +kernel
theorem hd_M_areNear : y_M_areNear.cls ≠ "java/lang/invoke/MethodHandle" ∧ y_M_areNear.cls ≠ "java/lang/invoke/VarHandle" ∧ (parseMethodDescriptor y_M_areNear.desc).map (fun d => d.parameters.length) = some 2 := by decide +kernel
theorem hd_M_byFront : y_M_byFront.cls ≠ "java/lang/invoke/MethodHandle" ∧ y_M_byFront.cls ≠ "java/lang/invoke/VarHandle" ∧ (parseMethodDescriptor y_M_byFront.desc).map (fun d => d.parameters.length) = some 2 := by decide +kernel
theorem hd_M_canBeEmptied : y_M_canBeEmptied.cls ≠ "java/lang/invoke/MethodHandle" ∧ y_M_canBeEmptied.cls ≠ "java/lang/invoke/VarHandle" ∧ (parseMethodDescriptor y_M_canBeEmptied.desc).map (fun d => d.parameters.length) = some 1 := by decide +kernel
theorem hd_M_count : y_M_count.cls ≠ "java/lang/invoke/MethodHandle" ∧ y_M_count.cls ≠ "java/lang/invoke/VarHandle" ∧ (parseMethodDescriptor y_M_count.desc).map (fun d => d.parameters.length) = some 1 := by decide +kernel
theorem hd_M_digit : y_M_digit.cls ≠ "java/lang/invoke/MethodHandle" ∧ y_M_digit.cls ≠ "java/lang/invoke/VarHandle" ∧ (parseMethodDescriptor y_M_digit.desc).map (fun d => d.parameters.length) = some 2 := by decide +kernel
theorem hd_M_digitOf : y_M_digitOf.cls ≠ "java/lang/invoke/MethodHandle" ∧ y_M_digitOf.cls ≠ "java/lang/invoke/VarHandle" ∧ (parseMethodDescriptor y_M_digitOf.desc).map (fun d => d.parameters.length) = some 1 := by decide +kernel
theorem hd_M_down : y_M_down.cls ≠ "java/lang/invoke/MethodHandle" ∧ y_M_down.cls ≠ "java/lang/invoke/VarHandle" ∧ (parseMethodDescriptor y_M_down.desc).map (fun d => d.parameters.length) = some 2 := by decide +kernel
theorem hd_M_go : y_M_go.cls ≠ "java/lang/invoke/MethodHandle" ∧ y_M_go.cls ≠ "java/lang/invoke/VarHandle" ∧ (parseMethodDescriptor y_M_go.desc).map (fun d => d.parameters.length) = some 0 := by decide +kernel
theorem hd_M_in : y_M_in.cls ≠ "java/lang/invoke/MethodHandle" ∧ y_M_in.cls ≠ "java/lang/invoke/VarHandle" ∧ (parseMethodDescriptor y_M_in.desc).map (fun d => d.parameters.length) = some 1 := by decide +kernel
theorem hd_M_inPlace : y_M_inPlace.cls ≠ "java/lang/invoke/MethodHandle" ∧ y_M_inPlace.cls ≠ "java/lang/invoke/VarHandle" ∧ (parseMethodDescriptor y_M_inPlace.desc).map (fun d => d.parameters.length) = some 1 := by decide +kernel
theorem hd_M_isBack : y_M_isBack.cls ≠ "java/lang/invoke/MethodHandle" ∧ y_M_isBack.cls ≠ "java/lang/invoke/VarHandle" ∧ (parseMethodDescriptor y_M_isBack.desc).map (fun d => d.parameters.length) = some 1 := by decide +kernel
theorem hd_M_isEmpty : y_M_isEmpty.cls ≠ "java/lang/invoke/MethodHandle" ∧ y_M_isEmpty.cls ≠ "java/lang/invoke/VarHandle" ∧ (parseMethodDescriptor y_M_isEmpty.desc).map (fun d => d.parameters.length) = some 1 := by decide +kernel
theorem hd_M_isFinished : y_M_isFinished.cls ≠ "java/lang/invoke/MethodHandle" ∧ y_M_isFinished.cls ≠ "java/lang/invoke/VarHandle" ∧ (parseMethodDescriptor y_M_isFinished.desc).map (fun d => d.parameters.length) = some 1 := by decide +kernel
theorem hd_M_isFront : y_M_isFront.cls ≠ "java/lang/invoke/MethodHandle" ∧ y_M_isFront.cls ≠ "java/lang/invoke/VarHandle" ∧ (parseMethodDescriptor y_M_isFront.desc).map (fun d => d.parameters.length) = some 1 := by decide +kernel
theorem hd_M_isRoute : y_M_isRoute.cls ≠ "java/lang/invoke/MethodHandle" ∧ y_M_isRoute.cls ≠ "java/lang/invoke/VarHandle" ∧ (parseMethodDescriptor y_M_isRoute.desc).map (fun d => d.parameters.length) = some 1 := by decide +kernel
theorem hd_M_isVisit : y_M_isVisit.cls ≠ "java/lang/invoke/MethodHandle" ∧ y_M_isVisit.cls ≠ "java/lang/invoke/VarHandle" ∧ (parseMethodDescriptor y_M_isVisit.desc).map (fun d => d.parameters.length) = some 2 := by decide +kernel
theorem hd_M_isWafer : y_M_isWafer.cls ≠ "java/lang/invoke/MethodHandle" ∧ y_M_isWafer.cls ≠ "java/lang/invoke/VarHandle" ∧ (parseMethodDescriptor y_M_isWafer.desc).map (fun d => d.parameters.length) = some 1 := by decide +kernel
theorem hd_M_isWay : y_M_isWay.cls ≠ "java/lang/invoke/MethodHandle" ∧ y_M_isWay.cls ≠ "java/lang/invoke/VarHandle" ∧ (parseMethodDescriptor y_M_isWay.desc).map (fun d => d.parameters.length) = some 4 := by decide +kernel
theorem hd_M_know : y_M_know.cls ≠ "java/lang/invoke/MethodHandle" ∧ y_M_know.cls ≠ "java/lang/invoke/VarHandle" ∧ (parseMethodDescriptor y_M_know.desc).map (fun d => d.parameters.length) = some 2 := by decide +kernel
theorem hd_M_knownOf : y_M_knownOf.cls ≠ "java/lang/invoke/MethodHandle" ∧ y_M_knownOf.cls ≠ "java/lang/invoke/VarHandle" ∧ (parseMethodDescriptor y_M_knownOf.desc).map (fun d => d.parameters.length) = some 1 := by decide +kernel
theorem hd_M_left : y_M_left.cls ≠ "java/lang/invoke/MethodHandle" ∧ y_M_left.cls ≠ "java/lang/invoke/VarHandle" ∧ (parseMethodDescriptor y_M_left.desc).map (fun d => d.parameters.length) = some 1 := by decide +kernel
theorem hd_M_load : y_M_load.cls ≠ "java/lang/invoke/MethodHandle" ∧ y_M_load.cls ≠ "java/lang/invoke/VarHandle" ∧ (parseMethodDescriptor y_M_load.desc).map (fun d => d.parameters.length) = some 1 := by decide +kernel
theorem hd_M_may : y_M_may.cls ≠ "java/lang/invoke/MethodHandle" ∧ y_M_may.cls ≠ "java/lang/invoke/VarHandle" ∧ (parseMethodDescriptor y_M_may.desc).map (fun d => d.parameters.length) = some 2 := by decide +kernel
theorem hd_M_move : y_M_move.cls ≠ "java/lang/invoke/MethodHandle" ∧ y_M_move.cls ≠ "java/lang/invoke/VarHandle" ∧ (parseMethodDescriptor y_M_move.desc).map (fun d => d.parameters.length) = some 2 := by decide +kernel
theorem hd_M_next : y_M_next.cls ≠ "java/lang/invoke/MethodHandle" ∧ y_M_next.cls ≠ "java/lang/invoke/VarHandle" ∧ (parseMethodDescriptor y_M_next.desc).map (fun d => d.parameters.length) = some 0 := by decide +kernel
theorem hd_M_place : y_M_place.cls ≠ "java/lang/invoke/MethodHandle" ∧ y_M_place.cls ≠ "java/lang/invoke/VarHandle" ∧ (parseMethodDescriptor y_M_place.desc).map (fun d => d.parameters.length) = some 1 := by decide +kernel
theorem hd_M_power : y_M_power.cls ≠ "java/lang/invoke/MethodHandle" ∧ y_M_power.cls ≠ "java/lang/invoke/VarHandle" ∧ (parseMethodDescriptor y_M_power.desc).map (fun d => d.parameters.length) = some 1 := by decide +kernel
theorem hd_M_rank : y_M_rank.cls ≠ "java/lang/invoke/MethodHandle" ∧ y_M_rank.cls ≠ "java/lang/invoke/VarHandle" ∧ (parseMethodDescriptor y_M_rank.desc).map (fun d => d.parameters.length) = some 1 := by decide +kernel
theorem hd_M_safe : y_M_safe.cls ≠ "java/lang/invoke/MethodHandle" ∧ y_M_safe.cls ≠ "java/lang/invoke/VarHandle" ∧ (parseMethodDescriptor y_M_safe.desc).map (fun d => d.parameters.length) = some 0 := by decide +kernel
theorem hd_M_situation : y_M_situation.cls ≠ "java/lang/invoke/MethodHandle" ∧ y_M_situation.cls ≠ "java/lang/invoke/VarHandle" ∧ (parseMethodDescriptor y_M_situation.desc).map (fun d => d.parameters.length) = some 0 := by decide +kernel
theorem hd_M_stage : y_M_stage.cls ≠ "java/lang/invoke/MethodHandle" ∧ y_M_stage.cls ≠ "java/lang/invoke/VarHandle" ∧ (parseMethodDescriptor y_M_stage.desc).map (fun d => d.parameters.length) = some 1 := by decide +kernel
theorem hd_M_stay : y_M_stay.cls ≠ "java/lang/invoke/MethodHandle" ∧ y_M_stay.cls ≠ "java/lang/invoke/VarHandle" ∧ (parseMethodDescriptor y_M_stay.desc).map (fun d => d.parameters.length) = some 1 := by decide +kernel
theorem hd_M_tick : y_M_tick.cls ≠ "java/lang/invoke/MethodHandle" ∧ y_M_tick.cls ≠ "java/lang/invoke/VarHandle" ∧ (parseMethodDescriptor y_M_tick.desc).map (fun d => d.parameters.length) = some 1 := by decide +kernel
theorem hd_M_visit : y_M_visit.cls ≠ "java/lang/invoke/MethodHandle" ∧ y_M_visit.cls ≠ "java/lang/invoke/VarHandle" ∧ (parseMethodDescriptor y_M_visit.desc).map (fun d => d.parameters.length) = some 4 := by decide +kernel
theorem hd_M_visited : y_M_visited.cls ≠ "java/lang/invoke/MethodHandle" ∧ y_M_visited.cls ≠ "java/lang/invoke/VarHandle" ∧ (parseMethodDescriptor y_M_visited.desc).map (fun d => d.parameters.length) = some 2 := by decide +kernel
theorem hd_M_when : y_M_when.cls ≠ "java/lang/invoke/MethodHandle" ∧ y_M_when.cls ≠ "java/lang/invoke/VarHandle" ∧ (parseMethodDescriptor y_M_when.desc).map (fun d => d.parameters.length) = some 3 := by decide +kernel
theorem hd_J_fill : y_J_fill.cls ≠ "java/lang/invoke/MethodHandle" ∧ y_J_fill.cls ≠ "java/lang/invoke/VarHandle" ∧ (parseMethodDescriptor y_J_fill.desc).map (fun d => d.parameters.length) = some 2 := by decide +kernel
